import java.util.Arrays;

/**
 * What can be told of calls without reading a word of them. The numbered promises of the document
 * say what each call answers; words in capitals in the comments are the document's terms.
 */
public final class CallSigns {
    public static final int BAD = -1, NO = -2, FULL = -3, NONE = -4;

    private static final int NAMES = 12;
    private static final int WAVES = 8;
    private static final int HOURS = 480;
    private static final int DAYS = 20;
    private static final int DAY_HOURS = 24;
    private static final int PAUSES = 100;
    private static final int MINUTES_MOST = 99;
    private static final int WITHIN_MOST = 23;
    private static final int SILENCE_MOST = 48;
    private static final int LACKS_FOR_SHOW = 3;
    private static final int KEPT_MOST = 2;

    private final CallLog log = new CallLog();
    private final Book book = new Book();
    private final Hands handBook = new Hands();
    private final Pairing pairing = new Pairing();
    private final Trail trail = new Trail();
    private final Orders orders = new Orders();
    private final Tree orderTree = new Tree();
    private final Places places = new Places();
    private final Silence silence = new Silence();
    private final Links links = new Links();

    // All that is KEPT only grows, so how much there was is enough to come back to it.
    private final int[] keptCalls = new int[KEPT_MOST];
    private final int[] keptBearings = new int[KEPT_MOST];
    private final int[] keptListened = new int[KEPT_MOST];
    private final int[] keptEvents = new int[KEPT_MOST];
    private int kept = 0;

    public CallSigns() {
    }

    // ---- calls, book

    public int call(int from, int to, int hour, int minutes, int wave, int pause) {
        if (!isName(from) || !isName(to) || from == to || !isHour(hour)) {
            return BAD;
        }
        if (!isAmong(minutes, 1, MINUTES_MOST) || !isWave(wave) || !isAmong(pause, 0, PAUSES - 1)) {
            return BAD;
        }
        if (log.size >= CallLog.MOST) {
            return FULL;
        }
        return log.add(from, to, hour, minutes, wave, pause);
    }

    public int write(int n, long v) {
        if (!isAmong(n, 1, 8)) {
            return BAD;
        }
        if (book.length + n > Book.MOST) {
            return FULL;
        }
        return book.append(n, v);
    }

    public int wipe() {
        int was = book.length;
        book.length = 0;
        return was;
    }

    public int fault() {
        return book.read();
    }

    public int take() {
        if (book.read() != NONE) {
            return NO;
        }
        return book.adopt();
    }

    public int name(int post, int day) {
        if (!isName(post) || !isDay(day)) {
            return BAD;
        }
        return book.nameOn[day][post];
    }

    public int post(int name, int day) {
        if (!isName(name) || !isDay(day)) {
            return BAD;
        }
        return book.postOn[day][name];
    }

    // ---- hands, names

    public int apart(int t) {
        if (!isAmong(t, 0, PAUSES - 1)) {
            return BAD;
        }
        int was = handBook.apart;
        handBook.apart = t;
        return was;
    }

    public int hand(int call) {
        if (!isCall(call)) {
            return BAD;
        }
        handBook.group(log);
        return handBook.handOf(log, call);
    }

    public int hands() {
        handBook.group(log);
        return handBook.size;
    }

    public int odds(int a, int b, int what) {
        if (!isCall(a) || !isCall(b) || a == b || !isAmong(what, 0, 1)) {
            return BAD;
        }
        return what == 0 ? log.pairsAsClose(log.gap(a, b)) : log.size * (log.size - 1) / 2;
    }

    public int like(int day, int a, int b) {
        if (!isMidnight(day) || !isName(a) || !isName(b)) {
            return BAD;
        }
        handBook.group(log);
        pairing.hear(log, handBook, day);
        if (!pairing.today.sends(a) || !pairing.next.sends(b)) {
            return NONE;
        }
        return pairing.today.likeTo(a, pairing.next, b);
    }

    public int follow(int day, int name, int what) {
        if (!isMidnight(day) || !isName(name) || !isAmong(what, 0, 1)) {
            return BAD;
        }
        handBook.group(log);
        if (!pairing.solve(log, handBook, day)) {
            return NO;
        }
        int becomes = pairing.becomes[name];
        if (becomes == NONE || what == 0) {
            return becomes;
        }
        return pairing.isSure(name) ? 1 : 0;
    }

    public int sum(int day) {
        if (!isMidnight(day)) {
            return BAD;
        }
        handBook.group(log);
        return pairing.solve(log, handBook, day) ? pairing.greatest() : NO;
    }

    public int rules(int day) {
        if (!isMidnight(day)) {
            return BAD;
        }
        handBook.group(log);
        return pairing.solve(log, handBook, day) ? pairing.rulesLeft() : NO;
    }

    public int trace(int day, int name) {
        if (!isDay(day) || !isName(name)) {
            return BAD;
        }
        handBook.group(log);
        trail.walk(log, handBook, pairing, day);
        return trail.origin[name];
    }

    public int held(int day, int what) {
        if (!isDay(day) || !isAmong(what, 0, 1)) {
            return BAD;
        }
        handBook.group(log);
        trail.walk(log, handBook, pairing, day);
        if (trail.meetsNo()) {
            return NO;
        }
        return countHeld(day, what == 1);
    }

    // ---- orders, show

    public int within(int h) {
        if (!isAmong(h, 1, WITHIN_MOST)) {
            return BAD;
        }
        int was = orders.within;
        orders.within = h;
        return was;
    }

    public int fate(int call) {
        if (!isCall(call)) {
            return BAD;
        }
        return orders.fateOf(log, call);
    }

    public int sign(int a, int b, int d, int e) {
        if (!isName(a) || !isName(b) || a == b || !isSpan(d, e)) {
            return BAD;
        }
        orders.weighSigns(log, d, e);
        return orders.signs[a * NAMES + b];
    }

    public int tree(int name, int d, int e, int what) {
        if (!isAmong(what, 0, 2) || (what != 2 && !isName(name)) || !isSpan(d, e)) {
            return BAD;
        }
        int members = log.heardOn(d, e);
        if (!isAmong(Integer.bitCount(members), 2, Tree.MOST)) {
            return NO;
        }
        orders.weighSigns(log, d, e);
        orderTree.solve(members, orders.signs);
        if (what == 2) {
            return orderTree.bestSum;
        }
        return what == 0 ? orderTree.nameAbove(name) : orderTree.sureness(name);
    }

    public int lacks(int name, int d, int e) {
        if (!isName(name) || !isSpan(d, e)) {
            return BAD;
        }
        handBook.group(log);
        return orders.lacksOf(log, handBook, name, d, e);
    }

    public int show(int d, int e) {
        if (!isSpan(d, e)) {
            return BAD;
        }
        handBook.group(log);
        int forShow = 0;
        for (int name = 0; name < NAMES; name++) {
            if (Integer.bitCount(orders.lacksOf(log, handBook, name, d, e)) >= LACKS_FOR_SHOW) {
                forShow |= 1 << name;
            }
        }
        return forShow;
    }

    // ---- places, silence

    public int hearer(int hearer, int x, int y) {
        if (!isHearer(hearer) || !isCell(x, y)) {
            return BAD;
        }
        return places.settle(hearer, x, y);
    }

    public int bearing(int hearer, int name, int day, int u, int v, int w) {
        if (!isHearer(hearer) || !isName(name) || !isDay(day)) {
            return BAD;
        }
        if (!isDirection(u, v) || !isAmong(w, 1, Places.WIDEST)) {
            return BAD;
        }
        if (places.size >= Places.MOST) {
            return FULL;
        }
        return places.add(hearer, name, day, u, v, w);
    }

    public int patch(int name, int day, int what) {
        if (!isName(name) || !isDay(day) || !isAmong(what, 0, 1)) {
            return BAD;
        }
        places.fit(name, day, places.cells);
        return what == 0 ? Places.sizeOf(places.cells) : Places.middleOf(places.cells);
    }

    public int isIn(int name, int day, int x, int y) {
        if (!isName(name) || !isDay(day) || !isCell(x, y)) {
            return BAD;
        }
        return places.fitsAll(name, day, x, y) ? 1 : 0;
    }

    public int moved(int name, int day, int other) {
        if (!isName(name) || !isDay(day) || !isDay(other)) {
            return BAD;
        }
        return places.leastWay(name, day, other);
    }

    public int listen(int wave, int a, int b) {
        if (!isWave(wave) || !isHour(a) || !isHour(b) || a > b) {
            return BAD;
        }
        if (silence.listened >= Silence.LISTENED_MOST) {
            return FULL;
        }
        return silence.addListened(wave, a, b);
    }

    public int silent(int name, int t, int s) {
        if (!isName(name) || !isHour(t) || !isSilence(s) || t < s) {
            return BAD;
        }
        silence.measure(log, name);
        return silence.isSilent(t, s) ? 1 : 0;
    }

    public int event(int hour) {
        if (!isHour(hour)) {
            return BAD;
        }
        if (silence.events >= Silence.EVENTS_MOST) {
            return FULL;
        }
        return silence.addEvent(hour);
    }

    public int ahead(int name, int s, int what) {
        if (!isName(name) || !isSilence(s) || !isAmong(what, 0, 3)) {
            return BAD;
        }
        silence.measure(log, name);
        switch (what) {
            case 0:
                return silence.silentEvents(s);
            case 1:
                return silence.eventsFrom(s);
            case 2:
                return silence.silentHours(s);
            default:
                return HOURS - s;
        }
    }

    public int waves(int k, int d, int e, int what) {
        if (!isAmong(k, 1, WAVES) || !isSpan(d, e) || !isAmong(what, 0, 2)) {
            return BAD;
        }
        links.gather(log, d, e);
        if (what == 2) {
            return links.size;
        }
        int best = links.bestWaves(k);
        return what == 0 ? best : links.reachedBy(best);
    }

    public int keep() {
        if (kept >= KEPT_MOST) {
            return FULL;
        }
        keptCalls[kept] = log.size;
        keptBearings[kept] = places.size;
        keptListened[kept] = silence.listened;
        keptEvents[kept] = silence.events;
        kept++;
        return kept;
    }

    public int back() {
        if (kept <= 0) {
            return NO;
        }
        kept--;
        log.size = keptCalls[kept];
        places.size = keptBearings[kept];
        silence.listened = keptListened[kept];
        silence.events = keptEvents[kept];
        return kept;
    }

    public int count(int what) {
        switch (what) {
            case 0:
                return log.size;
            case 1:
                return book.length;
            case 2:
                return book.taken;
            case 3:
                return places.size;
            case 4:
                return silence.listened;
            case 5:
                return silence.events;
            case 6:
                return kept;
            default:
                return BAD;
        }
    }

    // ---- what numbers are told

    private static boolean isAmong(int number, int least, int most) {
        return number >= least && number <= most;
    }

    // POSTS are numbered as NAMES are, so this serves for both.
    private static boolean isName(int name) {
        return isAmong(name, 0, NAMES - 1);
    }

    private static boolean isWave(int wave) {
        return isAmong(wave, 0, WAVES - 1);
    }

    private static boolean isHour(int hour) {
        return isAmong(hour, 0, HOURS - 1);
    }

    private static boolean isDay(int day) {
        return isAmong(day, 0, DAYS - 1);
    }

    // A midnight is told by the DAY ahead of it, and behind the last DAY there is none.
    private static boolean isMidnight(int day) {
        return isAmong(day, 0, DAYS - 2);
    }

    private static boolean isSpan(int d, int e) {
        return isDay(d) && isDay(e) && d <= e;
    }

    private static boolean isHearer(int hearer) {
        return isAmong(hearer, 0, Places.HEARERS - 1);
    }

    private static boolean isCell(int x, int y) {
        return isAmong(x, 0, Places.SIDE - 1) && isAmong(y, 0, Places.SIDE - 1);
    }

    private static boolean isDirection(int u, int v) {
        return isAmong(u, -Places.STEEPEST, Places.STEEPEST)
                && isAmong(v, -Places.STEEPEST, Places.STEEPEST)
                && (u != 0 || v != 0);
    }

    private static boolean isSilence(int s) {
        return isAmong(s, 1, SILENCE_MOST);
    }

    private boolean isCall(int call) {
        return isAmong(call, 0, log.size - 1);
    }

    private int countHeld(int day, boolean rightOnly) {
        int found = 0;
        for (int name = 0; name < NAMES; name++) {
            int origin = trail.origin[name];
            if (origin < 0) {
                continue;
            }
            int now = book.postOn[day][name];
            int then = book.postOn[0][origin];
            if (now != NONE && then != NONE && (!rightOnly || now == then)) {
                found++;
            }
        }
        return found;
    }

    /** The CALLS, one row for each thing that is heard of them. */
    private static final class CallLog {
        static final int MOST = 60;

        final int[] from = new int[MOST];
        final int[] to = new int[MOST];
        final int[] hour = new int[MOST];
        final int[] minutes = new int[MOST];
        final int[] wave = new int[MOST];
        final int[] pause = new int[MOST];
        int size = 0;

        int add(int caller, int called, int atHour, int forMinutes, int onWave, int withPause) {
            int number = size;
            from[number] = caller;
            to[number] = called;
            hour[number] = atHour;
            minutes[number] = forMinutes;
            wave[number] = onWave;
            pause[number] = withPause;
            size++;
            return number;
        }

        boolean isOn(int call, int firstDay, int lastDay) {
            int day = hour[call] / DAY_HOURS;
            return day >= firstDay && day <= lastDay;
        }

        boolean isFromOn(int call, int sender, int firstDay, int lastDay) {
            return from[call] == sender && isOn(call, firstDay, lastDay);
        }

        /** Who SENDS on a DAY, as bits. */
        int sendersOn(int day) {
            int senders = 0;
            for (int call = 0; call < size; call++) {
                if (isOn(call, day, day)) {
                    senders |= 1 << from[call];
                }
            }
            return senders;
        }

        /** Who calls or is called on these DAYS, as bits. */
        int heardOn(int firstDay, int lastDay) {
            int heard = 0;
            for (int call = 0; call < size; call++) {
                if (isOn(call, firstDay, lastDay)) {
                    heard |= 1 << from[call] | 1 << to[call];
                }
            }
            return heard;
        }

        int gap(int a, int b) {
            return Math.abs(pause[a] - pause[b]);
        }

        int pairsAsClose(int widest) {
            int pairs = 0;
            for (int a = 0; a < size; a++) {
                for (int b = a + 1; b < size; b++) {
                    if (gap(a, b) <= widest) {
                        pairs++;
                    }
                }
            }
            return pairs;
        }
    }

    /** THE TEXT, and the BOOK that was TAKEN from it. */
    private static final class Book {
        static final int MOST = 200;
        // The shortest ITEM (p0,0;) takes five bytes.
        private static final int ITEMS_MOST = MOST / 5;
        private static final int FIGURES_MOST = 3;

        final byte[] text = new byte[MOST];
        int length = 0;

        private final int[] numbers = new int[3];
        private final int[] letters = new int[ITEMS_MOST];
        private final int[] firsts = new int[ITEMS_MOST];
        private final int[] seconds = new int[ITEMS_MOST];
        private final int[] thirds = new int[ITEMS_MOST];
        private int items = 0;
        private int postsTold = 0;
        private int namesTold = 0;

        final int[][] nameOn = new int[DAYS][NAMES];
        final int[][] postOn = new int[DAYS][NAMES];
        int taken = 0;

        Book() {
            for (int day = 0; day < DAYS; day++) {
                Arrays.fill(nameOn[day], NONE);
                Arrays.fill(postOn[day], NONE);
            }
        }

        int append(int bytes, long value) {
            for (int left = bytes - 1; left >= 0; left--) {
                text[length] = (byte) (value >>> (8 * left));
                length++;
            }
            return length;
        }

        /** Reads THE TEXT into the rows of ITEMS: its FAULT, or NONE. */
        int read() {
            items = 0;
            postsTold = 0;
            namesTold = 0;
            int at = 0;
            for (int round = 0; round < ITEMS_MOST && at < length; round++) {
                int behind = readItem(at);
                if (behind == NONE) {
                    return at;
                }
                at = behind;
            }
            return NONE;
        }

        /** The place behind the ITEM that begins here, or NONE if it is none. */
        private int readItem(int at) {
            int wanted = numbersBehind(text[at]);
            int place = at + 1;
            for (int n = 0; n < wanted; n++) {
                place = readNumber(place, n);
                int mark = n + 1 < wanted ? ',' : ';';
                if (place == NONE || place >= length || text[place] != mark) {
                    return NONE;
                }
                place++;
            }
            if (wanted == 0 || !isSound(text[at])) {
                return NONE;
            }
            addItem(text[at]);
            return place;
        }

        private static int numbersBehind(int letter) {
            if (letter == 'p' || letter == 'k') {
                return 2;
            }
            return letter == 'x' ? 3 : 0;
        }

        private int readNumber(int place, int n) {
            int value = 0;
            int figures = 0;
            while (figures < FIGURES_MOST && isFigure(place + figures)) {
                value = value * 10 + (text[place + figures] - '0');
                figures++;
            }
            numbers[n] = value;
            return figures == 0 ? NONE : place + figures;
        }

        private boolean isFigure(int place) {
            return place < length && text[place] >= '0' && text[place] <= '9';
        }

        /** Whether the numbers that were read last may stand behind the letter. */
        private boolean isSound(int letter) {
            int first = numbers[0];
            int second = numbers[1];
            if (!isName(first)) {
                return false;
            }
            if (letter == 'k') {
                return isChangeDay(second);
            }
            if (!isName(second)) {
                return false;
            }
            if (letter == 'x') {
                return first != second && isChangeDay(numbers[2]);
            }
            return (postsTold >> first & 1) == 0 && (namesTold >> second & 1) == 0;
        }

        private static boolean isChangeDay(int day) {
            return isAmong(day, 1, DAYS - 1);
        }

        private void addItem(int letter) {
            letters[items] = letter;
            firsts[items] = numbers[0];
            seconds[items] = numbers[1];
            thirds[items] = numbers[2];
            items++;
            if (letter == 'p') {
                postsTold |= 1 << numbers[0];
                namesTold |= 1 << numbers[1];
            }
        }

        /** TAKES the ITEMS that were read last: how many. */
        int adopt() {
            taken = items;
            Arrays.fill(nameOn[0], NONE);
            for (int item = 0; item < items; item++) {
                if (letters[item] == 'p') {
                    nameOn[0][firsts[item]] = seconds[item];
                }
            }
            for (int day = 1; day < DAYS; day++) {
                goOn(day);
                changePlaces(day);
            }
            for (int day = 0; day < DAYS; day++) {
                tellPosts(day);
            }
            return taken;
        }

        private void goOn(int day) {
            int step = stepAt(day);
            for (int post = 0; post < NAMES; post++) {
                int was = nameOn[day - 1][post];
                nameOn[day][post] = was == NONE ? NONE : (was + step) % NAMES;
            }
        }

        private int stepAt(int day) {
            for (int item = items - 1; item >= 0; item--) {
                if (letters[item] == 'k' && seconds[item] <= day) {
                    return firsts[item];
                }
            }
            return 0;
        }

        private void changePlaces(int day) {
            for (int item = 0; item < items; item++) {
                if (letters[item] == 'x' && thirds[item] == day) {
                    swap(nameOn[day], firsts[item], seconds[item]);
                }
            }
        }

        private static void swap(int[] names, int a, int b) {
            for (int post = 0; post < NAMES; post++) {
                if (names[post] == a) {
                    names[post] = b;
                } else if (names[post] == b) {
                    names[post] = a;
                }
            }
        }

        private void tellPosts(int day) {
            Arrays.fill(postOn[day], NONE);
            for (int post = 0; post < NAMES; post++) {
                int called = nameOn[day][post];
                if (called != NONE) {
                    postOn[day][called] = post;
                }
            }
        }
    }

    /** Which CALLS are by one HAND: a matter of their PAUSES alone. */
    private static final class Hands {
        int apart = 3;
        int size = 0;
        private final int[] byPause = new int[PAUSES];

        /** Finds the HANDS of all CALLS; the other methods speak of what was found last. */
        void group(CallLog log) {
            Arrays.fill(byPause, NONE);
            for (int call = log.size - 1; call >= 0; call--) {
                byPause[log.pause[call]] = call;
            }
            joinUpward();
            spreadDownward();
        }

        // Going up, each PAUSE gets the lowest CALL of its HAND as far as the HAND is seen.
        private void joinUpward() {
            size = 0;
            int last = NONE;
            for (int pause = 0; pause < PAUSES; pause++) {
                if (byPause[pause] == NONE) {
                    continue;
                }
                if (last != NONE && pause - last <= apart) {
                    byPause[pause] = Math.min(byPause[pause], byPause[last]);
                } else {
                    size++;
                }
                last = pause;
            }
        }

        // The highest PAUSE of a HAND has seen all of it, so the lower ones take over from there.
        private void spreadDownward() {
            int last = NONE;
            for (int pause = PAUSES - 1; pause >= 0; pause--) {
                if (byPause[pause] == NONE) {
                    continue;
                }
                if (last != NONE && last - pause <= apart) {
                    byPause[pause] = byPause[last];
                }
                last = pause;
            }
        }

        int handOf(CallLog log, int call) {
            return byPause[log.pause[call]];
        }
    }

    /** Those that SEND on one DAY, with their HANDS, WAVES and hours of the day as bits. */
    private static final class Senders {
        final int[] names = new int[NAMES];
        int size = 0;
        private final long[] handBits = new long[NAMES];
        private final int[] waveBits = new int[NAMES];
        private final int[] hourBits = new int[NAMES];

        void hear(CallLog log, Hands hands, int day) {
            Arrays.fill(handBits, 0L);
            Arrays.fill(waveBits, 0);
            Arrays.fill(hourBits, 0);
            for (int call = 0; call < log.size; call++) {
                if (log.isOn(call, day, day)) {
                    int sender = log.from[call];
                    handBits[sender] |= 1L << hands.handOf(log, call);
                    waveBits[sender] |= 1 << log.wave[call];
                    hourBits[sender] |= 1 << (log.hour[call] % DAY_HOURS);
                }
            }
            size = 0;
            for (int name = 0; name < NAMES; name++) {
                if (sends(name)) {
                    names[size] = name;
                    size++;
                }
            }
        }

        // Whoever SENDS does so on some WAVE.
        boolean sends(int name) {
            return waveBits[name] != 0;
        }

        int likeTo(int name, Senders others, int other) {
            return 3 * Long.bitCount(handBits[name] & others.handBits[other])
                    + 2 * Integer.bitCount(waveBits[name] & others.waveBits[other])
                    + Integer.bitCount(hourBits[name] & others.hourBits[other]);
        }
    }

    /**
     * The pairing FOLLOWED at a midnight. The senders of the DAY are gone through from the lowest
     * on; the set of those of the next DAY that are used up is all that matters to the later ones.
     * The number behind the last one of the next DAY stands for none: so it is the last choice.
     */
    private static final class Pairing {
        private static final int MOST = 8;
        private static final int SETS = 1 << MOST;

        final Senders today = new Senders();
        final Senders next = new Senders();
        final int[] becomes = new int[NAMES];
        final int[] cameFrom = new int[NAMES];
        private final int[] likes = new int[MOST * MOST];
        // bests[i * SETS + used]: the greatest sum of the i-th sender and all behind it.
        private final int[] bests = new int[(MOST + 1) * SETS];
        private final boolean[] reached = new boolean[(MOST + 1) * SETS];
        private int sure = 0;

        void hear(CallLog log, Hands hands, int day) {
            today.hear(log, hands, day);
            next.hear(log, hands, day + 1);
        }

        /** False: the pairing is NO. Else the other methods speak of this midnight. */
        boolean solve(CallLog log, Hands hands, int day) {
            hear(log, hands, day);
            if (today.size > MOST || next.size > MOST) {
                return false;
            }
            for (int i = 0; i < today.size; i++) {
                for (int j = 0; j < next.size; j++) {
                    likes[i * MOST + j] = today.likeTo(today.names[i], next, next.names[j]);
                }
            }
            findBests();
            choose();
            findSure();
            return true;
        }

        int greatest() {
            return bests[0];
        }

        boolean isSure(int name) {
            return (sure >> name & 1) != 0;
        }

        int rulesLeft() {
            int left = (1 << NAMES) - 1;
            for (int name = 0; name < NAMES; name++) {
                if (isSure(name)) {
                    left &= 1 << ((becomes[name] - name + NAMES) % NAMES);
                }
            }
            return left;
        }

        private void findBests() {
            int sets = 1 << next.size;
            for (int used = 0; used < sets; used++) {
                bests[today.size * SETS + used] = 0;
            }
            for (int i = today.size - 1; i >= 0; i--) {
                for (int used = 0; used < sets; used++) {
                    // More cannot be used up than there are senders ahead of this one.
                    if (Integer.bitCount(used) <= i) {
                        bests[i * SETS + used] = bestFrom(i, used);
                    }
                }
            }
        }

        private int bestFrom(int i, int used) {
            int best = 0;
            for (int j = 0; j <= next.size; j++) {
                best = Math.max(best, sumWith(i, used, j));
            }
            return best;
        }

        /** The sum from the i-th sender on, if it goes with the j-th one; NO: it may not. */
        private int sumWith(int i, int used, int j) {
            if (j >= next.size) {
                return bests[(i + 1) * SETS + used];
            }
            int like = likes[i * MOST + j];
            if (like == 0 || (used >> j & 1) != 0) {
                return NO;
            }
            return like + bests[(i + 1) * SETS + (used | 1 << j)];
        }

        private int usedWith(int used, int j) {
            return j >= next.size ? used : used | 1 << j;
        }

        private boolean keepsBest(int i, int used, int j) {
            return sumWith(i, used, j) == bests[i * SETS + used];
        }

        private void choose() {
            Arrays.fill(becomes, NONE);
            Arrays.fill(cameFrom, NONE);
            int used = 0;
            for (int i = 0; i < today.size; i++) {
                int j = firstChoice(i, used);
                used = usedWith(used, j);
                if (j < next.size) {
                    becomes[today.names[i]] = next.names[j];
                    cameFrom[next.names[j]] = today.names[i];
                }
            }
        }

        private int firstChoice(int i, int used) {
            for (int j = 0; j < next.size; j++) {
                if (keepsBest(i, used, j)) {
                    return j;
                }
            }
            return next.size;
        }

        // A pair is SURE, if on every way to the greatest sum its sender has this one choice.
        private void findSure() {
            sure = 0;
            clearReached();
            reached[0] = true;
            for (int i = 0; i < today.size; i++) {
                int choices = choicesOf(i);
                boolean maybeNone = (choices >> next.size & 1) != 0;
                if (!maybeNone && Integer.bitCount(choices) == 1) {
                    sure |= 1 << today.names[i];
                }
            }
        }

        private void clearReached() {
            for (int i = 0; i <= today.size; i++) {
                for (int used = 0; used < 1 << next.size; used++) {
                    reached[i * SETS + used] = false;
                }
            }
        }

        /** All that the i-th sender goes with on ways to the greatest sum, as bits. */
        private int choicesOf(int i) {
            int choices = 0;
            for (int used = 0; used < 1 << next.size; used++) {
                if (!reached[i * SETS + used]) {
                    continue;
                }
                for (int j = 0; j <= next.size; j++) {
                    if (keepsBest(i, used, j)) {
                        choices |= 1 << j;
                        reached[(i + 1) * SETS + usedWith(used, j)] = true;
                    }
                }
            }
            return choices;
        }
    }

    /** From which NAMES of DAY 0 those of a DAY come, or NONE or NO: all of them at once. */
    private static final class Trail {
        final int[] origin = new int[NAMES];

        void walk(CallLog log, Hands hands, Pairing pairing, int day) {
            int senders = log.sendersOn(day);
            for (int name = 0; name < NAMES; name++) {
                origin[name] = (senders >> name & 1) != 0 ? name : NONE;
            }
            for (int midnight = day - 1; midnight >= 0 && isOpen(); midnight--) {
                stepBack(pairing, pairing.solve(log, hands, midnight));
            }
        }

        private boolean isOpen() {
            for (int name = 0; name < NAMES; name++) {
                if (origin[name] >= 0) {
                    return true;
                }
            }
            return false;
        }

        private void stepBack(Pairing pairing, boolean solved) {
            for (int name = 0; name < NAMES; name++) {
                if (origin[name] >= 0) {
                    origin[name] = solved ? pairing.cameFrom[origin[name]] : NO;
                }
            }
        }

        boolean meetsNo() {
            for (int name = 0; name < NAMES; name++) {
                if (origin[name] == NO) {
                    return true;
                }
            }
            return false;
        }
    }

    /** Who answers whom and who passes on, and what talk lacks. */
    private static final class Orders {
        private static final int ANSWERED = 1;
        private static final int PASSED_ON = 2;

        int within = 2;
        // signs[a * NAMES + b]: SIGN of a above b.
        final int[] signs = new int[NAMES * NAMES];

        int fateOf(CallLog log, int call) {
            int fate = 0;
            for (int later = 0; later < log.size; later++) {
                if (answers(log, call, later)) {
                    fate |= ANSWERED;
                } else if (passesOn(log, call, later)) {
                    fate |= PASSED_ON;
                }
            }
            return fate;
        }

        private boolean answers(CallLog log, int call, int later) {
            return isTakenUp(log, call, later) && log.to[later] == log.from[call];
        }

        private boolean passesOn(CallLog log, int call, int later) {
            return isTakenUp(log, call, later) && log.to[later] != log.from[call]
                    && log.minutes[later] == log.minutes[call];
        }

        /** Whether whom the CALL is to makes the later one in time. */
        private boolean isTakenUp(CallLog log, int call, int later) {
            if (log.from[later] != log.to[call]) {
                return false;
            }
            int wait = log.hour[later] - log.hour[call];
            return wait == 0 ? later > call : wait > 0 && wait <= within;
        }

        void weighSigns(CallLog log, int firstDay, int lastDay) {
            Arrays.fill(signs, 0);
            for (int call = 0; call < log.size; call++) {
                if (log.isOn(call, firstDay, lastDay)) {
                    int fate = fateOf(log, call);
                    int weight = ((fate & ANSWERED) != 0 ? 2 : 0) + ((fate & PASSED_ON) != 0 ? 3 : 0);
                    signs[log.from[call] * NAMES + log.to[call]] += weight;
                }
            }
        }

        int lacksOf(CallLog log, Hands hands, int name, int firstDay, int lastDay) {
            int calls = 0;
            int first = 0;
            boolean answered = false;
            boolean answering = false;
            boolean oneLength = true;
            boolean oneHand = true;
            for (int call = 0; call < log.size; call++) {
                if (!log.isFromOn(call, name, firstDay, lastDay)) {
                    continue;
                }
                first = calls == 0 ? call : first;
                calls++;
                answered |= (fateOf(log, call) & ANSWERED) != 0;
                answering |= answersAny(log, call);
                oneLength &= log.minutes[call] == log.minutes[first];
                oneHand &= hands.handOf(log, call) == hands.handOf(log, first);
            }
            if (calls == 0) {
                return 0;
            }
            boolean shared = oneHand && isShared(log, hands, first, firstDay, lastDay);
            return (answered ? 0 : 1) | (answering ? 0 : 2) | (calls >= 2 && oneLength ? 4 : 0)
                    | (shared ? 8 : 0);
        }

        private boolean answersAny(CallLog log, int call) {
            for (int earlier = 0; earlier < log.size; earlier++) {
                if (answers(log, earlier, call)) {
                    return true;
                }
            }
            return false;
        }

        /** Whether another NAME sends on these DAYS with the HAND of the CALL. */
        private boolean isShared(CallLog log, Hands hands, int call, int firstDay, int lastDay) {
            for (int other = 0; other < log.size; other++) {
                if (log.from[other] != log.from[call] && log.isOn(other, firstDay, lastDay)
                        && hands.handOf(log, other) == hands.handOf(log, call)) {
                    return true;
                }
            }
            return false;
        }
    }

    /**
     * The TREE of orders. Trees are gone through in the document's own order of preference, so the
     * first one of the greatest sum is the one that is told.
     */
    private static final class Tree {
        static final int MOST = 6;
        private static final int OPEN = -1;
        private static final int ROOT = -2;

        int bestSum = 0;
        private int size = 0;
        private final int[] members = new int[MOST];
        private final int[] signs = new int[MOST * MOST];
        // hope[i]: no links of the i-th member and those behind it can bring more.
        private final int[] hope = new int[MOST + 1];
        private final int[] above = new int[MOST];
        private final int[] best = new int[MOST];
        private int sure = 0;

        void solve(int memberBits, int[] signsOfNames) {
            gather(memberBits);
            for (int i = 0; i < size; i++) {
                for (int j = 0; j < size; j++) {
                    signs[i * MOST + j] = signsOfNames[members[i] * NAMES + members[j]];
                }
            }
            setHope();
            Arrays.fill(above, OPEN);
            bestSum = -1;
            sure = 0;
            grow(0, 0, false);
        }

        private void gather(int memberBits) {
            size = 0;
            for (int name = 0; name < NAMES && size < MOST; name++) {
                if ((memberBits >> name & 1) != 0) {
                    members[size] = name;
                    size++;
                }
            }
        }

        private void setHope() {
            hope[size] = 0;
            for (int below = size - 1; below >= 0; below--) {
                int most = 0;
                for (int over = 0; over < size; over++) {
                    most = Math.max(most, signs[over * MOST + below]);
                }
                hope[below] = hope[below + 1] + most;
            }
        }

        /** Tries all that may stand above the member and those behind it; size keeps it low. */
        private void grow(int member, int sum, boolean rooted) {
            if (isVain(sum + hope[member])) {
                return;
            }
            if (member >= size) {
                weigh(sum);
                return;
            }
            for (int over = 0; over < size; over++) {
                if (!isUnder(over, member)) {
                    above[member] = over;
                    grow(member + 1, sum + signs[over * MOST + member], rooted);
                    above[member] = OPEN;
                }
            }
            if (!rooted) {
                above[member] = ROOT;
                grow(member + 1, sum, true);
                above[member] = OPEN;
            }
        }

        // As good a tree as the best one can still show that a link is not SURE, but no more.
        private boolean isVain(int hoped) {
            return hoped < bestSum || (hoped == bestSum && sure == 0);
        }

        private boolean isUnder(int member, int over) {
            int at = member;
            for (int step = 0; step < size && at >= 0; step++) {
                if (at == over) {
                    return true;
                }
                at = above[at];
            }
            return false;
        }

        private void weigh(int sum) {
            if (sum > bestSum) {
                bestSum = sum;
                sure = 0;
                for (int i = 0; i < size; i++) {
                    best[i] = above[i];
                    sure |= above[i] == ROOT ? 0 : 1 << i;
                }
            } else if (sum == bestSum) {
                for (int i = 0; i < size; i++) {
                    sure &= above[i] == best[i] ? -1 : ~(1 << i);
                }
            }
        }

        int nameAbove(int name) {
            int member = memberOf(name);
            return member == NONE || best[member] < 0 ? NONE : members[best[member]];
        }

        int sureness(int name) {
            int member = memberOf(name);
            return member == NONE || best[member] < 0 ? NONE : sure >> member & 1;
        }

        private int memberOf(int name) {
            for (int i = 0; i < size; i++) {
                if (members[i] == name) {
                    return i;
                }
            }
            return NONE;
        }
    }

    /** HEARERS, BEARINGS and the PATCHES where they cross; a PATCH is a row of bits y for each x. */
    private static final class Places {
        static final int HEARERS = 4;
        static final int SIDE = 16;
        static final int STEEPEST = 9;
        static final int WIDEST = 20;
        static final int MOST = 40;
        private static final int COLUMN = (1 << SIDE) - 1;

        final int[] hearerX = new int[HEARERS];
        final int[] hearerY = new int[HEARERS];
        final int[] hearers = new int[MOST];
        final int[] names = new int[MOST];
        final int[] days = new int[MOST];
        final int[] us = new int[MOST];
        final int[] vs = new int[MOST];
        final int[] ws = new int[MOST];
        int size = 0;
        final int[] cells = new int[SIDE];
        final int[] otherCells = new int[SIDE];

        int settle(int hearer, int x, int y) {
            int was = SIDE * hearerX[hearer] + hearerY[hearer];
            hearerX[hearer] = x;
            hearerY[hearer] = y;
            return was;
        }

        int add(int hearer, int name, int day, int u, int v, int w) {
            hearers[size] = hearer;
            names[size] = name;
            days[size] = day;
            us[size] = u;
            vs[size] = v;
            ws[size] = w;
            size++;
            return size;
        }

        private boolean fits(int bearing, int x, int y) {
            int dx = x - hearerX[hearers[bearing]];
            int dy = y - hearerY[hearers[bearing]];
            int along = us[bearing] * dx + vs[bearing] * dy;
            int across = Math.abs(us[bearing] * dy - vs[bearing] * dx);
            return along > 0 && 10 * across <= ws[bearing] * along;
        }

        boolean fitsAll(int name, int day, int x, int y) {
            for (int bearing = 0; bearing < size; bearing++) {
                if (names[bearing] == name && days[bearing] == day && !fits(bearing, x, y)) {
                    return false;
                }
            }
            return true;
        }

        /** Puts the PATCH of a NAME on a DAY into a row. */
        void fit(int name, int day, int[] patch) {
            for (int x = 0; x < SIDE; x++) {
                patch[x] = 0;
                for (int y = 0; y < SIDE; y++) {
                    patch[x] |= fitsAll(name, day, x, y) ? 1 << y : 0;
                }
            }
        }

        static int sizeOf(int[] patch) {
            int found = 0;
            for (int x = 0; x < SIDE; x++) {
                found += Integer.bitCount(patch[x]);
            }
            return found;
        }

        static int middleOf(int[] patch) {
            int found = sizeOf(patch);
            if (found == 0) {
                return NONE;
            }
            int sumX = 0;
            int sumY = 0;
            for (int x = 0; x < SIDE; x++) {
                sumX += x * Integer.bitCount(patch[x]);
                for (int y = 0; y < SIDE; y++) {
                    sumY += y * (patch[x] >> y & 1);
                }
            }
            return SIDE * (sumX / found) + sumY / found;
        }

        int leastWay(int name, int day, int other) {
            fit(name, day, cells);
            fit(name, other, otherCells);
            // Any two CELLS are less than SIDE apart, so only with an empty PATCH they never meet.
            for (int way = 0; way < SIDE; way++) {
                if (doMeet(cells, otherCells)) {
                    return way;
                }
                widen(cells);
            }
            return NONE;
        }

        private static boolean doMeet(int[] patch, int[] other) {
            for (int x = 0; x < SIDE; x++) {
                if ((patch[x] & other[x]) != 0) {
                    return true;
                }
            }
            return false;
        }

        /** Adds all CELLS that are one away, slantwise too. */
        private static void widen(int[] patch) {
            int before = 0;
            for (int x = 0; x < SIDE; x++) {
                int here = patch[x];
                int behind = x + 1 < SIDE ? patch[x + 1] : 0;
                int joined = before | here | behind;
                patch[x] = (joined | joined << 1 | joined >> 1) & COLUMN;
                before = here;
            }
        }
    }

    /** What was LISTENED to, EVENTS, and who was SILENT ahead of them. */
    private static final class Silence {
        static final int LISTENED_MOST = 20;
        static final int EVENTS_MOST = 10;

        int listened = 0;
        int events = 0;
        private final int[] waves = new int[LISTENED_MOST];
        private final int[] starts = new int[LISTENED_MOST];
        private final int[] ends = new int[LISTENED_MOST];
        private final int[] eventHours = new int[EVENTS_MOST];
        private final int[] heardWaves = new int[HOURS];
        // For how many HOURS just ahead of each one the NAME is known to have kept still.
        private final int[] still = new int[HOURS];

        int addListened(int wave, int a, int b) {
            waves[listened] = wave;
            starts[listened] = a;
            ends[listened] = b;
            listened++;
            return listened;
        }

        int addEvent(int hour) {
            eventHours[events] = hour;
            events++;
            return events;
        }

        /** Finds how long a NAME is SILENT ahead of each HOUR, for the methods below. */
        void measure(CallLog log, int name) {
            int needed = 0;
            for (int call = 0; call < log.size; call++) {
                needed |= log.from[call] == name ? 1 << log.wave[call] : 0;
            }
            gatherHeard();
            for (int call = 0; call < log.size; call++) {
                if (log.from[call] == name) {
                    heardWaves[log.hour[call]] = 0;
                }
            }
            still[0] = 0;
            for (int hour = 1; hour < HOURS; hour++) {
                boolean quiet = needed != 0 && (heardWaves[hour - 1] & needed) == needed;
                still[hour] = quiet ? still[hour - 1] + 1 : 0;
            }
        }

        private void gatherHeard() {
            Arrays.fill(heardWaves, 0);
            for (int i = 0; i < listened; i++) {
                for (int hour = starts[i]; hour <= ends[i]; hour++) {
                    heardWaves[hour] |= 1 << waves[i];
                }
            }
        }

        boolean isSilent(int hour, int hours) {
            return still[hour] >= hours;
        }

        int silentEvents(int hours) {
            int found = 0;
            for (int i = 0; i < events; i++) {
                found += isSilent(eventHours[i], hours) ? 1 : 0;
            }
            return found;
        }

        int eventsFrom(int hour) {
            int found = 0;
            for (int i = 0; i < events; i++) {
                found += eventHours[i] >= hour ? 1 : 0;
            }
            return found;
        }

        int silentHours(int hours) {
            int found = 0;
            for (int hour = hours; hour < HOURS; hour++) {
                found += isSilent(hour, hours) ? 1 : 0;
            }
            return found;
        }
    }

    /** LINKS with the WAVES on which they have CALLS, and the WAVES that reach most of them. */
    private static final class Links {
        int size = 0;
        private final int[] waveBits = new int[NAMES * NAMES];

        void gather(CallLog log, int firstDay, int lastDay) {
            size = 0;
            Arrays.fill(waveBits, 0);
            for (int call = 0; call < log.size; call++) {
                if (log.isOn(call, firstDay, lastDay)) {
                    int link = log.from[call] * NAMES + log.to[call];
                    size += waveBits[link] == 0 ? 1 : 0;
                    waveBits[link] |= 1 << log.wave[call];
                }
            }
        }

        int bestWaves(int howMany) {
            int best = 0;
            int most = -1;
            for (int waves = 0; waves < 1 << WAVES; waves++) {
                if (Integer.bitCount(waves) == howMany) {
                    int reached = reachedBy(waves);
                    if (reached > most) {
                        most = reached;
                        best = waves;
                    }
                }
            }
            return best;
        }

        int reachedBy(int waves) {
            int found = 0;
            for (int link = 0; link < waveBits.length; link++) {
                found += (waveBits[link] & waves) != 0 ? 1 : 0;
            }
            return found;
        }
    }
}
