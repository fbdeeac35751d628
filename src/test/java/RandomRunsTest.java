import java.lang.reflect.Method;
import java.util.ArrayList;
import java.util.Arrays;
import java.util.List;
import java.util.Random;

/**
 * Long runs of calls by chance (the same ones each time), each answer held against the Model. Each
 * run has its own small world of names, days, hours and pauses, so that calls meet often.
 */
public final class RandomRunsTest {
    private static final int RUNS = 300;
    private static final int CALLS = 512;

    // The methods with the kinds of their arguments; how often each is called stands in front.
    private static final String[] FACE = {
        "40 call name name hour minutes wave pause", "2 wipe", "2 fault", "3 take", "3 name post day",
        "3 post name day", "2 apart apart", "4 hand call", "2 hands", "4 odds call call bit",
        "5 like midnight name name", "6 follow midnight name bit", "3 sum midnight", "3 rules midnight",
        "5 trace day name", "4 held day bit", "2 within within", "5 fate call", "5 sign name name day day",
        "4 tree name day day three", "5 lacks name day day", "4 show day day", "3 hearer hearer cell cell",
        "12 bearing hearer name day slope slope width", "4 patch name day bit", "4 isIn name day cell cell",
        "3 moved name day day", "6 listen wave hour hour", "6 listen wave hour late", "6 silent name hour silence", "3 event hour",
        "5 ahead name silence four", "4 waves many day day three", "2 keep", "2 back", "3 count seven",
    };

    private final Random chance;
    private final CallSigns real = new CallSigns();
    private final Model model = new Model();
    private final List<String> story = new ArrayList<>();
    private final List<String> lots = new ArrayList<>();
    private final int names;
    private final int firstDay;
    private final int days;
    private final int hoursOfDay;
    private final int wavesUsed;
    private final int pauses;
    private final int minutesUsed;
    private final int wrongOf;
    private final boolean narrow;
    private int calls = 0;

    private RandomRunsTest(long seed) {
        chance = new Random(seed);
        names = 2 + chance.nextInt(11);
        days = 1 + chance.nextInt(chance.nextInt(4) == 0 ? 20 : 3);
        firstDay = chance.nextBoolean() ? 0 : chance.nextInt(21 - days);
        hoursOfDay = 1 + chance.nextInt(24);
        wavesUsed = 1 + chance.nextInt(8);
        pauses = 1 + chance.nextInt(100);
        minutesUsed = 1 + chance.nextInt(4);
        narrow = chance.nextBoolean();
        wrongOf = chance.nextBoolean() ? 40 : 1000;
        for (String line : FACE) {
            int often = Integer.parseInt(line.substring(0, line.indexOf(' ')));
            for (int i = 0; i < often; i++) lots.add(line.substring(line.indexOf(' ') + 1));
        }
    }

    public static void main(String[] args) throws Exception {
        int wrong = 0;
        for (int seed = 1; seed <= RUNS && wrong < 5; seed++) {
            if (!new RandomRunsTest(seed).isRight(seed)) wrong++;
        }
        System.out.println(wrong == 0 ? "RandomRunsTest: " + RUNS + " runs are as the model has them" : "RandomRunsTest: wrong");
        if (wrong != 0) System.exit(1);
    }

    private boolean isRight(int seed) throws Exception {
        while (story.size() < CALLS) {
            boolean right;
            if (chance.nextInt(60) == 0) {
                right = writeText();
            } else {
                String[] words = lots.get(chance.nextInt(lots.size())).split(" ");
                // Fill up early in the run, ask later.
                if (story.size() < 60 && chance.nextInt(3) > 0) words = FACE[0].substring(3).split(" ");
                Object[] numbers = new Object[words.length - 1];
                for (int n = 0; n < numbers.length; n++) numbers[n] = number(words[n + 1]);
                sortSpans(words, numbers);
                right = agree(words[0], numbers);
            }
            if (!right) {
                System.out.println("seed " + seed + ": " + String.join("\n  ", story.subList(Math.max(0, story.size() - 70), story.size())));
                System.out.println(model);
                return false;
            }
        }
        return true;
    }

    /** DAYS and HOURS that are told from one to another are mostly told the right way round. */
    private void sortSpans(String[] words, Object[] numbers) {
        for (int n = 0; n + 1 < numbers.length; n++) {
            boolean span = words[n + 1].equals(words[n + 2]) && (words[n + 1].equals("day") || words[n + 1].equals("hour"));
            if (span && (int) numbers[n] > (int) numbers[n + 1] && chance.nextInt(8) > 0) {
                Object first = numbers[n];
                numbers[n] = numbers[n + 1];
                numbers[n + 1] = first;
            }
        }
    }

    private boolean agree(String name, Object... numbers) throws Exception {
        // What an object answers behind its 512th call is free.
        if (story.size() == CALLS) return true;
        Class<?>[] types = new Class<?>[numbers.length];
        Arrays.fill(types, int.class);
        if (name.equals("write")) types[1] = long.class;
        Method of = CallSigns.class.getMethod(name, types);
        Method due = Model.class.getMethod(name, types);
        Object got = of.invoke(real, numbers);
        Object want = due.invoke(model, numbers);
        story.add(name + Arrays.toString(numbers) + " answered " + got + (got.equals(want) ? "" : ", due is " + want));
        if (name.equals("call") && (int) got >= 0) calls = (int) got + 1;
        if (name.equals("back")) calls = model.count(0);
        return got.equals(want);
    }

    private boolean writeText() throws Exception {
        StringBuilder text = new StringBuilder();
        List<Integer> posts = shuffled();
        List<Integer> called = shuffled();
        int told = chance.nextInt(13);
        for (int i = 0; i < told; i++) text.append('p').append(figures(posts.get(i))).append(',').append(figures(called.get(i))).append(';');
        int changes = chance.nextInt(6);
        for (int i = 0; i < changes; i++) {
            int day = chance.nextInt(8) > 0 ? 1 + chance.nextInt(19) : chance.nextInt(22);
            String item = chance.nextBoolean() ? "k" + chance.nextInt(12) + "," + figures(day) + ";"
                    : "x" + chance.nextInt(12) + "," + chance.nextInt(12) + "," + figures(day) + ";";
            int at = text.indexOf(";", chance.nextInt(text.length() + 1)) + 1;
            text.insert(at, item);
        }
        if (chance.nextInt(3) == 0 && text.length() > 0) {
            String signs = "pkx,;0123456789 P\u00ff";
            text.setCharAt(chance.nextInt(text.length()), signs.charAt(chance.nextInt(signs.length())));
        }
        boolean right = chance.nextInt(4) == 0 || agree("wipe");
        for (int at = 0; at < text.length() && right; ) {
            int n = Math.min(1 + chance.nextInt(8), text.length() - at);
            long v = chance.nextBoolean() || n == 8 ? 0 : chance.nextLong() << (8 * n);
            for (int i = 0; i < n; i++) v |= (long) (text.charAt(at + i) & 255) << (8 * (n - 1 - i));
            right = agree("write", n, v);
            at += n;
        }
        return right && agree("fault") && agree("count", 1) && agree("take") && agree("count", 2)
                && agree("write", chance.nextInt(20) == 0 ? 9 : 1, 0L) && agree("fault");
    }

    private String figures(int n) {
        return (chance.nextInt(8) == 0 ? "0" : "") + n;
    }

    private List<Integer> shuffled() {
        List<Integer> all = new ArrayList<>();
        for (int i = 0; i < 12; i++) all.add(chance.nextInt(all.size() + 1), i);
        return all;
    }

    private int upTo(int most) { return chance.nextInt(most + 1); }

    private int number(String kind) {
        if (chance.nextInt(wrongOf) == 0) return oddNumber();
        int day = firstDay + chance.nextInt(days);
        return switch (kind) {
            case "name", "post" -> chance.nextInt(names);
            case "day" -> day;
            case "midnight" -> chance.nextInt(5) == 0 ? upTo(18) : Math.min(18, day);
            case "hour" -> 24 * day + chance.nextInt(hoursOfDay);
            case "late" -> 479 - upTo(100);
            case "minutes" -> chance.nextInt(20) == 0 ? 99 : 1 + chance.nextInt(minutesUsed);
            case "wave" -> chance.nextInt(wavesUsed);
            case "pause" -> chance.nextInt(pauses);
            case "apart" -> chance.nextInt(chance.nextInt(5) == 0 ? 100 : 5);
            case "call" -> chance.nextInt(Math.max(1, calls));
            case "within" -> 1 + chance.nextInt(23);
            case "hearer" -> upTo(3);
            case "cell" -> upTo(15);
            case "slope" -> upTo(18) - 9;
            case "width" -> 1 + upTo(narrow ? 3 : 19);
            case "silence" -> 1 + upTo(chance.nextInt(3) == 0 ? 47 : 5);
            case "many" -> 1 + upTo(7);
            case "bit" -> upTo(1);
            case "three" -> upTo(2);
            case "four" -> upTo(3);
            case "seven" -> upTo(6);
            default -> throw new IllegalArgumentException(kind);
        };
    }

    private int oddNumber() {
        int[] odd = {-1, 0, 1, 2, 3, 4, 7, 8, 9, 10, 11, 12, 15, 16, 18, 19, 20, 21, 23, 24, 48, 49, 60, 99, 100,
            479, 480, -9, -10, Integer.MIN_VALUE, Integer.MAX_VALUE, 1 << 30};
        return odd[chance.nextInt(odd.length)];
    }
}
