theorem v_Book_init : Cond.instanceMethod (mY m_Book_init) ∈ lw_good := lw_in 145 (by decide +kernel) (by decide +kernel)
theorem v_Book_append : Cond.instanceMethod (mY m_Book_append) ∈ lw_good ∧ Cond.selects (mY m_Book_append).cls (mY m_Book_append) (mY m_Book_append) ∈ lw_good := ⟨lw_in 495 (by decide +kernel) (by decide +kernel), lw_in 496 (by decide +kernel) (by decide +kernel)⟩
theorem v_Book_read : Cond.instanceMethod (mY m_Book_read) ∈ lw_good ∧ Cond.selects (mY m_Book_read).cls (mY m_Book_read) (mY m_Book_read) ∈ lw_good := ⟨lw_in 507 (by decide +kernel) (by decide +kernel), lw_in 508 (by decide +kernel) (by decide +kernel)⟩
theorem v_Book_readItem : Cond.instanceMethod (mY m_Book_readItem) ∈ lw_good ∧ Cond.selects (mY m_Book_readItem).cls (mY m_Book_readItem) (mY m_Book_readItem) ∈ lw_good := ⟨lw_in 512 (by decide +kernel) (by decide +kernel), lw_in 0 (by decide +kernel) (by decide +kernel)⟩
theorem v_Book_numbersBehind : Cond.static (mY m_Book_numbersBehind) ∈ lw_good := lw_in 515 (by decide +kernel) (by decide +kernel)
theorem v_Book_readNumber : Cond.instanceMethod (mY m_Book_readNumber) ∈ lw_good ∧ Cond.selects (mY m_Book_readNumber).cls (mY m_Book_readNumber) (mY m_Book_readNumber) ∈ lw_good := ⟨lw_in 519 (by decide +kernel) (by decide +kernel), lw_in 1 (by decide +kernel) (by decide +kernel)⟩
theorem v_Book_isFigure : Cond.instanceMethod (mY m_Book_isFigure) ∈ lw_good ∧ Cond.selects (mY m_Book_isFigure).cls (mY m_Book_isFigure) (mY m_Book_isFigure) ∈ lw_good := ⟨lw_in 523 (by decide +kernel) (by decide +kernel), lw_in 2 (by decide +kernel) (by decide +kernel)⟩
theorem v_Book_isSound : Cond.instanceMethod (mY m_Book_isSound) ∈ lw_good ∧ Cond.selects (mY m_Book_isSound).cls (mY m_Book_isSound) (mY m_Book_isSound) ∈ lw_good := ⟨lw_in 527 (by decide +kernel) (by decide +kernel), lw_in 3 (by decide +kernel) (by decide +kernel)⟩
theorem v_Book_isChangeDay : Cond.static (mY m_Book_isChangeDay) ∈ lw_good := lw_in 531 (by decide +kernel) (by decide +kernel)
theorem v_Book_addItem : Cond.instanceMethod (mY m_Book_addItem) ∈ lw_good ∧ Cond.selects (mY m_Book_addItem).cls (mY m_Book_addItem) (mY m_Book_addItem) ∈ lw_good := ⟨lw_in 536 (by decide +kernel) (by decide +kernel), lw_in 4 (by decide +kernel) (by decide +kernel)⟩
theorem v_Book_adopt : Cond.instanceMethod (mY m_Book_adopt) ∈ lw_good ∧ Cond.selects (mY m_Book_adopt).cls (mY m_Book_adopt) (mY m_Book_adopt) ∈ lw_good := ⟨lw_in 543 (by decide +kernel) (by decide +kernel), lw_in 544 (by decide +kernel) (by decide +kernel)⟩
theorem v_Book_goOn : Cond.instanceMethod (mY m_Book_goOn) ∈ lw_good ∧ Cond.selects (mY m_Book_goOn).cls (mY m_Book_goOn) (mY m_Book_goOn) ∈ lw_good := ⟨lw_in 548 (by decide +kernel) (by decide +kernel), lw_in 5 (by decide +kernel) (by decide +kernel)⟩
theorem v_Book_stepAt : Cond.instanceMethod (mY m_Book_stepAt) ∈ lw_good ∧ Cond.selects (mY m_Book_stepAt).cls (mY m_Book_stepAt) (mY m_Book_stepAt) ∈ lw_good := ⟨lw_in 552 (by decide +kernel) (by decide +kernel), lw_in 6 (by decide +kernel) (by decide +kernel)⟩
theorem v_Book_changePlaces : Cond.instanceMethod (mY m_Book_changePlaces) ∈ lw_good ∧ Cond.selects (mY m_Book_changePlaces).cls (mY m_Book_changePlaces) (mY m_Book_changePlaces) ∈ lw_good := ⟨lw_in 556 (by decide +kernel) (by decide +kernel), lw_in 7 (by decide +kernel) (by decide +kernel)⟩
theorem v_Book_swap : Cond.static (mY m_Book_swap) ∈ lw_good := lw_in 559 (by decide +kernel) (by decide +kernel)
theorem v_Book_tellPosts : Cond.instanceMethod (mY m_Book_tellPosts) ∈ lw_good ∧ Cond.selects (mY m_Book_tellPosts).cls (mY m_Book_tellPosts) (mY m_Book_tellPosts) ∈ lw_good := ⟨lw_in 563 (by decide +kernel) (by decide +kernel), lw_in 8 (by decide +kernel) (by decide +kernel)⟩
theorem v_CallLog_init : Cond.instanceMethod (mY m_CallLog_init) ∈ lw_good := lw_in 96 (by decide +kernel) (by decide +kernel)
theorem v_CallLog_add : Cond.instanceMethod (mY m_CallLog_add) ∈ lw_good ∧ Cond.selects (mY m_CallLog_add).cls (mY m_CallLog_add) (mY m_CallLog_add) ∈ lw_good := ⟨lw_in 487 (by decide +kernel) (by decide +kernel), lw_in 488 (by decide +kernel) (by decide +kernel)⟩
theorem v_CallLog_isOn : Cond.instanceMethod (mY m_CallLog_isOn) ∈ lw_good ∧ Cond.selects (mY m_CallLog_isOn).cls (mY m_CallLog_isOn) (mY m_CallLog_isOn) ∈ lw_good := ⟨lw_in 648 (by decide +kernel) (by decide +kernel), lw_in 649 (by decide +kernel) (by decide +kernel)⟩
theorem v_CallLog_isFromOn : Cond.instanceMethod (mY m_CallLog_isFromOn) ∈ lw_good ∧ Cond.selects (mY m_CallLog_isFromOn).cls (mY m_CallLog_isFromOn) (mY m_CallLog_isFromOn) ∈ lw_good := ⟨lw_in 881 (by decide +kernel) (by decide +kernel), lw_in 882 (by decide +kernel) (by decide +kernel)⟩
theorem v_CallLog_sendersOn : Cond.instanceMethod (mY m_CallLog_sendersOn) ∈ lw_good ∧ Cond.selects (mY m_CallLog_sendersOn).cls (mY m_CallLog_sendersOn) (mY m_CallLog_sendersOn) ∈ lw_good := ⟨lw_in 758 (by decide +kernel) (by decide +kernel), lw_in 759 (by decide +kernel) (by decide +kernel)⟩
theorem v_CallLog_heardOn : Cond.instanceMethod (mY m_CallLog_heardOn) ∈ lw_good ∧ Cond.selects (mY m_CallLog_heardOn).cls (mY m_CallLog_heardOn) (mY m_CallLog_heardOn) ∈ lw_good := ⟨lw_in 826 (by decide +kernel) (by decide +kernel), lw_in 827 (by decide +kernel) (by decide +kernel)⟩
theorem v_CallLog_gap : Cond.instanceMethod (mY m_CallLog_gap) ∈ lw_good ∧ Cond.selects (mY m_CallLog_gap).cls (mY m_CallLog_gap) (mY m_CallLog_gap) ∈ lw_good := ⟨lw_in 617 (by decide +kernel) (by decide +kernel), lw_in 618 (by decide +kernel) (by decide +kernel)⟩
theorem v_CallLog_pairsAsClose : Cond.instanceMethod (mY m_CallLog_pairsAsClose) ∈ lw_good ∧ Cond.selects (mY m_CallLog_pairsAsClose).cls (mY m_CallLog_pairsAsClose) (mY m_CallLog_pairsAsClose) ∈ lw_good := ⟨lw_in 624 (by decide +kernel) (by decide +kernel), lw_in 625 (by decide +kernel) (by decide +kernel)⟩
theorem v_Hands_init : Cond.instanceMethod (mY m_Hands_init) ∈ lw_good := lw_in 201 (by decide +kernel) (by decide +kernel)
theorem v_Hands_group : Cond.instanceMethod (mY m_Hands_group) ∈ lw_good ∧ Cond.selects (mY m_Hands_group).cls (mY m_Hands_group) (mY m_Hands_group) ∈ lw_good := ⟨lw_in 589 (by decide +kernel) (by decide +kernel), lw_in 590 (by decide +kernel) (by decide +kernel)⟩
theorem v_Hands_joinUpward : Cond.instanceMethod (mY m_Hands_joinUpward) ∈ lw_good ∧ Cond.selects (mY m_Hands_joinUpward).cls (mY m_Hands_joinUpward) (mY m_Hands_joinUpward) ∈ lw_good := ⟨lw_in 595 (by decide +kernel) (by decide +kernel), lw_in 10 (by decide +kernel) (by decide +kernel)⟩
theorem v_Hands_spreadDownward : Cond.instanceMethod (mY m_Hands_spreadDownward) ∈ lw_good ∧ Cond.selects (mY m_Hands_spreadDownward).cls (mY m_Hands_spreadDownward) (mY m_Hands_spreadDownward) ∈ lw_good := ⟨lw_in 602 (by decide +kernel) (by decide +kernel), lw_in 11 (by decide +kernel) (by decide +kernel)⟩
theorem v_Hands_handOf : Cond.instanceMethod (mY m_Hands_handOf) ∈ lw_good ∧ Cond.selects (mY m_Hands_handOf).cls (mY m_Hands_handOf) (mY m_Hands_handOf) ∈ lw_good := ⟨lw_in 605 (by decide +kernel) (by decide +kernel), lw_in 606 (by decide +kernel) (by decide +kernel)⟩
theorem v_Links_init : Cond.instanceMethod (mY m_Links_init) ∈ lw_good := lw_in 413 (by decide +kernel) (by decide +kernel)
theorem v_Links_gather : Cond.instanceMethod (mY m_Links_gather) ∈ lw_good ∧ Cond.selects (mY m_Links_gather).cls (mY m_Links_gather) (mY m_Links_gather) ∈ lw_good := ⟨lw_in 1026 (by decide +kernel) (by decide +kernel), lw_in 1027 (by decide +kernel) (by decide +kernel)⟩
theorem v_Links_bestWaves : Cond.instanceMethod (mY m_Links_bestWaves) ∈ lw_good ∧ Cond.selects (mY m_Links_bestWaves).cls (mY m_Links_bestWaves) (mY m_Links_bestWaves) ∈ lw_good := ⟨lw_in 1032 (by decide +kernel) (by decide +kernel), lw_in 1033 (by decide +kernel) (by decide +kernel)⟩
theorem v_Links_reachedBy : Cond.instanceMethod (mY m_Links_reachedBy) ∈ lw_good ∧ Cond.selects (mY m_Links_reachedBy).cls (mY m_Links_reachedBy) (mY m_Links_reachedBy) ∈ lw_good := ⟨lw_in 1037 (by decide +kernel) (by decide +kernel), lw_in 1038 (by decide +kernel) (by decide +kernel)⟩
theorem v_Orders_init : Cond.instanceMethod (mY m_Orders_init) ∈ lw_good := lw_in 291 (by decide +kernel) (by decide +kernel)
theorem v_Orders_fateOf : Cond.instanceMethod (mY m_Orders_fateOf) ∈ lw_good ∧ Cond.selects (mY m_Orders_fateOf).cls (mY m_Orders_fateOf) (mY m_Orders_fateOf) ∈ lw_good := ⟨lw_in 792 (by decide +kernel) (by decide +kernel), lw_in 793 (by decide +kernel) (by decide +kernel)⟩
theorem v_Orders_answers : Cond.instanceMethod (mY m_Orders_answers) ∈ lw_good ∧ Cond.selects (mY m_Orders_answers).cls (mY m_Orders_answers) (mY m_Orders_answers) ∈ lw_good := ⟨lw_in 797 (by decide +kernel) (by decide +kernel), lw_in 25 (by decide +kernel) (by decide +kernel)⟩
theorem v_Orders_passesOn : Cond.instanceMethod (mY m_Orders_passesOn) ∈ lw_good ∧ Cond.selects (mY m_Orders_passesOn).cls (mY m_Orders_passesOn) (mY m_Orders_passesOn) ∈ lw_good := ⟨lw_in 805 (by decide +kernel) (by decide +kernel), lw_in 27 (by decide +kernel) (by decide +kernel)⟩
theorem v_Orders_isTakenUp : Cond.instanceMethod (mY m_Orders_isTakenUp) ∈ lw_good ∧ Cond.selects (mY m_Orders_isTakenUp).cls (mY m_Orders_isTakenUp) (mY m_Orders_isTakenUp) ∈ lw_good := ⟨lw_in 801 (by decide +kernel) (by decide +kernel), lw_in 26 (by decide +kernel) (by decide +kernel)⟩
theorem v_Orders_weighSigns : Cond.instanceMethod (mY m_Orders_weighSigns) ∈ lw_good ∧ Cond.selects (mY m_Orders_weighSigns).cls (mY m_Orders_weighSigns) (mY m_Orders_weighSigns) ∈ lw_good := ⟨lw_in 815 (by decide +kernel) (by decide +kernel), lw_in 816 (by decide +kernel) (by decide +kernel)⟩
theorem v_Orders_lacksOf : Cond.instanceMethod (mY m_Orders_lacksOf) ∈ lw_good ∧ Cond.selects (mY m_Orders_lacksOf).cls (mY m_Orders_lacksOf) (mY m_Orders_lacksOf) ∈ lw_good := ⟨lw_in 877 (by decide +kernel) (by decide +kernel), lw_in 878 (by decide +kernel) (by decide +kernel)⟩
theorem v_Orders_answersAny : Cond.instanceMethod (mY m_Orders_answersAny) ∈ lw_good ∧ Cond.selects (mY m_Orders_answersAny).cls (mY m_Orders_answersAny) (mY m_Orders_answersAny) ∈ lw_good := ⟨lw_in 886 (by decide +kernel) (by decide +kernel), lw_in 35 (by decide +kernel) (by decide +kernel)⟩
theorem v_Orders_isShared : Cond.instanceMethod (mY m_Orders_isShared) ∈ lw_good ∧ Cond.selects (mY m_Orders_isShared).cls (mY m_Orders_isShared) (mY m_Orders_isShared) ∈ lw_good := ⟨lw_in 891 (by decide +kernel) (by decide +kernel), lw_in 36 (by decide +kernel) (by decide +kernel)⟩
theorem v_Pairing_init : Cond.instanceMethod (mY m_Pairing_init) ∈ lw_good := lw_in 219 (by decide +kernel) (by decide +kernel)
theorem v_Pairing_hear : Cond.instanceMethod (mY m_Pairing_hear) ∈ lw_good ∧ Cond.selects (mY m_Pairing_hear).cls (mY m_Pairing_hear) (mY m_Pairing_hear) ∈ lw_good := ⟨lw_in 636 (by decide +kernel) (by decide +kernel), lw_in 637 (by decide +kernel) (by decide +kernel)⟩
theorem v_Pairing_solve : Cond.instanceMethod (mY m_Pairing_solve) ∈ lw_good ∧ Cond.selects (mY m_Pairing_solve).cls (mY m_Pairing_solve) (mY m_Pairing_solve) ∈ lw_good := ⟨lw_in 678 (by decide +kernel) (by decide +kernel), lw_in 679 (by decide +kernel) (by decide +kernel)⟩
theorem v_Pairing_greatest : Cond.instanceMethod (mY m_Pairing_greatest) ∈ lw_good ∧ Cond.selects (mY m_Pairing_greatest).cls (mY m_Pairing_greatest) (mY m_Pairing_greatest) ∈ lw_good := ⟨lw_in 737 (by decide +kernel) (by decide +kernel), lw_in 738 (by decide +kernel) (by decide +kernel)⟩
theorem v_Pairing_isSure : Cond.instanceMethod (mY m_Pairing_isSure) ∈ lw_good ∧ Cond.selects (mY m_Pairing_isSure).cls (mY m_Pairing_isSure) (mY m_Pairing_isSure) ∈ lw_good := ⟨lw_in 729 (by decide +kernel) (by decide +kernel), lw_in 730 (by decide +kernel) (by decide +kernel)⟩
theorem v_Pairing_rulesLeft : Cond.instanceMethod (mY m_Pairing_rulesLeft) ∈ lw_good ∧ Cond.selects (mY m_Pairing_rulesLeft).cls (mY m_Pairing_rulesLeft) (mY m_Pairing_rulesLeft) ∈ lw_good := ⟨lw_in 745 (by decide +kernel) (by decide +kernel), lw_in 746 (by decide +kernel) (by decide +kernel)⟩
theorem v_Pairing_findBests : Cond.instanceMethod (mY m_Pairing_findBests) ∈ lw_good ∧ Cond.selects (mY m_Pairing_findBests).cls (mY m_Pairing_findBests) (mY m_Pairing_findBests) ∈ lw_good := ⟨lw_in 685 (by decide +kernel) (by decide +kernel), lw_in 12 (by decide +kernel) (by decide +kernel)⟩
theorem v_Pairing_bestFrom : Cond.instanceMethod (mY m_Pairing_bestFrom) ∈ lw_good ∧ Cond.selects (mY m_Pairing_bestFrom).cls (mY m_Pairing_bestFrom) (mY m_Pairing_bestFrom) ∈ lw_good := ⟨lw_in 690 (by decide +kernel) (by decide +kernel), lw_in 13 (by decide +kernel) (by decide +kernel)⟩
theorem v_Pairing_sumWith : Cond.instanceMethod (mY m_Pairing_sumWith) ∈ lw_good ∧ Cond.selects (mY m_Pairing_sumWith).cls (mY m_Pairing_sumWith) (mY m_Pairing_sumWith) ∈ lw_good := ⟨lw_in 694 (by decide +kernel) (by decide +kernel), lw_in 14 (by decide +kernel) (by decide +kernel)⟩
theorem v_Pairing_usedWith : Cond.instanceMethod (mY m_Pairing_usedWith) ∈ lw_good ∧ Cond.selects (mY m_Pairing_usedWith).cls (mY m_Pairing_usedWith) (mY m_Pairing_usedWith) ∈ lw_good := ⟨lw_in 714 (by decide +kernel) (by decide +kernel), lw_in 18 (by decide +kernel) (by decide +kernel)⟩
theorem v_Pairing_keepsBest : Cond.instanceMethod (mY m_Pairing_keepsBest) ∈ lw_good ∧ Cond.selects (mY m_Pairing_keepsBest).cls (mY m_Pairing_keepsBest) (mY m_Pairing_keepsBest) ∈ lw_good := ⟨lw_in 710 (by decide +kernel) (by decide +kernel), lw_in 17 (by decide +kernel) (by decide +kernel)⟩
theorem v_Pairing_choose : Cond.instanceMethod (mY m_Pairing_choose) ∈ lw_good ∧ Cond.selects (mY m_Pairing_choose).cls (mY m_Pairing_choose) (mY m_Pairing_choose) ∈ lw_good := ⟨lw_in 701 (by decide +kernel) (by decide +kernel), lw_in 15 (by decide +kernel) (by decide +kernel)⟩
theorem v_Pairing_firstChoice : Cond.instanceMethod (mY m_Pairing_firstChoice) ∈ lw_good ∧ Cond.selects (mY m_Pairing_firstChoice).cls (mY m_Pairing_firstChoice) (mY m_Pairing_firstChoice) ∈ lw_good := ⟨lw_in 706 (by decide +kernel) (by decide +kernel), lw_in 16 (by decide +kernel) (by decide +kernel)⟩
theorem v_Pairing_findSure : Cond.instanceMethod (mY m_Pairing_findSure) ∈ lw_good ∧ Cond.selects (mY m_Pairing_findSure).cls (mY m_Pairing_findSure) (mY m_Pairing_findSure) ∈ lw_good := ⟨lw_in 718 (by decide +kernel) (by decide +kernel), lw_in 19 (by decide +kernel) (by decide +kernel)⟩
theorem v_Pairing_clearReached : Cond.instanceMethod (mY m_Pairing_clearReached) ∈ lw_good ∧ Cond.selects (mY m_Pairing_clearReached).cls (mY m_Pairing_clearReached) (mY m_Pairing_clearReached) ∈ lw_good := ⟨lw_in 722 (by decide +kernel) (by decide +kernel), lw_in 20 (by decide +kernel) (by decide +kernel)⟩
theorem v_Pairing_choicesOf : Cond.instanceMethod (mY m_Pairing_choicesOf) ∈ lw_good ∧ Cond.selects (mY m_Pairing_choicesOf).cls (mY m_Pairing_choicesOf) (mY m_Pairing_choicesOf) ∈ lw_good := ⟨lw_in 726 (by decide +kernel) (by decide +kernel), lw_in 21 (by decide +kernel) (by decide +kernel)⟩
theorem v_Places_init : Cond.instanceMethod (mY m_Places_init) ∈ lw_good := lw_in 338 (by decide +kernel) (by decide +kernel)
theorem v_Places_settle : Cond.instanceMethod (mY m_Places_settle) ∈ lw_good ∧ Cond.selects (mY m_Places_settle).cls (mY m_Places_settle) (mY m_Places_settle) ∈ lw_good := ⟨lw_in 908 (by decide +kernel) (by decide +kernel), lw_in 909 (by decide +kernel) (by decide +kernel)⟩
theorem v_Places_add : Cond.instanceMethod (mY m_Places_add) ∈ lw_good ∧ Cond.selects (mY m_Places_add).cls (mY m_Places_add) (mY m_Places_add) ∈ lw_good := ⟨lw_in 919 (by decide +kernel) (by decide +kernel), lw_in 920 (by decide +kernel) (by decide +kernel)⟩
theorem v_Places_fits : Cond.instanceMethod (mY m_Places_fits) ∈ lw_good ∧ Cond.selects (mY m_Places_fits).cls (mY m_Places_fits) (mY m_Places_fits) ∈ lw_good := ⟨lw_in 936 (by decide +kernel) (by decide +kernel), lw_in 37 (by decide +kernel) (by decide +kernel)⟩
theorem v_Places_fitsAll : Cond.instanceMethod (mY m_Places_fitsAll) ∈ lw_good ∧ Cond.selects (mY m_Places_fitsAll).cls (mY m_Places_fitsAll) (mY m_Places_fitsAll) ∈ lw_good := ⟨lw_in 931 (by decide +kernel) (by decide +kernel), lw_in 932 (by decide +kernel) (by decide +kernel)⟩
theorem v_Places_fit : Cond.instanceMethod (mY m_Places_fit) ∈ lw_good ∧ Cond.selects (mY m_Places_fit).cls (mY m_Places_fit) (mY m_Places_fit) ∈ lw_good := ⟨lw_in 927 (by decide +kernel) (by decide +kernel), lw_in 928 (by decide +kernel) (by decide +kernel)⟩
theorem v_Places_sizeOf : Cond.static (mY m_Places_sizeOf) ∈ lw_good := lw_in 940 (by decide +kernel) (by decide +kernel)
theorem v_Places_middleOf : Cond.static (mY m_Places_middleOf) ∈ lw_good := lw_in 944 (by decide +kernel) (by decide +kernel)
theorem v_Places_leastWay : Cond.instanceMethod (mY m_Places_leastWay) ∈ lw_good ∧ Cond.selects (mY m_Places_leastWay).cls (mY m_Places_leastWay) (mY m_Places_leastWay) ∈ lw_good := ⟨lw_in 957 (by decide +kernel) (by decide +kernel), lw_in 958 (by decide +kernel) (by decide +kernel)⟩
theorem v_Places_doMeet : Cond.static (mY m_Places_doMeet) ∈ lw_good := lw_in 962 (by decide +kernel) (by decide +kernel)
theorem v_Places_widen : Cond.static (mY m_Places_widen) ∈ lw_good := lw_in 965 (by decide +kernel) (by decide +kernel)
theorem v_Senders_init : Cond.instanceMethod (mY m_Senders_init) ∈ lw_good := lw_in 225 (by decide +kernel) (by decide +kernel)
theorem v_Senders_hear : Cond.instanceMethod (mY m_Senders_hear) ∈ lw_good ∧ Cond.selects (mY m_Senders_hear).cls (mY m_Senders_hear) (mY m_Senders_hear) ∈ lw_good := ⟨lw_in 640 (by decide +kernel) (by decide +kernel), lw_in 641 (by decide +kernel) (by decide +kernel)⟩
theorem v_Senders_sends : Cond.instanceMethod (mY m_Senders_sends) ∈ lw_good ∧ Cond.selects (mY m_Senders_sends).cls (mY m_Senders_sends) (mY m_Senders_sends) ∈ lw_good := ⟨lw_in 653 (by decide +kernel) (by decide +kernel), lw_in 654 (by decide +kernel) (by decide +kernel)⟩
theorem v_Senders_likeTo : Cond.instanceMethod (mY m_Senders_likeTo) ∈ lw_good ∧ Cond.selects (mY m_Senders_likeTo).cls (mY m_Senders_likeTo) (mY m_Senders_likeTo) ∈ lw_good := ⟨lw_in 658 (by decide +kernel) (by decide +kernel), lw_in 659 (by decide +kernel) (by decide +kernel)⟩
theorem v_Silence_init : Cond.instanceMethod (mY m_Silence_init) ∈ lw_good := lw_in 380 (by decide +kernel) (by decide +kernel)
theorem v_Silence_addListened : Cond.instanceMethod (mY m_Silence_addListened) ∈ lw_good ∧ Cond.selects (mY m_Silence_addListened).cls (mY m_Silence_addListened) (mY m_Silence_addListened) ∈ lw_good := ⟨lw_in 973 (by decide +kernel) (by decide +kernel), lw_in 974 (by decide +kernel) (by decide +kernel)⟩
theorem v_Silence_addEvent : Cond.instanceMethod (mY m_Silence_addEvent) ∈ lw_good ∧ Cond.selects (mY m_Silence_addEvent).cls (mY m_Silence_addEvent) (mY m_Silence_addEvent) ∈ lw_good := ⟨lw_in 1001 (by decide +kernel) (by decide +kernel), lw_in 1002 (by decide +kernel) (by decide +kernel)⟩
theorem v_Silence_measure : Cond.instanceMethod (mY m_Silence_measure) ∈ lw_good ∧ Cond.selects (mY m_Silence_measure).cls (mY m_Silence_measure) (mY m_Silence_measure) ∈ lw_good := ⟨lw_in 984 (by decide +kernel) (by decide +kernel), lw_in 985 (by decide +kernel) (by decide +kernel)⟩
theorem v_Silence_gatherHeard : Cond.instanceMethod (mY m_Silence_gatherHeard) ∈ lw_good ∧ Cond.selects (mY m_Silence_gatherHeard).cls (mY m_Silence_gatherHeard) (mY m_Silence_gatherHeard) ∈ lw_good := ⟨lw_in 989 (by decide +kernel) (by decide +kernel), lw_in 38 (by decide +kernel) (by decide +kernel)⟩
theorem v_Silence_isSilent : Cond.instanceMethod (mY m_Silence_isSilent) ∈ lw_good ∧ Cond.selects (mY m_Silence_isSilent).cls (mY m_Silence_isSilent) (mY m_Silence_isSilent) ∈ lw_good := ⟨lw_in 993 (by decide +kernel) (by decide +kernel), lw_in 994 (by decide +kernel) (by decide +kernel)⟩
theorem v_Silence_silentEvents : Cond.instanceMethod (mY m_Silence_silentEvents) ∈ lw_good ∧ Cond.selects (mY m_Silence_silentEvents).cls (mY m_Silence_silentEvents) (mY m_Silence_silentEvents) ∈ lw_good := ⟨lw_in 1009 (by decide +kernel) (by decide +kernel), lw_in 1010 (by decide +kernel) (by decide +kernel)⟩
theorem v_Silence_eventsFrom : Cond.instanceMethod (mY m_Silence_eventsFrom) ∈ lw_good ∧ Cond.selects (mY m_Silence_eventsFrom).cls (mY m_Silence_eventsFrom) (mY m_Silence_eventsFrom) ∈ lw_good := ⟨lw_in 1014 (by decide +kernel) (by decide +kernel), lw_in 1015 (by decide +kernel) (by decide +kernel)⟩
theorem v_Silence_silentHours : Cond.instanceMethod (mY m_Silence_silentHours) ∈ lw_good ∧ Cond.selects (mY m_Silence_silentHours).cls (mY m_Silence_silentHours) (mY m_Silence_silentHours) ∈ lw_good := ⟨lw_in 1018 (by decide +kernel) (by decide +kernel), lw_in 1019 (by decide +kernel) (by decide +kernel)⟩
theorem v_Trail_init : Cond.instanceMethod (mY m_Trail_init) ∈ lw_good := lw_in 280 (by decide +kernel) (by decide +kernel)
theorem v_Trail_walk : Cond.instanceMethod (mY m_Trail_walk) ∈ lw_good ∧ Cond.selects (mY m_Trail_walk).cls (mY m_Trail_walk) (mY m_Trail_walk) ∈ lw_good := ⟨lw_in 754 (by decide +kernel) (by decide +kernel), lw_in 755 (by decide +kernel) (by decide +kernel)⟩
theorem v_Trail_isOpen : Cond.instanceMethod (mY m_Trail_isOpen) ∈ lw_good ∧ Cond.selects (mY m_Trail_isOpen).cls (mY m_Trail_isOpen) (mY m_Trail_isOpen) ∈ lw_good := ⟨lw_in 764 (by decide +kernel) (by decide +kernel), lw_in 22 (by decide +kernel) (by decide +kernel)⟩
theorem v_Trail_stepBack : Cond.instanceMethod (mY m_Trail_stepBack) ∈ lw_good ∧ Cond.selects (mY m_Trail_stepBack).cls (mY m_Trail_stepBack) (mY m_Trail_stepBack) ∈ lw_good := ⟨lw_in 769 (by decide +kernel) (by decide +kernel), lw_in 23 (by decide +kernel) (by decide +kernel)⟩
theorem v_Trail_meetsNo : Cond.instanceMethod (mY m_Trail_meetsNo) ∈ lw_good ∧ Cond.selects (mY m_Trail_meetsNo).cls (mY m_Trail_meetsNo) (mY m_Trail_meetsNo) ∈ lw_good := ⟨lw_in 776 (by decide +kernel) (by decide +kernel), lw_in 777 (by decide +kernel) (by decide +kernel)⟩
theorem v_Tree_init : Cond.instanceMethod (mY m_Tree_init) ∈ lw_good := lw_in 306 (by decide +kernel) (by decide +kernel)
theorem v_Tree_solve : Cond.instanceMethod (mY m_Tree_solve) ∈ lw_good ∧ Cond.selects (mY m_Tree_solve).cls (mY m_Tree_solve) (mY m_Tree_solve) ∈ lw_good := ⟨lw_in 831 (by decide +kernel) (by decide +kernel), lw_in 832 (by decide +kernel) (by decide +kernel)⟩
theorem v_Tree_gather : Cond.instanceMethod (mY m_Tree_gather) ∈ lw_good ∧ Cond.selects (mY m_Tree_gather).cls (mY m_Tree_gather) (mY m_Tree_gather) ∈ lw_good := ⟨lw_in 836 (by decide +kernel) (by decide +kernel), lw_in 28 (by decide +kernel) (by decide +kernel)⟩
theorem v_Tree_setHope : Cond.instanceMethod (mY m_Tree_setHope) ∈ lw_good ∧ Cond.selects (mY m_Tree_setHope).cls (mY m_Tree_setHope) (mY m_Tree_setHope) ∈ lw_good := ⟨lw_in 840 (by decide +kernel) (by decide +kernel), lw_in 29 (by decide +kernel) (by decide +kernel)⟩
theorem v_Tree_grow : Cond.instanceMethod (mY m_Tree_grow) ∈ lw_good ∧ Cond.selects (mY m_Tree_grow).cls (mY m_Tree_grow) (mY m_Tree_grow) ∈ lw_good := ⟨lw_in 846 (by decide +kernel) (by decide +kernel), lw_in 30 (by decide +kernel) (by decide +kernel)⟩
theorem v_Tree_isVain : Cond.instanceMethod (mY m_Tree_isVain) ∈ lw_good ∧ Cond.selects (mY m_Tree_isVain).cls (mY m_Tree_isVain) (mY m_Tree_isVain) ∈ lw_good := ⟨lw_in 850 (by decide +kernel) (by decide +kernel), lw_in 31 (by decide +kernel) (by decide +kernel)⟩
theorem v_Tree_isUnder : Cond.instanceMethod (mY m_Tree_isUnder) ∈ lw_good ∧ Cond.selects (mY m_Tree_isUnder).cls (mY m_Tree_isUnder) (mY m_Tree_isUnder) ∈ lw_good := ⟨lw_in 858 (by decide +kernel) (by decide +kernel), lw_in 33 (by decide +kernel) (by decide +kernel)⟩
theorem v_Tree_weigh : Cond.instanceMethod (mY m_Tree_weigh) ∈ lw_good ∧ Cond.selects (mY m_Tree_weigh).cls (mY m_Tree_weigh) (mY m_Tree_weigh) ∈ lw_good := ⟨lw_in 854 (by decide +kernel) (by decide +kernel), lw_in 32 (by decide +kernel) (by decide +kernel)⟩
theorem v_Tree_nameAbove : Cond.instanceMethod (mY m_Tree_nameAbove) ∈ lw_good ∧ Cond.selects (mY m_Tree_nameAbove).cls (mY m_Tree_nameAbove) (mY m_Tree_nameAbove) ∈ lw_good := ⟨lw_in 861 (by decide +kernel) (by decide +kernel), lw_in 862 (by decide +kernel) (by decide +kernel)⟩
theorem v_Tree_sureness : Cond.instanceMethod (mY m_Tree_sureness) ∈ lw_good ∧ Cond.selects (mY m_Tree_sureness).cls (mY m_Tree_sureness) (mY m_Tree_sureness) ∈ lw_good := ⟨lw_in 869 (by decide +kernel) (by decide +kernel), lw_in 870 (by decide +kernel) (by decide +kernel)⟩
theorem v_Tree_memberOf : Cond.instanceMethod (mY m_Tree_memberOf) ∈ lw_good ∧ Cond.selects (mY m_Tree_memberOf).cls (mY m_Tree_memberOf) (mY m_Tree_memberOf) ∈ lw_good := ⟨lw_in 866 (by decide +kernel) (by decide +kernel), lw_in 34 (by decide +kernel) (by decide +kernel)⟩
theorem v_C_init : Cond.instanceMethod (mY m_C_init) ∈ lw_good := lw_in 88 (by decide +kernel) (by decide +kernel)
theorem v_C_call : Cond.instanceMethod (mY m_C_call) ∈ lw_good ∧ Cond.selects (mY m_C_call).cls (mY m_C_call) (mY m_C_call) ∈ lw_good := ⟨lw_in 471 (by decide +kernel) (by decide +kernel), lw_in 472 (by decide +kernel) (by decide +kernel)⟩
theorem v_C_write : Cond.instanceMethod (mY m_C_write) ∈ lw_good ∧ Cond.selects (mY m_C_write).cls (mY m_C_write) (mY m_C_write) ∈ lw_good := ⟨lw_in 491 (by decide +kernel) (by decide +kernel), lw_in 492 (by decide +kernel) (by decide +kernel)⟩
theorem v_C_wipe : Cond.instanceMethod (mY m_C_wipe) ∈ lw_good ∧ Cond.selects (mY m_C_wipe).cls (mY m_C_wipe) (mY m_C_wipe) ∈ lw_good := ⟨lw_in 499 (by decide +kernel) (by decide +kernel), lw_in 500 (by decide +kernel) (by decide +kernel)⟩
theorem v_C_fault : Cond.instanceMethod (mY m_C_fault) ∈ lw_good ∧ Cond.selects (mY m_C_fault).cls (mY m_C_fault) (mY m_C_fault) ∈ lw_good := ⟨lw_in 503 (by decide +kernel) (by decide +kernel), lw_in 504 (by decide +kernel) (by decide +kernel)⟩
theorem v_C_take : Cond.instanceMethod (mY m_C_take) ∈ lw_good ∧ Cond.selects (mY m_C_take).cls (mY m_C_take) (mY m_C_take) ∈ lw_good := ⟨lw_in 539 (by decide +kernel) (by decide +kernel), lw_in 540 (by decide +kernel) (by decide +kernel)⟩
theorem v_C_name : Cond.instanceMethod (mY m_C_name) ∈ lw_good ∧ Cond.selects (mY m_C_name).cls (mY m_C_name) (mY m_C_name) ∈ lw_good := ⟨lw_in 566 (by decide +kernel) (by decide +kernel), lw_in 567 (by decide +kernel) (by decide +kernel)⟩
theorem v_C_post : Cond.instanceMethod (mY m_C_post) ∈ lw_good ∧ Cond.selects (mY m_C_post).cls (mY m_C_post) (mY m_C_post) ∈ lw_good := ⟨lw_in 573 (by decide +kernel) (by decide +kernel), lw_in 574 (by decide +kernel) (by decide +kernel)⟩
theorem v_C_apart : Cond.instanceMethod (mY m_C_apart) ∈ lw_good ∧ Cond.selects (mY m_C_apart).cls (mY m_C_apart) (mY m_C_apart) ∈ lw_good := ⟨lw_in 577 (by decide +kernel) (by decide +kernel), lw_in 578 (by decide +kernel) (by decide +kernel)⟩
theorem v_C_hand : Cond.instanceMethod (mY m_C_hand) ∈ lw_good ∧ Cond.selects (mY m_C_hand).cls (mY m_C_hand) (mY m_C_hand) ∈ lw_good := ⟨lw_in 581 (by decide +kernel) (by decide +kernel), lw_in 582 (by decide +kernel) (by decide +kernel)⟩
theorem v_C_hands : Cond.instanceMethod (mY m_C_hands) ∈ lw_good ∧ Cond.selects (mY m_C_hands).cls (mY m_C_hands) (mY m_C_hands) ∈ lw_good := ⟨lw_in 609 (by decide +kernel) (by decide +kernel), lw_in 610 (by decide +kernel) (by decide +kernel)⟩
theorem v_C_odds : Cond.instanceMethod (mY m_C_odds) ∈ lw_good ∧ Cond.selects (mY m_C_odds).cls (mY m_C_odds) (mY m_C_odds) ∈ lw_good := ⟨lw_in 613 (by decide +kernel) (by decide +kernel), lw_in 614 (by decide +kernel) (by decide +kernel)⟩
theorem v_C_like : Cond.instanceMethod (mY m_C_like) ∈ lw_good ∧ Cond.selects (mY m_C_like).cls (mY m_C_like) (mY m_C_like) ∈ lw_good := ⟨lw_in 629 (by decide +kernel) (by decide +kernel), lw_in 630 (by decide +kernel) (by decide +kernel)⟩
theorem v_C_follow : Cond.instanceMethod (mY m_C_follow) ∈ lw_good ∧ Cond.selects (mY m_C_follow).cls (mY m_C_follow) (mY m_C_follow) ∈ lw_good := ⟨lw_in 674 (by decide +kernel) (by decide +kernel), lw_in 675 (by decide +kernel) (by decide +kernel)⟩
theorem v_C_sum : Cond.instanceMethod (mY m_C_sum) ∈ lw_good ∧ Cond.selects (mY m_C_sum).cls (mY m_C_sum) (mY m_C_sum) ∈ lw_good := ⟨lw_in 733 (by decide +kernel) (by decide +kernel), lw_in 734 (by decide +kernel) (by decide +kernel)⟩
theorem v_C_rules : Cond.instanceMethod (mY m_C_rules) ∈ lw_good ∧ Cond.selects (mY m_C_rules).cls (mY m_C_rules) (mY m_C_rules) ∈ lw_good := ⟨lw_in 741 (by decide +kernel) (by decide +kernel), lw_in 742 (by decide +kernel) (by decide +kernel)⟩
theorem v_C_trace : Cond.instanceMethod (mY m_C_trace) ∈ lw_good ∧ Cond.selects (mY m_C_trace).cls (mY m_C_trace) (mY m_C_trace) ∈ lw_good := ⟨lw_in 750 (by decide +kernel) (by decide +kernel), lw_in 751 (by decide +kernel) (by decide +kernel)⟩
theorem v_C_held : Cond.instanceMethod (mY m_C_held) ∈ lw_good ∧ Cond.selects (mY m_C_held).cls (mY m_C_held) (mY m_C_held) ∈ lw_good := ⟨lw_in 772 (by decide +kernel) (by decide +kernel), lw_in 773 (by decide +kernel) (by decide +kernel)⟩
theorem v_C_within : Cond.instanceMethod (mY m_C_within) ∈ lw_good ∧ Cond.selects (mY m_C_within).cls (mY m_C_within) (mY m_C_within) ∈ lw_good := ⟨lw_in 784 (by decide +kernel) (by decide +kernel), lw_in 785 (by decide +kernel) (by decide +kernel)⟩
theorem v_C_fate : Cond.instanceMethod (mY m_C_fate) ∈ lw_good ∧ Cond.selects (mY m_C_fate).cls (mY m_C_fate) (mY m_C_fate) ∈ lw_good := ⟨lw_in 788 (by decide +kernel) (by decide +kernel), lw_in 789 (by decide +kernel) (by decide +kernel)⟩
theorem v_C_sign : Cond.instanceMethod (mY m_C_sign) ∈ lw_good ∧ Cond.selects (mY m_C_sign).cls (mY m_C_sign) (mY m_C_sign) ∈ lw_good := ⟨lw_in 808 (by decide +kernel) (by decide +kernel), lw_in 809 (by decide +kernel) (by decide +kernel)⟩
theorem v_C_tree : Cond.instanceMethod (mY m_C_tree) ∈ lw_good ∧ Cond.selects (mY m_C_tree).cls (mY m_C_tree) (mY m_C_tree) ∈ lw_good := ⟨lw_in 822 (by decide +kernel) (by decide +kernel), lw_in 823 (by decide +kernel) (by decide +kernel)⟩
theorem v_C_lacks : Cond.instanceMethod (mY m_C_lacks) ∈ lw_good ∧ Cond.selects (mY m_C_lacks).cls (mY m_C_lacks) (mY m_C_lacks) ∈ lw_good := ⟨lw_in 873 (by decide +kernel) (by decide +kernel), lw_in 874 (by decide +kernel) (by decide +kernel)⟩
theorem v_C_show : Cond.instanceMethod (mY m_C_show) ∈ lw_good ∧ Cond.selects (mY m_C_show).cls (mY m_C_show) (mY m_C_show) ∈ lw_good := ⟨lw_in 894 (by decide +kernel) (by decide +kernel), lw_in 895 (by decide +kernel) (by decide +kernel)⟩
theorem v_C_hearer : Cond.instanceMethod (mY m_C_hearer) ∈ lw_good ∧ Cond.selects (mY m_C_hearer).cls (mY m_C_hearer) (mY m_C_hearer) ∈ lw_good := ⟨lw_in 898 (by decide +kernel) (by decide +kernel), lw_in 899 (by decide +kernel) (by decide +kernel)⟩
theorem v_C_bearing : Cond.instanceMethod (mY m_C_bearing) ∈ lw_good ∧ Cond.selects (mY m_C_bearing).cls (mY m_C_bearing) (mY m_C_bearing) ∈ lw_good := ⟨lw_in 912 (by decide +kernel) (by decide +kernel), lw_in 913 (by decide +kernel) (by decide +kernel)⟩
theorem v_C_patch : Cond.instanceMethod (mY m_C_patch) ∈ lw_good ∧ Cond.selects (mY m_C_patch).cls (mY m_C_patch) (mY m_C_patch) ∈ lw_good := ⟨lw_in 923 (by decide +kernel) (by decide +kernel), lw_in 924 (by decide +kernel) (by decide +kernel)⟩
theorem v_C_isIn : Cond.instanceMethod (mY m_C_isIn) ∈ lw_good ∧ Cond.selects (mY m_C_isIn).cls (mY m_C_isIn) (mY m_C_isIn) ∈ lw_good := ⟨lw_in 948 (by decide +kernel) (by decide +kernel), lw_in 949 (by decide +kernel) (by decide +kernel)⟩
theorem v_C_moved : Cond.instanceMethod (mY m_C_moved) ∈ lw_good ∧ Cond.selects (mY m_C_moved).cls (mY m_C_moved) (mY m_C_moved) ∈ lw_good := ⟨lw_in 953 (by decide +kernel) (by decide +kernel), lw_in 954 (by decide +kernel) (by decide +kernel)⟩
theorem v_C_listen : Cond.instanceMethod (mY m_C_listen) ∈ lw_good ∧ Cond.selects (mY m_C_listen).cls (mY m_C_listen) (mY m_C_listen) ∈ lw_good := ⟨lw_in 969 (by decide +kernel) (by decide +kernel), lw_in 970 (by decide +kernel) (by decide +kernel)⟩
theorem v_C_silent : Cond.instanceMethod (mY m_C_silent) ∈ lw_good ∧ Cond.selects (mY m_C_silent).cls (mY m_C_silent) (mY m_C_silent) ∈ lw_good := ⟨lw_in 977 (by decide +kernel) (by decide +kernel), lw_in 978 (by decide +kernel) (by decide +kernel)⟩
theorem v_C_event : Cond.instanceMethod (mY m_C_event) ∈ lw_good ∧ Cond.selects (mY m_C_event).cls (mY m_C_event) (mY m_C_event) ∈ lw_good := ⟨lw_in 997 (by decide +kernel) (by decide +kernel), lw_in 998 (by decide +kernel) (by decide +kernel)⟩
theorem v_C_ahead : Cond.instanceMethod (mY m_C_ahead) ∈ lw_good ∧ Cond.selects (mY m_C_ahead).cls (mY m_C_ahead) (mY m_C_ahead) ∈ lw_good := ⟨lw_in 1005 (by decide +kernel) (by decide +kernel), lw_in 1006 (by decide +kernel) (by decide +kernel)⟩
theorem v_C_waves : Cond.instanceMethod (mY m_C_waves) ∈ lw_good ∧ Cond.selects (mY m_C_waves).cls (mY m_C_waves) (mY m_C_waves) ∈ lw_good := ⟨lw_in 1022 (by decide +kernel) (by decide +kernel), lw_in 1023 (by decide +kernel) (by decide +kernel)⟩
theorem v_C_keep : Cond.instanceMethod (mY m_C_keep) ∈ lw_good ∧ Cond.selects (mY m_C_keep).cls (mY m_C_keep) (mY m_C_keep) ∈ lw_good := ⟨lw_in 1042 (by decide +kernel) (by decide +kernel), lw_in 1043 (by decide +kernel) (by decide +kernel)⟩
theorem v_C_back : Cond.instanceMethod (mY m_C_back) ∈ lw_good ∧ Cond.selects (mY m_C_back).cls (mY m_C_back) (mY m_C_back) ∈ lw_good := ⟨lw_in 1046 (by decide +kernel) (by decide +kernel), lw_in 1047 (by decide +kernel) (by decide +kernel)⟩
theorem v_C_count : Cond.instanceMethod (mY m_C_count) ∈ lw_good ∧ Cond.selects (mY m_C_count).cls (mY m_C_count) (mY m_C_count) ∈ lw_good := ⟨lw_in 1050 (by decide +kernel) (by decide +kernel), lw_in 1051 (by decide +kernel) (by decide +kernel)⟩
theorem v_C_isAmong : Cond.static (mY m_C_isAmong) ∈ lw_good := lw_in 478 (by decide +kernel) (by decide +kernel)
theorem v_C_isName : Cond.static (mY m_C_isName) ∈ lw_good := lw_in 475 (by decide +kernel) (by decide +kernel)
theorem v_C_isWave : Cond.static (mY m_C_isWave) ∈ lw_good := lw_in 484 (by decide +kernel) (by decide +kernel)
theorem v_C_isHour : Cond.static (mY m_C_isHour) ∈ lw_good := lw_in 481 (by decide +kernel) (by decide +kernel)
theorem v_C_isDay : Cond.static (mY m_C_isDay) ∈ lw_good := lw_in 570 (by decide +kernel) (by decide +kernel)
theorem v_C_isMidnight : Cond.static (mY m_C_isMidnight) ∈ lw_good := lw_in 633 (by decide +kernel) (by decide +kernel)
theorem v_C_isSpan : Cond.static (mY m_C_isSpan) ∈ lw_good := lw_in 812 (by decide +kernel) (by decide +kernel)
theorem v_C_isHearer : Cond.static (mY m_C_isHearer) ∈ lw_good := lw_in 902 (by decide +kernel) (by decide +kernel)
theorem v_C_isCell : Cond.static (mY m_C_isCell) ∈ lw_good := lw_in 905 (by decide +kernel) (by decide +kernel)
theorem v_C_isDirection : Cond.static (mY m_C_isDirection) ∈ lw_good := lw_in 916 (by decide +kernel) (by decide +kernel)
theorem v_C_isSilence : Cond.static (mY m_C_isSilence) ∈ lw_good := lw_in 981 (by decide +kernel) (by decide +kernel)
theorem v_C_isCall : Cond.instanceMethod (mY m_C_isCall) ∈ lw_good ∧ Cond.selects (mY m_C_isCall).cls (mY m_C_isCall) (mY m_C_isCall) ∈ lw_good := ⟨lw_in 586 (by decide +kernel) (by decide +kernel), lw_in 9 (by decide +kernel) (by decide +kernel)⟩
theorem v_C_countHeld : Cond.instanceMethod (mY m_C_countHeld) ∈ lw_good ∧ Cond.selects (mY m_C_countHeld).cls (mY m_C_countHeld) (mY m_C_countHeld) ∈ lw_good := ⟨lw_in 781 (by decide +kernel) (by decide +kernel), lw_in 24 (by decide +kernel) (by decide +kernel)⟩
theorem v_M_init : Cond.instanceMethod (mY m_M_init) ∈ lw_good := lw_in 1056 (by decide +kernel) (by decide +kernel)
theorem v_M_in : Cond.static (mY m_M_in) ∈ lw_good := lw_in 1207 (by decide +kernel) (by decide +kernel)
theorem v_M_has : Cond.static (mY m_M_has) ∈ lw_good := lw_in 1333 (by decide +kernel) (by decide +kernel)
theorem v_M_many : Cond.static (mY m_M_many) ∈ lw_good := lw_in 1422 (by decide +kernel) (by decide +kernel)
theorem v_M_size : Cond.static (mY m_M_size) ∈ lw_good := lw_in 1285 (by decide +kernel) (by decide +kernel)
theorem v_M_isName : Cond.static (mY m_M_isName) ∈ lw_good := lw_in 1203 (by decide +kernel) (by decide +kernel)
theorem v_M_isDay : Cond.static (mY m_M_isDay) ∈ lw_good := lw_in 1258 (by decide +kernel) (by decide +kernel)
theorem v_M_isHour : Cond.static (mY m_M_isHour) ∈ lw_good := lw_in 1210 (by decide +kernel) (by decide +kernel)
theorem v_M_isCall : Cond.instanceMethod (mY m_M_isCall) ∈ lw_good ∧ Cond.selects (mY m_M_isCall).cls (mY m_M_isCall) (mY m_M_isCall) ∈ lw_good := ⟨lw_in 1278 (by decide +kernel) (by decide +kernel), lw_in 44 (by decide +kernel) (by decide +kernel)⟩
theorem v_M_isSpan : Cond.static (mY m_M_isSpan) ∈ lw_good := lw_in 1385 (by decide +kernel) (by decide +kernel)
theorem v_M_call : Cond.instanceMethod (mY m_M_call) ∈ lw_good ∧ Cond.selects (mY m_M_call).cls (mY m_M_call) (mY m_M_call) ∈ lw_good := ⟨lw_in 1199 (by decide +kernel) (by decide +kernel), lw_in 1200 (by decide +kernel) (by decide +kernel)⟩
theorem v_M_write : Cond.instanceMethod (mY m_M_write) ∈ lw_good ∧ Cond.selects (mY m_M_write).cls (mY m_M_write) (mY m_M_write) ∈ lw_good := ⟨lw_in 1216 (by decide +kernel) (by decide +kernel), lw_in 1217 (by decide +kernel) (by decide +kernel)⟩
theorem v_M_wipe : Cond.instanceMethod (mY m_M_wipe) ∈ lw_good ∧ Cond.selects (mY m_M_wipe).cls (mY m_M_wipe) (mY m_M_wipe) ∈ lw_good := ⟨lw_in 1221 (by decide +kernel) (by decide +kernel), lw_in 1222 (by decide +kernel) (by decide +kernel)⟩
theorem v_M_number : Cond.instanceMethod (mY m_M_number) ∈ lw_good ∧ Cond.selects (mY m_M_number).cls (mY m_M_number) (mY m_M_number) ∈ lw_good := ⟨lw_in 1234 (by decide +kernel) (by decide +kernel), lw_in 40 (by decide +kernel) (by decide +kernel)⟩
theorem v_M_more : Cond.instanceMethod (mY m_M_more) ∈ lw_good ∧ Cond.selects (mY m_M_more).cls (mY m_M_more) (mY m_M_more) ∈ lw_good := ⟨lw_in 1241 (by decide +kernel) (by decide +kernel), lw_in 41 (by decide +kernel) (by decide +kernel)⟩
theorem v_M_isItem : Cond.instanceMethod (mY m_M_isItem) ∈ lw_good ∧ Cond.selects (mY m_M_isItem).cls (mY m_M_isItem) (mY m_M_isItem) ∈ lw_good := ⟨lw_in 1230 (by decide +kernel) (by decide +kernel), lw_in 39 (by decide +kernel) (by decide +kernel)⟩
theorem v_M_fault : Cond.instanceMethod (mY m_M_fault) ∈ lw_good ∧ Cond.selects (mY m_M_fault).cls (mY m_M_fault) (mY m_M_fault) ∈ lw_good := ⟨lw_in 1225 (by decide +kernel) (by decide +kernel), lw_in 1226 (by decide +kernel) (by decide +kernel)⟩
theorem v_M_take : Cond.instanceMethod (mY m_M_take) ∈ lw_good ∧ Cond.selects (mY m_M_take).cls (mY m_M_take) (mY m_M_take) ∈ lw_good := ⟨lw_in 1245 (by decide +kernel) (by decide +kernel), lw_in 1246 (by decide +kernel) (by decide +kernel)⟩
theorem v_M_behind : Cond.instanceMethod (mY m_M_behind) ∈ lw_good ∧ Cond.selects (mY m_M_behind).cls (mY m_M_behind) (mY m_M_behind) ∈ lw_good := ⟨lw_in 1251 (by decide +kernel) (by decide +kernel), lw_in 42 (by decide +kernel) (by decide +kernel)⟩
theorem v_M_name : Cond.instanceMethod (mY m_M_name) ∈ lw_good ∧ Cond.selects (mY m_M_name).cls (mY m_M_name) (mY m_M_name) ∈ lw_good := ⟨lw_in 1254 (by decide +kernel) (by decide +kernel), lw_in 1255 (by decide +kernel) (by decide +kernel)⟩
theorem v_M_postOf : Cond.instanceMethod (mY m_M_postOf) ∈ lw_good ∧ Cond.selects (mY m_M_postOf).cls (mY m_M_postOf) (mY m_M_postOf) ∈ lw_good := ⟨lw_in 1266 (by decide +kernel) (by decide +kernel), lw_in 43 (by decide +kernel) (by decide +kernel)⟩
theorem v_M_post : Cond.instanceMethod (mY m_M_post) ∈ lw_good ∧ Cond.selects (mY m_M_post).cls (mY m_M_post) (mY m_M_post) ∈ lw_good := ⟨lw_in 1261 (by decide +kernel) (by decide +kernel), lw_in 1262 (by decide +kernel) (by decide +kernel)⟩
theorem v_M_apart : Cond.instanceMethod (mY m_M_apart) ∈ lw_good ∧ Cond.selects (mY m_M_apart).cls (mY m_M_apart) (mY m_M_apart) ∈ lw_good := ⟨lw_in 1269 (by decide +kernel) (by decide +kernel), lw_in 1270 (by decide +kernel) (by decide +kernel)⟩
theorem v_M_handsOf : Cond.instanceMethod (mY m_M_handsOf) ∈ lw_good ∧ Cond.selects (mY m_M_handsOf).cls (mY m_M_handsOf) (mY m_M_handsOf) ∈ lw_good := ⟨lw_in 1282 (by decide +kernel) (by decide +kernel), lw_in 45 (by decide +kernel) (by decide +kernel)⟩
theorem v_M_hand : Cond.instanceMethod (mY m_M_hand) ∈ lw_good ∧ Cond.selects (mY m_M_hand).cls (mY m_M_hand) (mY m_M_hand) ∈ lw_good := ⟨lw_in 1273 (by decide +kernel) (by decide +kernel), lw_in 1274 (by decide +kernel) (by decide +kernel)⟩
theorem v_M_hands : Cond.instanceMethod (mY m_M_hands) ∈ lw_good ∧ Cond.selects (mY m_M_hands).cls (mY m_M_hands) (mY m_M_hands) ∈ lw_good := ⟨lw_in 1288 (by decide +kernel) (by decide +kernel), lw_in 1289 (by decide +kernel) (by decide +kernel)⟩
theorem v_M_odds : Cond.instanceMethod (mY m_M_odds) ∈ lw_good ∧ Cond.selects (mY m_M_odds).cls (mY m_M_odds) (mY m_M_odds) ∈ lw_good := ⟨lw_in 1292 (by decide +kernel) (by decide +kernel), lw_in 1293 (by decide +kernel) (by decide +kernel)⟩
theorem v_M_isOf : Cond.instanceMethod (mY m_M_isOf) ∈ lw_good ∧ Cond.selects (mY m_M_isOf).cls (mY m_M_isOf) (mY m_M_isOf) ∈ lw_good := ⟨lw_in 1306 (by decide +kernel) (by decide +kernel), lw_in 47 (by decide +kernel) (by decide +kernel)⟩
theorem v_M_sends : Cond.instanceMethod (mY m_M_sends) ∈ lw_good ∧ Cond.selects (mY m_M_sends).cls (mY m_M_sends) (mY m_M_sends) ∈ lw_good := ⟨lw_in 1302 (by decide +kernel) (by decide +kernel), lw_in 46 (by decide +kernel) (by decide +kernel)⟩
theorem v_M_likeOf : Cond.instanceMethod (mY m_M_likeOf) ∈ lw_good ∧ Cond.selects (mY m_M_likeOf).cls (mY m_M_likeOf) (mY m_M_likeOf) ∈ lw_good := ⟨lw_in 1310 (by decide +kernel) (by decide +kernel), lw_in 48 (by decide +kernel) (by decide +kernel)⟩
theorem v_M_like : Cond.instanceMethod (mY m_M_like) ∈ lw_good ∧ Cond.selects (mY m_M_like).cls (mY m_M_like) (mY m_M_like) ∈ lw_good := ⟨lw_in 1296 (by decide +kernel) (by decide +kernel), lw_in 1297 (by decide +kernel) (by decide +kernel)⟩
theorem v_M_lays : Cond.instanceMethod (mY m_M_lays) ∈ lw_good ∧ Cond.selects (mY m_M_lays).cls (mY m_M_lays) (mY m_M_lays) ∈ lw_good := ⟨lw_in 1318 (by decide +kernel) (by decide +kernel), lw_in 49 (by decide +kernel) (by decide +kernel)⟩
theorem v_M_sums : Cond.instanceMethod (mY m_M_sums) ∈ lw_good ∧ Cond.selects (mY m_M_sums).cls (mY m_M_sums) (mY m_M_sums) ∈ lw_good := ⟨lw_in 1330 (by decide +kernel) (by decide +kernel), lw_in 52 (by decide +kernel) (by decide +kernel)⟩
theorem v_M_pairs : Cond.instanceMethod (mY m_M_pairs) ∈ lw_good ∧ Cond.selects (mY m_M_pairs).cls (mY m_M_pairs) (mY m_M_pairs) ∈ lw_good := ⟨lw_in 1326 (by decide +kernel) (by decide +kernel), lw_in 51 (by decide +kernel) (by decide +kernel)⟩
theorem v_M_isSure : Cond.instanceMethod (mY m_M_isSure) ∈ lw_good ∧ Cond.selects (mY m_M_isSure).cls (mY m_M_isSure) (mY m_M_isSure) ∈ lw_good := ⟨lw_in 1337 (by decide +kernel) (by decide +kernel), lw_in 53 (by decide +kernel) (by decide +kernel)⟩
theorem v_M_placeOf : Cond.instanceMethod (mY m_M_placeOf) ∈ lw_good ∧ Cond.selects (mY m_M_placeOf).cls (mY m_M_placeOf) (mY m_M_placeOf) ∈ lw_good := ⟨lw_in 1322 (by decide +kernel) (by decide +kernel), lw_in 50 (by decide +kernel) (by decide +kernel)⟩
theorem v_M_follow : Cond.instanceMethod (mY m_M_follow) ∈ lw_good ∧ Cond.selects (mY m_M_follow).cls (mY m_M_follow) (mY m_M_follow) ∈ lw_good := ⟨lw_in 1313 (by decide +kernel) (by decide +kernel), lw_in 1314 (by decide +kernel) (by decide +kernel)⟩
theorem v_M_sum : Cond.instanceMethod (mY m_M_sum) ∈ lw_good ∧ Cond.selects (mY m_M_sum).cls (mY m_M_sum) (mY m_M_sum) ∈ lw_good := ⟨lw_in 1340 (by decide +kernel) (by decide +kernel), lw_in 1341 (by decide +kernel) (by decide +kernel)⟩
theorem v_M_rules : Cond.instanceMethod (mY m_M_rules) ∈ lw_good ∧ Cond.selects (mY m_M_rules).cls (mY m_M_rules) (mY m_M_rules) ∈ lw_good := ⟨lw_in 1344 (by decide +kernel) (by decide +kernel), lw_in 1345 (by decide +kernel) (by decide +kernel)⟩
theorem v_M_traced : Cond.instanceMethod (mY m_M_traced) ∈ lw_good ∧ Cond.selects (mY m_M_traced).cls (mY m_M_traced) (mY m_M_traced) ∈ lw_good := ⟨lw_in 1353 (by decide +kernel) (by decide +kernel), lw_in 54 (by decide +kernel) (by decide +kernel)⟩
theorem v_M_trace : Cond.instanceMethod (mY m_M_trace) ∈ lw_good ∧ Cond.selects (mY m_M_trace).cls (mY m_M_trace) (mY m_M_trace) ∈ lw_good := ⟨lw_in 1348 (by decide +kernel) (by decide +kernel), lw_in 1349 (by decide +kernel) (by decide +kernel)⟩
theorem v_M_held : Cond.instanceMethod (mY m_M_held) ∈ lw_good ∧ Cond.selects (mY m_M_held).cls (mY m_M_held) (mY m_M_held) ∈ lw_good := ⟨lw_in 1356 (by decide +kernel) (by decide +kernel), lw_in 1357 (by decide +kernel) (by decide +kernel)⟩
theorem v_M_within : Cond.instanceMethod (mY m_M_within) ∈ lw_good ∧ Cond.selects (mY m_M_within).cls (mY m_M_within) (mY m_M_within) ∈ lw_good := ⟨lw_in 1360 (by decide +kernel) (by decide +kernel), lw_in 1361 (by decide +kernel) (by decide +kernel)⟩
theorem v_M_isBehind : Cond.instanceMethod (mY m_M_isBehind) ∈ lw_good ∧ Cond.selects (mY m_M_isBehind).cls (mY m_M_isBehind) (mY m_M_isBehind) ∈ lw_good := ⟨lw_in 1378 (by decide +kernel) (by decide +kernel), lw_in 57 (by decide +kernel) (by decide +kernel)⟩
theorem v_M_answers : Cond.instanceMethod (mY m_M_answers) ∈ lw_good ∧ Cond.selects (mY m_M_answers).cls (mY m_M_answers) (mY m_M_answers) ∈ lw_good := ⟨lw_in 1374 (by decide +kernel) (by decide +kernel), lw_in 56 (by decide +kernel) (by decide +kernel)⟩
theorem v_M_fateOf : Cond.instanceMethod (mY m_M_fateOf) ∈ lw_good ∧ Cond.selects (mY m_M_fateOf).cls (mY m_M_fateOf) (mY m_M_fateOf) ∈ lw_good := ⟨lw_in 1370 (by decide +kernel) (by decide +kernel), lw_in 55 (by decide +kernel) (by decide +kernel)⟩
theorem v_M_fate : Cond.instanceMethod (mY m_M_fate) ∈ lw_good ∧ Cond.selects (mY m_M_fate).cls (mY m_M_fate) (mY m_M_fate) ∈ lw_good := ⟨lw_in 1365 (by decide +kernel) (by decide +kernel), lw_in 1366 (by decide +kernel) (by decide +kernel)⟩
theorem v_M_isOn : Cond.instanceMethod (mY m_M_isOn) ∈ lw_good ∧ Cond.selects (mY m_M_isOn).cls (mY m_M_isOn) (mY m_M_isOn) ∈ lw_good := ⟨lw_in 1393 (by decide +kernel) (by decide +kernel), lw_in 59 (by decide +kernel) (by decide +kernel)⟩
theorem v_M_signOf : Cond.instanceMethod (mY m_M_signOf) ∈ lw_good ∧ Cond.selects (mY m_M_signOf).cls (mY m_M_signOf) (mY m_M_signOf) ∈ lw_good := ⟨lw_in 1389 (by decide +kernel) (by decide +kernel), lw_in 58 (by decide +kernel) (by decide +kernel)⟩
theorem v_M_sign : Cond.instanceMethod (mY m_M_sign) ∈ lw_good ∧ Cond.selects (mY m_M_sign).cls (mY m_M_sign) (mY m_M_sign) ∈ lw_good := ⟨lw_in 1381 (by decide +kernel) (by decide +kernel), lw_in 1382 (by decide +kernel) (by decide +kernel)⟩
theorem v_M_isTree : Cond.instanceMethod (mY m_M_isTree) ∈ lw_good ∧ Cond.selects (mY m_M_isTree).cls (mY m_M_isTree) (mY m_M_isTree) ∈ lw_good := ⟨lw_in 1407 (by decide +kernel) (by decide +kernel), lw_in 61 (by decide +kernel) (by decide +kernel)⟩
theorem v_M_trees : Cond.instanceMethod (mY m_M_trees) ∈ lw_good ∧ Cond.selects (mY m_M_trees).cls (mY m_M_trees) (mY m_M_trees) ∈ lw_good := ⟨lw_in 1402 (by decide +kernel) (by decide +kernel), lw_in 60 (by decide +kernel) (by decide +kernel)⟩
theorem v_M_tree : Cond.instanceMethod (mY m_M_tree) ∈ lw_good ∧ Cond.selects (mY m_M_tree).cls (mY m_M_tree) (mY m_M_tree) ∈ lw_good := ⟨lw_in 1396 (by decide +kernel) (by decide +kernel), lw_in 1397 (by decide +kernel) (by decide +kernel)⟩
theorem v_M_lacksOf : Cond.instanceMethod (mY m_M_lacksOf) ∈ lw_good ∧ Cond.selects (mY m_M_lacksOf).cls (mY m_M_lacksOf) (mY m_M_lacksOf) ∈ lw_good := ⟨lw_in 1415 (by decide +kernel) (by decide +kernel), lw_in 62 (by decide +kernel) (by decide +kernel)⟩
theorem v_M_lacks : Cond.instanceMethod (mY m_M_lacks) ∈ lw_good ∧ Cond.selects (mY m_M_lacks).cls (mY m_M_lacks) (mY m_M_lacks) ∈ lw_good := ⟨lw_in 1410 (by decide +kernel) (by decide +kernel), lw_in 1411 (by decide +kernel) (by decide +kernel)⟩
theorem v_M_show : Cond.instanceMethod (mY m_M_show) ∈ lw_good ∧ Cond.selects (mY m_M_show).cls (mY m_M_show) (mY m_M_show) ∈ lw_good := ⟨lw_in 1418 (by decide +kernel) (by decide +kernel), lw_in 1419 (by decide +kernel) (by decide +kernel)⟩
theorem v_M_isCell : Cond.static (mY m_M_isCell) ∈ lw_good := lw_in 1429 (by decide +kernel) (by decide +kernel)
theorem v_M_hearer : Cond.instanceMethod (mY m_M_hearer) ∈ lw_good ∧ Cond.selects (mY m_M_hearer).cls (mY m_M_hearer) (mY m_M_hearer) ∈ lw_good := ⟨lw_in 1425 (by decide +kernel) (by decide +kernel), lw_in 1426 (by decide +kernel) (by decide +kernel)⟩
theorem v_M_bearing : Cond.instanceMethod (mY m_M_bearing) ∈ lw_good ∧ Cond.selects (mY m_M_bearing).cls (mY m_M_bearing) (mY m_M_bearing) ∈ lw_good := ⟨lw_in 1433 (by decide +kernel) (by decide +kernel), lw_in 1434 (by decide +kernel) (by decide +kernel)⟩
theorem v_M_fits : Cond.instanceMethod (mY m_M_fits) ∈ lw_good ∧ Cond.selects (mY m_M_fits).cls (mY m_M_fits) (mY m_M_fits) ∈ lw_good := ⟨lw_in 1445 (by decide +kernel) (by decide +kernel), lw_in 63 (by decide +kernel) (by decide +kernel)⟩
theorem v_M_patch : Cond.instanceMethod (mY m_M_patch) ∈ lw_good ∧ Cond.selects (mY m_M_patch).cls (mY m_M_patch) (mY m_M_patch) ∈ lw_good := ⟨lw_in 1440 (by decide +kernel) (by decide +kernel), lw_in 1441 (by decide +kernel) (by decide +kernel)⟩
theorem v_M_isIn : Cond.instanceMethod (mY m_M_isIn) ∈ lw_good ∧ Cond.selects (mY m_M_isIn).cls (mY m_M_isIn) (mY m_M_isIn) ∈ lw_good := ⟨lw_in 1448 (by decide +kernel) (by decide +kernel), lw_in 1449 (by decide +kernel) (by decide +kernel)⟩
theorem v_M_moved : Cond.instanceMethod (mY m_M_moved) ∈ lw_good ∧ Cond.selects (mY m_M_moved).cls (mY m_M_moved) (mY m_M_moved) ∈ lw_good := ⟨lw_in 1452 (by decide +kernel) (by decide +kernel), lw_in 1453 (by decide +kernel) (by decide +kernel)⟩
theorem v_M_listen : Cond.instanceMethod (mY m_M_listen) ∈ lw_good ∧ Cond.selects (mY m_M_listen).cls (mY m_M_listen) (mY m_M_listen) ∈ lw_good := ⟨lw_in 1456 (by decide +kernel) (by decide +kernel), lw_in 1457 (by decide +kernel) (by decide +kernel)⟩
theorem v_M_isHeard : Cond.instanceMethod (mY m_M_isHeard) ∈ lw_good ∧ Cond.selects (mY m_M_isHeard).cls (mY m_M_isHeard) (mY m_M_isHeard) ∈ lw_good := ⟨lw_in 1469 (by decide +kernel) (by decide +kernel), lw_in 65 (by decide +kernel) (by decide +kernel)⟩
theorem v_M_isSilent : Cond.instanceMethod (mY m_M_isSilent) ∈ lw_good ∧ Cond.selects (mY m_M_isSilent).cls (mY m_M_isSilent) (mY m_M_isSilent) ∈ lw_good := ⟨lw_in 1465 (by decide +kernel) (by decide +kernel), lw_in 64 (by decide +kernel) (by decide +kernel)⟩
theorem v_M_silent : Cond.instanceMethod (mY m_M_silent) ∈ lw_good ∧ Cond.selects (mY m_M_silent).cls (mY m_M_silent) (mY m_M_silent) ∈ lw_good := ⟨lw_in 1460 (by decide +kernel) (by decide +kernel), lw_in 1461 (by decide +kernel) (by decide +kernel)⟩
theorem v_M_event : Cond.instanceMethod (mY m_M_event) ∈ lw_good ∧ Cond.selects (mY m_M_event).cls (mY m_M_event) (mY m_M_event) ∈ lw_good := ⟨lw_in 1472 (by decide +kernel) (by decide +kernel), lw_in 1473 (by decide +kernel) (by decide +kernel)⟩
theorem v_M_ahead : Cond.instanceMethod (mY m_M_ahead) ∈ lw_good ∧ Cond.selects (mY m_M_ahead).cls (mY m_M_ahead) (mY m_M_ahead) ∈ lw_good := ⟨lw_in 1476 (by decide +kernel) (by decide +kernel), lw_in 1477 (by decide +kernel) (by decide +kernel)⟩
theorem v_M_waves : Cond.instanceMethod (mY m_M_waves) ∈ lw_good ∧ Cond.selects (mY m_M_waves).cls (mY m_M_waves) (mY m_M_waves) ∈ lw_good := ⟨lw_in 1480 (by decide +kernel) (by decide +kernel), lw_in 1481 (by decide +kernel) (by decide +kernel)⟩
theorem v_M_copies : Cond.instanceMethod (mY m_M_copies) ∈ lw_good ∧ Cond.selects (mY m_M_copies).cls (mY m_M_copies) (mY m_M_copies) ∈ lw_good := ⟨lw_in 1489 (by decide +kernel) (by decide +kernel), lw_in 66 (by decide +kernel) (by decide +kernel)⟩
theorem v_M_keep : Cond.instanceMethod (mY m_M_keep) ∈ lw_good ∧ Cond.selects (mY m_M_keep).cls (mY m_M_keep) (mY m_M_keep) ∈ lw_good := ⟨lw_in 1484 (by decide +kernel) (by decide +kernel), lw_in 1485 (by decide +kernel) (by decide +kernel)⟩
theorem v_M_back : Cond.instanceMethod (mY m_M_back) ∈ lw_good ∧ Cond.selects (mY m_M_back).cls (mY m_M_back) (mY m_M_back) ∈ lw_good := ⟨lw_in 1492 (by decide +kernel) (by decide +kernel), lw_in 1493 (by decide +kernel) (by decide +kernel)⟩
theorem v_M_count : Cond.instanceMethod (mY m_M_count) ∈ lw_good ∧ Cond.selects (mY m_M_count).cls (mY m_M_count) (mY m_M_count) ∈ lw_good := ⟨lw_in 1496 (by decide +kernel) (by decide +kernel), lw_in 1497 (by decide +kernel) (by decide +kernel)⟩
theorem v_JI_bitCount : Cond.static (mY m_JI_bitCount) ∈ lw_good := lw_in 668 (by decide +kernel) (by decide +kernel)
theorem v_JL_bitCount : Cond.static (mY m_JL_bitCount) ∈ lw_good := lw_in 662 (by decide +kernel) (by decide +kernel)
theorem v_JM_abs : Cond.static (mY m_JM_abs) ∈ lw_good := lw_in 621 (by decide +kernel) (by decide +kernel)
theorem v_JM_max : Cond.static (mY m_JM_max) ∈ lw_good := lw_in 697 (by decide +kernel) (by decide +kernel)
theorem v_JM_min : Cond.static (mY m_JM_min) ∈ lw_good := lw_in 598 (by decide +kernel) (by decide +kernel)
theorem v_JA_fillJ : Cond.static (mY m_JA_fillJ) ∈ lw_good := lw_in 644 (by decide +kernel) (by decide +kernel)
theorem v_JA_fill : Cond.static (mY m_JA_fill) ∈ lw_good := lw_in 151 (by decide +kernel) (by decide +kernel)
theorem v_objI : Cond.instanceMethod objectInit ∈ lw_good ∧ Cond.code objectInit ⟨#[0xb1]⟩ 1 none ∈ lw_good := ⟨lw_in 91 (by decide +kernel) (by decide +kernel), lw_in 92 (by decide +kernel) (by decide +kernel)⟩
theorem kl_L_7 : Cond.classLink "CallSignsLaw" 7 "CallSigns" ∈ lw_good := lw_in 85 (by decide +kernel) (by decide +kernel)
theorem ki_C : Cond.instantiable "CallSigns" 15 ∈ lw_good ∧ Cond.initialized "CallSigns" ∈ lw_good := ⟨lw_in 86 (by decide +kernel) (by decide +kernel), lw_in 68 (by decide +kernel) (by decide +kernel)⟩
theorem k_L_9 : Cond.methodLink "CallSignsLaw" 9 (mY m_C_init) ∈ lw_good ∧ Cond.instanceMethod (mY m_C_init) ∈ lw_good := ⟨lw_in 87 (by decide +kernel) (by decide +kernel), v_C_init⟩
theorem k_C_1 : Cond.methodLink "CallSigns" 1 objectInit ∈ lw_good ∧ Cond.instanceMethod objectInit ∈ lw_good ∧ Cond.code objectInit ⟨#[0xb1]⟩ 1 none ∈ lw_good := ⟨lw_in 90 (by decide +kernel) (by decide +kernel), v_objI⟩
theorem kl_C_7 : Cond.classLink "CallSigns" 7 "CallSigns$CallLog" ∈ lw_good := lw_in 93 (by decide +kernel) (by decide +kernel)
theorem ki_CallLog : Cond.instantiable "CallSigns$CallLog" 7 ∈ lw_good ∧ Cond.initialized "CallSigns$CallLog" ∈ lw_good := ⟨lw_in 94 (by decide +kernel) (by decide +kernel), lw_in 69 (by decide +kernel) (by decide +kernel)⟩
theorem k_C_9 : Cond.methodLinkNest "CallSigns" 9 (mY m_CallLog_init) "CallSigns" ∈ lw_nest ∧ Cond.instanceMethod (mY m_CallLog_init) ∈ lw_good := ⟨List.mem_filter.mpr ⟨List.mem_of_getElem? (i := 95) (by decide +kernel), rfl⟩, v_CallLog_init⟩
theorem k_CallLog_3 : Cond.methodLink "CallSigns$CallLog" 3 objectInit ∈ lw_good ∧ Cond.instanceMethod objectInit ∈ lw_good ∧ Cond.code objectInit ⟨#[0xb1]⟩ 1 none ∈ lw_good := ⟨lw_in 98 (by decide +kernel) (by decide +kernel), v_objI⟩
theorem f_CallLog_11 : FlOk "CallSigns$CallLog" 11 1 0 := ⟨_, rfl, by decide, lw_in 99 (by decide +kernel) (by decide +kernel)⟩
theorem f_Links_32 : FlOk "CallSigns$Links" 32 1 0 := ⟨_, rfl, by decide, lw_in 100 (by decide +kernel) (by decide +kernel)⟩
theorem f_Senders_45 : FlOk "CallSigns$Senders" 45 1 0 := ⟨_, rfl, by decide, lw_in 101 (by decide +kernel) (by decide +kernel)⟩
theorem f_Orders_37 : FlOk "CallSigns$Orders" 37 1 0 := ⟨_, rfl, by decide, lw_in 102 (by decide +kernel) (by decide +kernel)⟩
theorem f_Silence_42 : FlOk "CallSigns$Silence" 42 1 0 := ⟨_, rfl, by decide, lw_in 103 (by decide +kernel) (by decide +kernel)⟩
theorem f_CallLog_15 : FlOk "CallSigns$CallLog" 15 1 1 := ⟨_, rfl, by decide, lw_in 104 (by decide +kernel) (by decide +kernel)⟩
theorem f_Links_35 : FlOk "CallSigns$Links" 35 1 1 := ⟨_, rfl, by decide, lw_in 105 (by decide +kernel) (by decide +kernel)⟩
theorem f_Orders_34 : FlOk "CallSigns$Orders" 34 1 1 := ⟨_, rfl, by decide, lw_in 106 (by decide +kernel) (by decide +kernel)⟩
theorem f_CallLog_18 : FlOk "CallSigns$CallLog" 18 1 2 := ⟨_, rfl, by decide, lw_in 107 (by decide +kernel) (by decide +kernel)⟩
theorem f_Senders_57 : FlOk "CallSigns$Senders" 57 1 2 := ⟨_, rfl, by decide, lw_in 108 (by decide +kernel) (by decide +kernel)⟩
theorem f_Silence_51 : FlOk "CallSigns$Silence" 51 1 2 := ⟨_, rfl, by decide, lw_in 109 (by decide +kernel) (by decide +kernel)⟩
theorem f_Orders_43 : FlOk "CallSigns$Orders" 43 1 2 := ⟨_, rfl, by decide, lw_in 110 (by decide +kernel) (by decide +kernel)⟩
theorem f_CallLog_21 : FlOk "CallSigns$CallLog" 21 1 3 := ⟨_, rfl, by decide, lw_in 111 (by decide +kernel) (by decide +kernel)⟩
theorem f_Orders_40 : FlOk "CallSigns$Orders" 40 1 3 := ⟨_, rfl, by decide, lw_in 112 (by decide +kernel) (by decide +kernel)⟩
theorem f_CallLog_24 : FlOk "CallSigns$CallLog" 24 1 4 := ⟨_, rfl, by decide, lw_in 113 (by decide +kernel) (by decide +kernel)⟩
theorem f_Senders_54 : FlOk "CallSigns$Senders" 54 1 4 := ⟨_, rfl, by decide, lw_in 114 (by decide +kernel) (by decide +kernel)⟩
theorem f_Links_38 : FlOk "CallSigns$Links" 38 1 4 := ⟨_, rfl, by decide, lw_in 115 (by decide +kernel) (by decide +kernel)⟩
theorem f_Silence_45 : FlOk "CallSigns$Silence" 45 1 4 := ⟨_, rfl, by decide, lw_in 116 (by decide +kernel) (by decide +kernel)⟩
theorem f_CallLog_27 : FlOk "CallSigns$CallLog" 27 1 5 := ⟨_, rfl, by decide, lw_in 117 (by decide +kernel) (by decide +kernel)⟩
theorem f_Hands_31 : FlOk "CallSigns$Hands" 31 1 5 := ⟨_, rfl, by decide, lw_in 118 (by decide +kernel) (by decide +kernel)⟩
theorem f_CallLog_30 : FlOk "CallSigns$CallLog" 30 1 6 := ⟨_, rfl, by decide, lw_in 119 (by decide +kernel) (by decide +kernel)⟩
theorem f_Orders_19 : FlOk "CallSigns$Orders" 19 1 6 := ⟨_, rfl, by decide, lw_in 120 (by decide +kernel) (by decide +kernel)⟩
theorem f_Hands_28 : FlOk "CallSigns$Hands" 28 1 6 := ⟨_, rfl, by decide, lw_in 121 (by decide +kernel) (by decide +kernel)⟩
theorem f_Links_25 : FlOk "CallSigns$Links" 25 1 6 := ⟨_, rfl, by decide, lw_in 122 (by decide +kernel) (by decide +kernel)⟩
theorem f_Senders_38 : FlOk "CallSigns$Senders" 38 1 6 := ⟨_, rfl, by decide, lw_in 123 (by decide +kernel) (by decide +kernel)⟩
theorem f_C_110 : FlOk "CallSigns" 110 1 6 := ⟨_, rfl, by decide, lw_in 124 (by decide +kernel) (by decide +kernel)⟩
theorem f_Silence_37 : FlOk "CallSigns$Silence" 37 1 6 := ⟨_, rfl, by decide, lw_in 125 (by decide +kernel) (by decide +kernel)⟩
theorem ka_int : Cond.arrayClass .int ∈ lw_good := lw_in 141 (by decide +kernel) (by decide +kernel)
theorem kl_C_16 : Cond.classLink "CallSigns" 16 "CallSigns$Book" ∈ lw_good := lw_in 142 (by decide +kernel) (by decide +kernel)
theorem ki_Book : Cond.instantiable "CallSigns$Book" 13 ∈ lw_good ∧ Cond.initialized "CallSigns$Book" ∈ lw_good := ⟨lw_in 143 (by decide +kernel) (by decide +kernel), lw_in 70 (by decide +kernel) (by decide +kernel)⟩
theorem k_C_18 : Cond.methodLink "CallSigns" 18 (mY m_Book_init) ∈ lw_good ∧ Cond.instanceMethod (mY m_Book_init) ∈ lw_good := ⟨lw_in 144 (by decide +kernel) (by decide +kernel), v_Book_init⟩
theorem k_Book_5 : Cond.methodLink "CallSigns$Book" 5 objectInit ∈ lw_good ∧ Cond.instanceMethod objectInit ∈ lw_good ∧ Cond.code objectInit ⟨#[0xb1]⟩ 1 none ∈ lw_good := ⟨lw_in 147 (by decide +kernel) (by decide +kernel), v_objI⟩
theorem kl_Book_44 : Cond.classLink "CallSigns$Book" 44 ("[" ++ (FieldType.array .int).toString) ∈ lw_good := lw_in 148 (by decide +kernel) (by decide +kernel)
theorem ka_over : Cond.arrayOver (.array .int) ∈ lw_nest := List.mem_filter.mpr ⟨List.mem_of_getElem? (i := 149) (by decide +kernel), rfl⟩
theorem k_Book_55 : Cond.methodLink "CallSigns$Book" 55 (mY m_JA_fill) ∈ lw_good ∧ Cond.static (mY m_JA_fill) ∈ lw_good := ⟨lw_in 150 (by decide +kernel) (by decide +kernel), v_JA_fill⟩
theorem f_Book_11 : FlOk "CallSigns$Book" 11 0 0 := ⟨_, rfl, by decide, lw_in 153 (by decide +kernel) (by decide +kernel)⟩
theorem f_Book_15 : FlOk "CallSigns$Book" 15 0 1 := ⟨_, rfl, by decide, lw_in 154 (by decide +kernel) (by decide +kernel)⟩
theorem f_C_117 : FlOk "CallSigns" 117 0 1 := ⟨_, rfl, by decide, lw_in 155 (by decide +kernel) (by decide +kernel)⟩
theorem f_Book_19 : FlOk "CallSigns$Book" 19 0 2 := ⟨_, rfl, by decide, lw_in 156 (by decide +kernel) (by decide +kernel)⟩
theorem f_Book_23 : FlOk "CallSigns$Book" 23 0 3 := ⟨_, rfl, by decide, lw_in 157 (by decide +kernel) (by decide +kernel)⟩
theorem f_Book_26 : FlOk "CallSigns$Book" 26 0 4 := ⟨_, rfl, by decide, lw_in 158 (by decide +kernel) (by decide +kernel)⟩
theorem f_Book_29 : FlOk "CallSigns$Book" 29 0 5 := ⟨_, rfl, by decide, lw_in 159 (by decide +kernel) (by decide +kernel)⟩
theorem f_Book_32 : FlOk "CallSigns$Book" 32 0 6 := ⟨_, rfl, by decide, lw_in 160 (by decide +kernel) (by decide +kernel)⟩
theorem f_Book_35 : FlOk "CallSigns$Book" 35 0 7 := ⟨_, rfl, by decide, lw_in 161 (by decide +kernel) (by decide +kernel)⟩
theorem f_Book_38 : FlOk "CallSigns$Book" 38 0 8 := ⟨_, rfl, by decide, lw_in 162 (by decide +kernel) (by decide +kernel)⟩
theorem f_Book_41 : FlOk "CallSigns$Book" 41 0 9 := ⟨_, rfl, by decide, lw_in 163 (by decide +kernel) (by decide +kernel)⟩
theorem f_Book_46 : FlOk "CallSigns$Book" 46 0 10 := ⟨_, rfl, by decide, lw_in 164 (by decide +kernel) (by decide +kernel)⟩
theorem f_C_134 : FlOk "CallSigns" 134 0 10 := ⟨_, rfl, by decide, lw_in 165 (by decide +kernel) (by decide +kernel)⟩
theorem f_Book_49 : FlOk "CallSigns$Book" 49 0 11 := ⟨_, rfl, by decide, lw_in 166 (by decide +kernel) (by decide +kernel)⟩
theorem f_C_138 : FlOk "CallSigns" 138 0 11 := ⟨_, rfl, by decide, lw_in 167 (by decide +kernel) (by decide +kernel)⟩
theorem f_Book_52 : FlOk "CallSigns$Book" 52 0 12 := ⟨_, rfl, by decide, lw_in 168 (by decide +kernel) (by decide +kernel)⟩
theorem f_C_336 : FlOk "CallSigns" 336 0 12 := ⟨_, rfl, by decide, lw_in 169 (by decide +kernel) (by decide +kernel)⟩
theorem ka_byte : Cond.arrayClass .byte ∈ lw_good := lw_in 197 (by decide +kernel) (by decide +kernel)
theorem kl_C_23 : Cond.classLink "CallSigns" 23 "CallSigns$Hands" ∈ lw_good := lw_in 198 (by decide +kernel) (by decide +kernel)
theorem ki_Hands : Cond.instantiable "CallSigns$Hands" 3 ∈ lw_good ∧ Cond.initialized "CallSigns$Hands" ∈ lw_good := ⟨lw_in 199 (by decide +kernel) (by decide +kernel), lw_in 72 (by decide +kernel) (by decide +kernel)⟩
theorem k_C_25 : Cond.methodLinkNest "CallSigns" 25 (mY m_Hands_init) "CallSigns" ∈ lw_nest ∧ Cond.instanceMethod (mY m_Hands_init) ∈ lw_good := ⟨List.mem_filter.mpr ⟨List.mem_of_getElem? (i := 200) (by decide +kernel), rfl⟩, v_Hands_init⟩
theorem k_Hands_3 : Cond.methodLink "CallSigns$Hands" 3 objectInit ∈ lw_good ∧ Cond.instanceMethod objectInit ∈ lw_good ∧ Cond.code objectInit ⟨#[0xb1]⟩ 1 none ∈ lw_good := ⟨lw_in 203 (by decide +kernel) (by decide +kernel), v_objI⟩
theorem f_Hands_9 : FlOk "CallSigns$Hands" 9 2 0 := ⟨_, rfl, by decide, lw_in 204 (by decide +kernel) (by decide +kernel)⟩
theorem f_C_141 : FlOk "CallSigns" 141 2 0 := ⟨_, rfl, by decide, lw_in 205 (by decide +kernel) (by decide +kernel)⟩
theorem f_Hands_15 : FlOk "CallSigns$Hands" 15 2 1 := ⟨_, rfl, by decide, lw_in 206 (by decide +kernel) (by decide +kernel)⟩
theorem f_C_155 : FlOk "CallSigns" 155 2 1 := ⟨_, rfl, by decide, lw_in 207 (by decide +kernel) (by decide +kernel)⟩
theorem f_Hands_18 : FlOk "CallSigns$Hands" 18 2 2 := ⟨_, rfl, by decide, lw_in 208 (by decide +kernel) (by decide +kernel)⟩
theorem kl_C_30 : Cond.classLink "CallSigns" 30 "CallSigns$Pairing" ∈ lw_good := lw_in 216 (by decide +kernel) (by decide +kernel)
theorem ki_Pairing : Cond.instantiable "CallSigns$Pairing" 8 ∈ lw_good ∧ Cond.initialized "CallSigns$Pairing" ∈ lw_good := ⟨lw_in 217 (by decide +kernel) (by decide +kernel), lw_in 73 (by decide +kernel) (by decide +kernel)⟩
theorem k_C_32 : Cond.methodLinkNest "CallSigns" 32 (mY m_Pairing_init) "CallSigns" ∈ lw_nest ∧ Cond.instanceMethod (mY m_Pairing_init) ∈ lw_good := ⟨List.mem_filter.mpr ⟨List.mem_of_getElem? (i := 218) (by decide +kernel), rfl⟩, v_Pairing_init⟩
theorem k_Pairing_5 : Cond.methodLink "CallSigns$Pairing" 5 objectInit ∈ lw_good ∧ Cond.instanceMethod objectInit ∈ lw_good ∧ Cond.code objectInit ⟨#[0xb1]⟩ 1 none ∈ lw_good := ⟨lw_in 221 (by decide +kernel) (by decide +kernel), v_objI⟩
theorem kl_Pairing_11 : Cond.classLink "CallSigns$Pairing" 11 "CallSigns$Senders" ∈ lw_good := lw_in 222 (by decide +kernel) (by decide +kernel)
theorem ki_Senders : Cond.instantiable "CallSigns$Senders" 5 ∈ lw_good ∧ Cond.initialized "CallSigns$Senders" ∈ lw_good := ⟨lw_in 223 (by decide +kernel) (by decide +kernel), lw_in 74 (by decide +kernel) (by decide +kernel)⟩
theorem k_Pairing_13 : Cond.methodLinkNest "CallSigns$Pairing" 13 (mY m_Senders_init) "CallSigns" ∈ lw_nest ∧ Cond.instanceMethod (mY m_Senders_init) ∈ lw_good := ⟨List.mem_filter.mpr ⟨List.mem_of_getElem? (i := 224) (by decide +kernel), rfl⟩, v_Senders_init⟩
theorem k_Senders_3 : Cond.methodLink "CallSigns$Senders" 3 objectInit ∈ lw_good ∧ Cond.instanceMethod objectInit ∈ lw_good ∧ Cond.code objectInit ⟨#[0xb1]⟩ 1 none ∈ lw_good := ⟨lw_in 227 (by decide +kernel) (by decide +kernel), v_objI⟩
theorem f_Senders_9 : FlOk "CallSigns$Senders" 9 7 0 := ⟨_, rfl, by decide, lw_in 228 (by decide +kernel) (by decide +kernel)⟩
theorem f_Pairing_50 : FlOk "CallSigns$Pairing" 50 7 0 := ⟨_, rfl, by decide, lw_in 229 (by decide +kernel) (by decide +kernel)⟩
theorem f_Senders_15 : FlOk "CallSigns$Senders" 15 7 1 := ⟨_, rfl, by decide, lw_in 230 (by decide +kernel) (by decide +kernel)⟩
theorem f_Pairing_47 : FlOk "CallSigns$Pairing" 47 7 1 := ⟨_, rfl, by decide, lw_in 231 (by decide +kernel) (by decide +kernel)⟩
theorem f_Senders_19 : FlOk "CallSigns$Senders" 19 7 2 := ⟨_, rfl, by decide, lw_in 232 (by decide +kernel) (by decide +kernel)⟩
theorem f_Senders_23 : FlOk "CallSigns$Senders" 23 7 3 := ⟨_, rfl, by decide, lw_in 233 (by decide +kernel) (by decide +kernel)⟩
theorem f_Senders_26 : FlOk "CallSigns$Senders" 26 7 4 := ⟨_, rfl, by decide, lw_in 234 (by decide +kernel) (by decide +kernel)⟩
theorem ka_long : Cond.arrayClass .long ∈ lw_good := lw_in 246 (by decide +kernel) (by decide +kernel)
theorem f_Pairing_14 : FlOk "CallSigns$Pairing" 14 5 0 := ⟨_, rfl, by decide, lw_in 247 (by decide +kernel) (by decide +kernel)⟩
theorem f_C_171 : FlOk "CallSigns" 171 5 0 := ⟨_, rfl, by decide, lw_in 248 (by decide +kernel) (by decide +kernel)⟩
theorem f_Pairing_18 : FlOk "CallSigns$Pairing" 18 5 1 := ⟨_, rfl, by decide, lw_in 249 (by decide +kernel) (by decide +kernel)⟩
theorem f_C_180 : FlOk "CallSigns" 180 5 1 := ⟨_, rfl, by decide, lw_in 250 (by decide +kernel) (by decide +kernel)⟩
theorem f_Pairing_21 : FlOk "CallSigns$Pairing" 21 5 2 := ⟨_, rfl, by decide, lw_in 251 (by decide +kernel) (by decide +kernel)⟩
theorem f_C_191 : FlOk "CallSigns" 191 5 2 := ⟨_, rfl, by decide, lw_in 252 (by decide +kernel) (by decide +kernel)⟩
theorem f_Pairing_25 : FlOk "CallSigns$Pairing" 25 5 3 := ⟨_, rfl, by decide, lw_in 253 (by decide +kernel) (by decide +kernel)⟩
theorem f_Trail_35 : FlOk "CallSigns$Trail" 35 5 3 := ⟨_, rfl, by decide, lw_in 254 (by decide +kernel) (by decide +kernel)⟩
theorem f_Pairing_28 : FlOk "CallSigns$Pairing" 28 5 4 := ⟨_, rfl, by decide, lw_in 255 (by decide +kernel) (by decide +kernel)⟩
theorem f_Pairing_31 : FlOk "CallSigns$Pairing" 31 5 5 := ⟨_, rfl, by decide, lw_in 256 (by decide +kernel) (by decide +kernel)⟩
theorem f_Pairing_34 : FlOk "CallSigns$Pairing" 34 5 6 := ⟨_, rfl, by decide, lw_in 257 (by decide +kernel) (by decide +kernel)⟩
theorem f_Pairing_38 : FlOk "CallSigns$Pairing" 38 5 7 := ⟨_, rfl, by decide, lw_in 258 (by decide +kernel) (by decide +kernel)⟩
theorem ka_boolean : Cond.arrayClass .boolean ∈ lw_good := lw_in 276 (by decide +kernel) (by decide +kernel)
theorem kl_C_37 : Cond.classLink "CallSigns" 37 "CallSigns$Trail" ∈ lw_good := lw_in 277 (by decide +kernel) (by decide +kernel)
theorem ki_Trail : Cond.instantiable "CallSigns$Trail" 1 ∈ lw_good ∧ Cond.initialized "CallSigns$Trail" ∈ lw_good := ⟨lw_in 278 (by decide +kernel) (by decide +kernel), lw_in 75 (by decide +kernel) (by decide +kernel)⟩
theorem k_C_39 : Cond.methodLinkNest "CallSigns" 39 (mY m_Trail_init) "CallSigns" ∈ lw_nest ∧ Cond.instanceMethod (mY m_Trail_init) ∈ lw_good := ⟨List.mem_filter.mpr ⟨List.mem_of_getElem? (i := 279) (by decide +kernel), rfl⟩, v_Trail_init⟩
theorem k_Trail_3 : Cond.methodLink "CallSigns$Trail" 3 objectInit ∈ lw_good ∧ Cond.instanceMethod objectInit ∈ lw_good ∧ Cond.code objectInit ⟨#[0xb1]⟩ 1 none ∈ lw_good := ⟨lw_in 282 (by decide +kernel) (by decide +kernel), v_objI⟩
theorem f_Trail_9 : FlOk "CallSigns$Trail" 9 9 0 := ⟨_, rfl, by decide, lw_in 283 (by decide +kernel) (by decide +kernel)⟩
theorem f_C_207 : FlOk "CallSigns" 207 9 0 := ⟨_, rfl, by decide, lw_in 284 (by decide +kernel) (by decide +kernel)⟩
theorem kl_C_44 : Cond.classLink "CallSigns" 44 "CallSigns$Orders" ∈ lw_good := lw_in 288 (by decide +kernel) (by decide +kernel)
theorem ki_Orders : Cond.instantiable "CallSigns$Orders" 2 ∈ lw_good ∧ Cond.initialized "CallSigns$Orders" ∈ lw_good := ⟨lw_in 289 (by decide +kernel) (by decide +kernel), lw_in 76 (by decide +kernel) (by decide +kernel)⟩
theorem k_C_46 : Cond.methodLinkNest "CallSigns" 46 (mY m_Orders_init) "CallSigns" ∈ lw_nest ∧ Cond.instanceMethod (mY m_Orders_init) ∈ lw_good := ⟨List.mem_filter.mpr ⟨List.mem_of_getElem? (i := 290) (by decide +kernel), rfl⟩, v_Orders_init⟩
theorem k_Orders_3 : Cond.methodLink "CallSigns$Orders" 3 objectInit ∈ lw_good ∧ Cond.instanceMethod objectInit ∈ lw_good ∧ Cond.code objectInit ⟨#[0xb1]⟩ 1 none ∈ lw_good := ⟨lw_in 293 (by decide +kernel) (by decide +kernel), v_objI⟩
theorem f_Orders_9 : FlOk "CallSigns$Orders" 9 4 0 := ⟨_, rfl, by decide, lw_in 294 (by decide +kernel) (by decide +kernel)⟩
theorem f_C_218 : FlOk "CallSigns" 218 4 0 := ⟨_, rfl, by decide, lw_in 295 (by decide +kernel) (by decide +kernel)⟩
theorem f_Orders_15 : FlOk "CallSigns$Orders" 15 4 1 := ⟨_, rfl, by decide, lw_in 296 (by decide +kernel) (by decide +kernel)⟩
theorem f_C_232 : FlOk "CallSigns" 232 4 1 := ⟨_, rfl, by decide, lw_in 297 (by decide +kernel) (by decide +kernel)⟩
theorem kl_C_51 : Cond.classLink "CallSigns" 51 "CallSigns$Tree" ∈ lw_good := lw_in 303 (by decide +kernel) (by decide +kernel)
theorem ki_Tree : Cond.instantiable "CallSigns$Tree" 8 ∈ lw_good ∧ Cond.initialized "CallSigns$Tree" ∈ lw_good := ⟨lw_in 304 (by decide +kernel) (by decide +kernel), lw_in 77 (by decide +kernel) (by decide +kernel)⟩
theorem k_C_53 : Cond.methodLinkNest "CallSigns" 53 (mY m_Tree_init) "CallSigns" ∈ lw_nest ∧ Cond.instanceMethod (mY m_Tree_init) ∈ lw_good := ⟨List.mem_filter.mpr ⟨List.mem_of_getElem? (i := 305) (by decide +kernel), rfl⟩, v_Tree_init⟩
theorem k_Tree_3 : Cond.methodLink "CallSigns$Tree" 3 objectInit ∈ lw_good ∧ Cond.instanceMethod objectInit ∈ lw_good ∧ Cond.code objectInit ⟨#[0xb1]⟩ 1 none ∈ lw_good := ⟨lw_in 308 (by decide +kernel) (by decide +kernel), v_objI⟩
theorem f_Tree_9 : FlOk "CallSigns$Tree" 9 10 0 := ⟨_, rfl, by decide, lw_in 309 (by decide +kernel) (by decide +kernel)⟩
theorem f_C_246 : FlOk "CallSigns" 246 10 0 := ⟨_, rfl, by decide, lw_in 310 (by decide +kernel) (by decide +kernel)⟩
theorem f_Tree_15 : FlOk "CallSigns$Tree" 15 10 1 := ⟨_, rfl, by decide, lw_in 311 (by decide +kernel) (by decide +kernel)⟩
theorem f_Tree_18 : FlOk "CallSigns$Tree" 18 10 2 := ⟨_, rfl, by decide, lw_in 312 (by decide +kernel) (by decide +kernel)⟩
theorem f_Tree_22 : FlOk "CallSigns$Tree" 22 10 3 := ⟨_, rfl, by decide, lw_in 313 (by decide +kernel) (by decide +kernel)⟩
theorem f_Tree_25 : FlOk "CallSigns$Tree" 25 10 4 := ⟨_, rfl, by decide, lw_in 314 (by decide +kernel) (by decide +kernel)⟩
theorem f_Tree_28 : FlOk "CallSigns$Tree" 28 10 5 := ⟨_, rfl, by decide, lw_in 315 (by decide +kernel) (by decide +kernel)⟩
theorem f_Tree_31 : FlOk "CallSigns$Tree" 31 10 6 := ⟨_, rfl, by decide, lw_in 316 (by decide +kernel) (by decide +kernel)⟩
theorem f_Tree_34 : FlOk "CallSigns$Tree" 34 10 7 := ⟨_, rfl, by decide, lw_in 317 (by decide +kernel) (by decide +kernel)⟩
theorem kl_C_58 : Cond.classLink "CallSigns" 58 "CallSigns$Places" ∈ lw_good := lw_in 335 (by decide +kernel) (by decide +kernel)
theorem ki_Places : Cond.instantiable "CallSigns$Places" 11 ∈ lw_good ∧ Cond.initialized "CallSigns$Places" ∈ lw_good := ⟨lw_in 336 (by decide +kernel) (by decide +kernel), lw_in 78 (by decide +kernel) (by decide +kernel)⟩
theorem k_C_60 : Cond.methodLinkNest "CallSigns" 60 (mY m_Places_init) "CallSigns" ∈ lw_nest ∧ Cond.instanceMethod (mY m_Places_init) ∈ lw_good := ⟨List.mem_filter.mpr ⟨List.mem_of_getElem? (i := 337) (by decide +kernel), rfl⟩, v_Places_init⟩
theorem k_Places_5 : Cond.methodLink "CallSigns$Places" 5 objectInit ∈ lw_good ∧ Cond.instanceMethod objectInit ∈ lw_good ∧ Cond.code objectInit ⟨#[0xb1]⟩ 1 none ∈ lw_good := ⟨lw_in 340 (by decide +kernel) (by decide +kernel), v_objI⟩
theorem f_Places_11 : FlOk "CallSigns$Places" 11 6 0 := ⟨_, rfl, by decide, lw_in 341 (by decide +kernel) (by decide +kernel)⟩
theorem f_Places_15 : FlOk "CallSigns$Places" 15 6 1 := ⟨_, rfl, by decide, lw_in 342 (by decide +kernel) (by decide +kernel)⟩
theorem f_Places_18 : FlOk "CallSigns$Places" 18 6 2 := ⟨_, rfl, by decide, lw_in 343 (by decide +kernel) (by decide +kernel)⟩
theorem f_Places_21 : FlOk "CallSigns$Places" 21 6 3 := ⟨_, rfl, by decide, lw_in 344 (by decide +kernel) (by decide +kernel)⟩
theorem f_Places_24 : FlOk "CallSigns$Places" 24 6 4 := ⟨_, rfl, by decide, lw_in 345 (by decide +kernel) (by decide +kernel)⟩
theorem f_Places_27 : FlOk "CallSigns$Places" 27 6 5 := ⟨_, rfl, by decide, lw_in 346 (by decide +kernel) (by decide +kernel)⟩
theorem f_Places_30 : FlOk "CallSigns$Places" 30 6 6 := ⟨_, rfl, by decide, lw_in 347 (by decide +kernel) (by decide +kernel)⟩
theorem f_Places_33 : FlOk "CallSigns$Places" 33 6 7 := ⟨_, rfl, by decide, lw_in 348 (by decide +kernel) (by decide +kernel)⟩
theorem f_Places_36 : FlOk "CallSigns$Places" 36 6 8 := ⟨_, rfl, by decide, lw_in 349 (by decide +kernel) (by decide +kernel)⟩
theorem f_C_272 : FlOk "CallSigns" 272 6 8 := ⟨_, rfl, by decide, lw_in 350 (by decide +kernel) (by decide +kernel)⟩
theorem f_Places_40 : FlOk "CallSigns$Places" 40 6 9 := ⟨_, rfl, by decide, lw_in 351 (by decide +kernel) (by decide +kernel)⟩
theorem f_C_274 : FlOk "CallSigns" 274 6 9 := ⟨_, rfl, by decide, lw_in 352 (by decide +kernel) (by decide +kernel)⟩
theorem f_Places_43 : FlOk "CallSigns$Places" 43 6 10 := ⟨_, rfl, by decide, lw_in 353 (by decide +kernel) (by decide +kernel)⟩
theorem kl_C_65 : Cond.classLink "CallSigns" 65 "CallSigns$Silence" ∈ lw_good := lw_in 377 (by decide +kernel) (by decide +kernel)
theorem ki_Silence : Cond.instantiable "CallSigns$Silence" 8 ∈ lw_good ∧ Cond.initialized "CallSigns$Silence" ∈ lw_good := ⟨lw_in 378 (by decide +kernel) (by decide +kernel), lw_in 79 (by decide +kernel) (by decide +kernel)⟩
theorem k_C_67 : Cond.methodLinkNest "CallSigns" 67 (mY m_Silence_init) "CallSigns" ∈ lw_nest ∧ Cond.instanceMethod (mY m_Silence_init) ∈ lw_good := ⟨List.mem_filter.mpr ⟨List.mem_of_getElem? (i := 379) (by decide +kernel), rfl⟩, v_Silence_init⟩
theorem k_Silence_3 : Cond.methodLink "CallSigns$Silence" 3 objectInit ∈ lw_good ∧ Cond.instanceMethod objectInit ∈ lw_good ∧ Cond.code objectInit ⟨#[0xb1]⟩ 1 none ∈ lw_good := ⟨lw_in 382 (by decide +kernel) (by decide +kernel), v_objI⟩
theorem f_Silence_9 : FlOk "CallSigns$Silence" 9 8 0 := ⟨_, rfl, by decide, lw_in 383 (by decide +kernel) (by decide +kernel)⟩
theorem f_C_295 : FlOk "CallSigns" 295 8 0 := ⟨_, rfl, by decide, lw_in 384 (by decide +kernel) (by decide +kernel)⟩
theorem f_Silence_15 : FlOk "CallSigns$Silence" 15 8 1 := ⟨_, rfl, by decide, lw_in 385 (by decide +kernel) (by decide +kernel)⟩
theorem f_C_311 : FlOk "CallSigns" 311 8 1 := ⟨_, rfl, by decide, lw_in 386 (by decide +kernel) (by decide +kernel)⟩
theorem f_Silence_18 : FlOk "CallSigns$Silence" 18 8 2 := ⟨_, rfl, by decide, lw_in 387 (by decide +kernel) (by decide +kernel)⟩
theorem f_Silence_22 : FlOk "CallSigns$Silence" 22 8 3 := ⟨_, rfl, by decide, lw_in 388 (by decide +kernel) (by decide +kernel)⟩
theorem f_Silence_25 : FlOk "CallSigns$Silence" 25 8 4 := ⟨_, rfl, by decide, lw_in 389 (by decide +kernel) (by decide +kernel)⟩
theorem f_Silence_28 : FlOk "CallSigns$Silence" 28 8 5 := ⟨_, rfl, by decide, lw_in 390 (by decide +kernel) (by decide +kernel)⟩
theorem f_Silence_31 : FlOk "CallSigns$Silence" 31 8 6 := ⟨_, rfl, by decide, lw_in 391 (by decide +kernel) (by decide +kernel)⟩
theorem f_Silence_34 : FlOk "CallSigns$Silence" 34 8 7 := ⟨_, rfl, by decide, lw_in 392 (by decide +kernel) (by decide +kernel)⟩
theorem kl_C_72 : Cond.classLink "CallSigns" 72 "CallSigns$Links" ∈ lw_good := lw_in 410 (by decide +kernel) (by decide +kernel)
theorem ki_Links : Cond.instantiable "CallSigns$Links" 2 ∈ lw_good ∧ Cond.initialized "CallSigns$Links" ∈ lw_good := ⟨lw_in 411 (by decide +kernel) (by decide +kernel), lw_in 80 (by decide +kernel) (by decide +kernel)⟩
theorem k_C_74 : Cond.methodLinkNest "CallSigns" 74 (mY m_Links_init) "CallSigns" ∈ lw_nest ∧ Cond.instanceMethod (mY m_Links_init) ∈ lw_good := ⟨List.mem_filter.mpr ⟨List.mem_of_getElem? (i := 412) (by decide +kernel), rfl⟩, v_Links_init⟩
theorem k_Links_3 : Cond.methodLink "CallSigns$Links" 3 objectInit ∈ lw_good ∧ Cond.instanceMethod objectInit ∈ lw_good ∧ Cond.code objectInit ⟨#[0xb1]⟩ 1 none ∈ lw_good := ⟨lw_in 415 (by decide +kernel) (by decide +kernel), v_objI⟩
theorem f_Links_9 : FlOk "CallSigns$Links" 9 3 0 := ⟨_, rfl, by decide, lw_in 416 (by decide +kernel) (by decide +kernel)⟩
theorem f_C_329 : FlOk "CallSigns" 329 3 0 := ⟨_, rfl, by decide, lw_in 417 (by decide +kernel) (by decide +kernel)⟩
theorem f_Links_15 : FlOk "CallSigns$Links" 15 3 1 := ⟨_, rfl, by decide, lw_in 418 (by decide +kernel) (by decide +kernel)⟩
theorem f_C_10 : FlOk "CallSigns" 10 11 0 := ⟨_, rfl, by decide, lw_in 424 (by decide +kernel) (by decide +kernel)⟩
theorem f_C_19 : FlOk "CallSigns" 19 11 1 := ⟨_, rfl, by decide, lw_in 425 (by decide +kernel) (by decide +kernel)⟩
theorem f_C_26 : FlOk "CallSigns" 26 11 2 := ⟨_, rfl, by decide, lw_in 426 (by decide +kernel) (by decide +kernel)⟩
theorem f_C_33 : FlOk "CallSigns" 33 11 3 := ⟨_, rfl, by decide, lw_in 427 (by decide +kernel) (by decide +kernel)⟩
theorem f_C_40 : FlOk "CallSigns" 40 11 4 := ⟨_, rfl, by decide, lw_in 428 (by decide +kernel) (by decide +kernel)⟩
theorem f_C_47 : FlOk "CallSigns" 47 11 5 := ⟨_, rfl, by decide, lw_in 429 (by decide +kernel) (by decide +kernel)⟩
theorem f_C_54 : FlOk "CallSigns" 54 11 6 := ⟨_, rfl, by decide, lw_in 430 (by decide +kernel) (by decide +kernel)⟩
theorem f_C_61 : FlOk "CallSigns" 61 11 7 := ⟨_, rfl, by decide, lw_in 431 (by decide +kernel) (by decide +kernel)⟩
theorem f_C_68 : FlOk "CallSigns" 68 11 8 := ⟨_, rfl, by decide, lw_in 432 (by decide +kernel) (by decide +kernel)⟩
theorem f_C_75 : FlOk "CallSigns" 75 11 9 := ⟨_, rfl, by decide, lw_in 433 (by decide +kernel) (by decide +kernel)⟩
theorem f_C_79 : FlOk "CallSigns" 79 11 10 := ⟨_, rfl, by decide, lw_in 434 (by decide +kernel) (by decide +kernel)⟩
theorem f_C_83 : FlOk "CallSigns" 83 11 11 := ⟨_, rfl, by decide, lw_in 435 (by decide +kernel) (by decide +kernel)⟩
theorem f_C_86 : FlOk "CallSigns" 86 11 12 := ⟨_, rfl, by decide, lw_in 436 (by decide +kernel) (by decide +kernel)⟩
theorem f_C_89 : FlOk "CallSigns" 89 11 13 := ⟨_, rfl, by decide, lw_in 437 (by decide +kernel) (by decide +kernel)⟩
theorem f_C_92 : FlOk "CallSigns" 92 11 14 := ⟨_, rfl, by decide, lw_in 438 (by decide +kernel) (by decide +kernel)⟩
theorem k_L_13 : Cond.methodLink "CallSignsLaw" 13 (mY m_C_call) ∈ lw_good ∧ Cond.instanceMethod (mY m_C_call) ∈ lw_good ∧ Cond.selects (mY m_C_call).cls (mY m_C_call) (mY m_C_call) ∈ lw_good := ⟨lw_in 470 (by decide +kernel) (by decide +kernel), v_C_call⟩
theorem k_C_96 : Cond.methodLink "CallSigns" 96 (mY m_C_isName) ∈ lw_good ∧ Cond.static (mY m_C_isName) ∈ lw_good := ⟨lw_in 474 (by decide +kernel) (by decide +kernel), v_C_isName⟩
theorem k_C_103 : Cond.methodLink "CallSigns" 103 (mY m_C_isAmong) ∈ lw_good ∧ Cond.static (mY m_C_isAmong) ∈ lw_good := ⟨lw_in 477 (by decide +kernel) (by decide +kernel), v_C_isAmong⟩
theorem k_C_100 : Cond.methodLink "CallSigns" 100 (mY m_C_isHour) ∈ lw_good ∧ Cond.static (mY m_C_isHour) ∈ lw_good := ⟨lw_in 480 (by decide +kernel) (by decide +kernel), v_C_isHour⟩
theorem k_C_107 : Cond.methodLink "CallSigns" 107 (mY m_C_isWave) ∈ lw_good ∧ Cond.static (mY m_C_isWave) ∈ lw_good := ⟨lw_in 483 (by decide +kernel) (by decide +kernel), v_C_isWave⟩
theorem k_C_113 : Cond.methodLink "CallSigns" 113 (mY m_CallLog_add) ∈ lw_good ∧ Cond.instanceMethod (mY m_CallLog_add) ∈ lw_good ∧ Cond.selects (mY m_CallLog_add).cls (mY m_CallLog_add) (mY m_CallLog_add) ∈ lw_good := ⟨lw_in 486 (by decide +kernel) (by decide +kernel), v_CallLog_add⟩
theorem k_L_20 : Cond.methodLink "CallSignsLaw" 20 (mY m_C_write) ∈ lw_good ∧ Cond.instanceMethod (mY m_C_write) ∈ lw_good ∧ Cond.selects (mY m_C_write).cls (mY m_C_write) (mY m_C_write) ∈ lw_good := ⟨lw_in 490 (by decide +kernel) (by decide +kernel), v_C_write⟩
theorem k_C_120 : Cond.methodLink "CallSigns" 120 (mY m_Book_append) ∈ lw_good ∧ Cond.instanceMethod (mY m_Book_append) ∈ lw_good ∧ Cond.selects (mY m_Book_append).cls (mY m_Book_append) (mY m_Book_append) ∈ lw_good := ⟨lw_in 494 (by decide +kernel) (by decide +kernel), v_Book_append⟩
theorem k_L_25 : Cond.methodLink "CallSignsLaw" 25 (mY m_C_wipe) ∈ lw_good ∧ Cond.instanceMethod (mY m_C_wipe) ∈ lw_good ∧ Cond.selects (mY m_C_wipe).cls (mY m_C_wipe) (mY m_C_wipe) ∈ lw_good := ⟨lw_in 498 (by decide +kernel) (by decide +kernel), v_C_wipe⟩
theorem k_L_30 : Cond.methodLink "CallSignsLaw" 30 (mY m_C_fault) ∈ lw_good ∧ Cond.instanceMethod (mY m_C_fault) ∈ lw_good ∧ Cond.selects (mY m_C_fault).cls (mY m_C_fault) (mY m_C_fault) ∈ lw_good := ⟨lw_in 502 (by decide +kernel) (by decide +kernel), v_C_fault⟩
theorem k_C_124 : Cond.methodLink "CallSigns" 124 (mY m_Book_read) ∈ lw_good ∧ Cond.instanceMethod (mY m_Book_read) ∈ lw_good ∧ Cond.selects (mY m_Book_read).cls (mY m_Book_read) (mY m_Book_read) ∈ lw_good := ⟨lw_in 506 (by decide +kernel) (by decide +kernel), v_Book_read⟩
theorem k_Book_61 : Cond.methodLink "CallSigns$Book" 61 (mY m_Book_readItem) ∈ lw_good ∧ Cond.instanceMethod (mY m_Book_readItem) ∈ lw_good ∧ Cond.selects (mY m_Book_readItem).cls (mY m_Book_readItem) (mY m_Book_readItem) ∈ lw_good := ⟨lw_in 510 (by decide +kernel) (by decide +kernel), v_Book_readItem⟩
theorem k_Book_65 : Cond.methodLink "CallSigns$Book" 65 (mY m_Book_numbersBehind) ∈ lw_good ∧ Cond.static (mY m_Book_numbersBehind) ∈ lw_good := ⟨lw_in 514 (by decide +kernel) (by decide +kernel), v_Book_numbersBehind⟩
theorem k_Book_68 : Cond.methodLink "CallSigns$Book" 68 (mY m_Book_readNumber) ∈ lw_good ∧ Cond.instanceMethod (mY m_Book_readNumber) ∈ lw_good ∧ Cond.selects (mY m_Book_readNumber).cls (mY m_Book_readNumber) (mY m_Book_readNumber) ∈ lw_good := ⟨lw_in 517 (by decide +kernel) (by decide +kernel), v_Book_readNumber⟩
theorem k_Book_80 : Cond.methodLink "CallSigns$Book" 80 (mY m_Book_isFigure) ∈ lw_good ∧ Cond.instanceMethod (mY m_Book_isFigure) ∈ lw_good ∧ Cond.selects (mY m_Book_isFigure).cls (mY m_Book_isFigure) (mY m_Book_isFigure) ∈ lw_good := ⟨lw_in 521 (by decide +kernel) (by decide +kernel), v_Book_isFigure⟩
theorem k_Book_72 : Cond.methodLink "CallSigns$Book" 72 (mY m_Book_isSound) ∈ lw_good ∧ Cond.instanceMethod (mY m_Book_isSound) ∈ lw_good ∧ Cond.selects (mY m_Book_isSound).cls (mY m_Book_isSound) (mY m_Book_isSound) ∈ lw_good := ⟨lw_in 525 (by decide +kernel) (by decide +kernel), v_Book_isSound⟩
theorem k_Book_83 : Cond.methodLinkNest "CallSigns$Book" 83 (mY m_C_isName) "CallSigns" ∈ lw_nest ∧ Cond.static (mY m_C_isName) ∈ lw_good := ⟨List.mem_filter.mpr ⟨List.mem_of_getElem? (i := 529) (by decide +kernel), rfl⟩, v_C_isName⟩
theorem k_Book_86 : Cond.methodLink "CallSigns$Book" 86 (mY m_Book_isChangeDay) ∈ lw_good ∧ Cond.static (mY m_Book_isChangeDay) ∈ lw_good := ⟨lw_in 530 (by decide +kernel) (by decide +kernel), v_Book_isChangeDay⟩
theorem k_Book_89 : Cond.methodLinkNest "CallSigns$Book" 89 (mY m_C_isAmong) "CallSigns" ∈ lw_nest ∧ Cond.static (mY m_C_isAmong) ∈ lw_good := ⟨List.mem_filter.mpr ⟨List.mem_of_getElem? (i := 533) (by decide +kernel), rfl⟩, v_C_isAmong⟩
theorem k_Book_76 : Cond.methodLink "CallSigns$Book" 76 (mY m_Book_addItem) ∈ lw_good ∧ Cond.instanceMethod (mY m_Book_addItem) ∈ lw_good ∧ Cond.selects (mY m_Book_addItem).cls (mY m_Book_addItem) (mY m_Book_addItem) ∈ lw_good := ⟨lw_in 534 (by decide +kernel) (by decide +kernel), v_Book_addItem⟩
theorem k_L_34 : Cond.methodLink "CallSignsLaw" 34 (mY m_C_take) ∈ lw_good ∧ Cond.instanceMethod (mY m_C_take) ∈ lw_good ∧ Cond.selects (mY m_C_take).cls (mY m_C_take) (mY m_C_take) ∈ lw_good := ⟨lw_in 538 (by decide +kernel) (by decide +kernel), v_C_take⟩
theorem k_C_128 : Cond.methodLink "CallSigns" 128 (mY m_Book_adopt) ∈ lw_good ∧ Cond.instanceMethod (mY m_Book_adopt) ∈ lw_good ∧ Cond.selects (mY m_Book_adopt).cls (mY m_Book_adopt) (mY m_Book_adopt) ∈ lw_good := ⟨lw_in 542 (by decide +kernel) (by decide +kernel), v_Book_adopt⟩
theorem k_Book_93 : Cond.methodLink "CallSigns$Book" 93 (mY m_Book_goOn) ∈ lw_good ∧ Cond.instanceMethod (mY m_Book_goOn) ∈ lw_good ∧ Cond.selects (mY m_Book_goOn).cls (mY m_Book_goOn) (mY m_Book_goOn) ∈ lw_good := ⟨lw_in 546 (by decide +kernel) (by decide +kernel), v_Book_goOn⟩
theorem k_Book_102 : Cond.methodLink "CallSigns$Book" 102 (mY m_Book_stepAt) ∈ lw_good ∧ Cond.instanceMethod (mY m_Book_stepAt) ∈ lw_good ∧ Cond.selects (mY m_Book_stepAt).cls (mY m_Book_stepAt) (mY m_Book_stepAt) ∈ lw_good := ⟨lw_in 550 (by decide +kernel) (by decide +kernel), v_Book_stepAt⟩
theorem k_Book_96 : Cond.methodLink "CallSigns$Book" 96 (mY m_Book_changePlaces) ∈ lw_good ∧ Cond.instanceMethod (mY m_Book_changePlaces) ∈ lw_good ∧ Cond.selects (mY m_Book_changePlaces).cls (mY m_Book_changePlaces) (mY m_Book_changePlaces) ∈ lw_good := ⟨lw_in 554 (by decide +kernel) (by decide +kernel), v_Book_changePlaces⟩
theorem k_Book_105 : Cond.methodLink "CallSigns$Book" 105 (mY m_Book_swap) ∈ lw_good ∧ Cond.static (mY m_Book_swap) ∈ lw_good := ⟨lw_in 558 (by decide +kernel) (by decide +kernel), v_Book_swap⟩
theorem k_Book_99 : Cond.methodLink "CallSigns$Book" 99 (mY m_Book_tellPosts) ∈ lw_good ∧ Cond.instanceMethod (mY m_Book_tellPosts) ∈ lw_good ∧ Cond.selects (mY m_Book_tellPosts).cls (mY m_Book_tellPosts) (mY m_Book_tellPosts) ∈ lw_good := ⟨lw_in 561 (by decide +kernel) (by decide +kernel), v_Book_tellPosts⟩
theorem k_L_38 : Cond.methodLink "CallSignsLaw" 38 (mY m_C_name) ∈ lw_good ∧ Cond.instanceMethod (mY m_C_name) ∈ lw_good ∧ Cond.selects (mY m_C_name).cls (mY m_C_name) (mY m_C_name) ∈ lw_good := ⟨lw_in 565 (by decide +kernel) (by decide +kernel), v_C_name⟩
theorem k_C_131 : Cond.methodLink "CallSigns" 131 (mY m_C_isDay) ∈ lw_good ∧ Cond.static (mY m_C_isDay) ∈ lw_good := ⟨lw_in 569 (by decide +kernel) (by decide +kernel), v_C_isDay⟩
theorem k_L_43 : Cond.methodLink "CallSignsLaw" 43 (mY m_C_post) ∈ lw_good ∧ Cond.instanceMethod (mY m_C_post) ∈ lw_good ∧ Cond.selects (mY m_C_post).cls (mY m_C_post) (mY m_C_post) ∈ lw_good := ⟨lw_in 572 (by decide +kernel) (by decide +kernel), v_C_post⟩
theorem k_L_47 : Cond.methodLink "CallSignsLaw" 47 (mY m_C_apart) ∈ lw_good ∧ Cond.instanceMethod (mY m_C_apart) ∈ lw_good ∧ Cond.selects (mY m_C_apart).cls (mY m_C_apart) (mY m_C_apart) ∈ lw_good := ⟨lw_in 576 (by decide +kernel) (by decide +kernel), v_C_apart⟩
theorem k_L_52 : Cond.methodLink "CallSignsLaw" 52 (mY m_C_hand) ∈ lw_good ∧ Cond.instanceMethod (mY m_C_hand) ∈ lw_good ∧ Cond.selects (mY m_C_hand).cls (mY m_C_hand) (mY m_C_hand) ∈ lw_good := ⟨lw_in 580 (by decide +kernel) (by decide +kernel), v_C_hand⟩
theorem k_C_144 : Cond.methodLink "CallSigns" 144 (mY m_C_isCall) ∈ lw_good ∧ Cond.instanceMethod (mY m_C_isCall) ∈ lw_good ∧ Cond.selects (mY m_C_isCall).cls (mY m_C_isCall) (mY m_C_isCall) ∈ lw_good := ⟨lw_in 584 (by decide +kernel) (by decide +kernel), v_C_isCall⟩
theorem k_C_147 : Cond.methodLink "CallSigns" 147 (mY m_Hands_group) ∈ lw_good ∧ Cond.instanceMethod (mY m_Hands_group) ∈ lw_good ∧ Cond.selects (mY m_Hands_group).cls (mY m_Hands_group) (mY m_Hands_group) ∈ lw_good := ⟨lw_in 588 (by decide +kernel) (by decide +kernel), v_Hands_group⟩
theorem k_Hands_22 : Cond.methodLink "CallSigns$Hands" 22 (mY m_JA_fill) ∈ lw_good ∧ Cond.static (mY m_JA_fill) ∈ lw_good := ⟨lw_in 592 (by decide +kernel) (by decide +kernel), v_JA_fill⟩
theorem k_Hands_34 : Cond.methodLink "CallSigns$Hands" 34 (mY m_Hands_joinUpward) ∈ lw_good ∧ Cond.instanceMethod (mY m_Hands_joinUpward) ∈ lw_good ∧ Cond.selects (mY m_Hands_joinUpward).cls (mY m_Hands_joinUpward) (mY m_Hands_joinUpward) ∈ lw_good := ⟨lw_in 593 (by decide +kernel) (by decide +kernel), v_Hands_joinUpward⟩
theorem k_Hands_40 : Cond.methodLink "CallSigns$Hands" 40 (mY m_JM_min) ∈ lw_good ∧ Cond.static (mY m_JM_min) ∈ lw_good := ⟨lw_in 597 (by decide +kernel) (by decide +kernel), v_JM_min⟩
theorem k_Hands_37 : Cond.methodLink "CallSigns$Hands" 37 (mY m_Hands_spreadDownward) ∈ lw_good ∧ Cond.instanceMethod (mY m_Hands_spreadDownward) ∈ lw_good ∧ Cond.selects (mY m_Hands_spreadDownward).cls (mY m_Hands_spreadDownward) (mY m_Hands_spreadDownward) ∈ lw_good := ⟨lw_in 600 (by decide +kernel) (by decide +kernel), v_Hands_spreadDownward⟩
theorem k_C_151 : Cond.methodLink "CallSigns" 151 (mY m_Hands_handOf) ∈ lw_good ∧ Cond.instanceMethod (mY m_Hands_handOf) ∈ lw_good ∧ Cond.selects (mY m_Hands_handOf).cls (mY m_Hands_handOf) (mY m_Hands_handOf) ∈ lw_good := ⟨lw_in 604 (by decide +kernel) (by decide +kernel), v_Hands_handOf⟩
theorem k_L_56 : Cond.methodLink "CallSignsLaw" 56 (mY m_C_hands) ∈ lw_good ∧ Cond.instanceMethod (mY m_C_hands) ∈ lw_good ∧ Cond.selects (mY m_C_hands).cls (mY m_C_hands) (mY m_C_hands) ∈ lw_good := ⟨lw_in 608 (by decide +kernel) (by decide +kernel), v_C_hands⟩
theorem k_L_60 : Cond.methodLink "CallSignsLaw" 60 (mY m_C_odds) ∈ lw_good ∧ Cond.instanceMethod (mY m_C_odds) ∈ lw_good ∧ Cond.selects (mY m_C_odds).cls (mY m_C_odds) (mY m_C_odds) ∈ lw_good := ⟨lw_in 612 (by decide +kernel) (by decide +kernel), v_C_odds⟩
theorem k_C_156 : Cond.methodLink "CallSigns" 156 (mY m_CallLog_gap) ∈ lw_good ∧ Cond.instanceMethod (mY m_CallLog_gap) ∈ lw_good ∧ Cond.selects (mY m_CallLog_gap).cls (mY m_CallLog_gap) (mY m_CallLog_gap) ∈ lw_good := ⟨lw_in 616 (by decide +kernel) (by decide +kernel), v_CallLog_gap⟩
theorem k_CallLog_38 : Cond.methodLink "CallSigns$CallLog" 38 (mY m_JM_abs) ∈ lw_good ∧ Cond.static (mY m_JM_abs) ∈ lw_good := ⟨lw_in 620 (by decide +kernel) (by decide +kernel), v_JM_abs⟩
theorem k_C_160 : Cond.methodLink "CallSigns" 160 (mY m_CallLog_pairsAsClose) ∈ lw_good ∧ Cond.instanceMethod (mY m_CallLog_pairsAsClose) ∈ lw_good ∧ Cond.selects (mY m_CallLog_pairsAsClose).cls (mY m_CallLog_pairsAsClose) (mY m_CallLog_pairsAsClose) ∈ lw_good := ⟨lw_in 623 (by decide +kernel) (by decide +kernel), v_CallLog_pairsAsClose⟩
theorem k_CallLog_44 : Cond.methodLink "CallSigns$CallLog" 44 (mY m_CallLog_gap) ∈ lw_good ∧ Cond.instanceMethod (mY m_CallLog_gap) ∈ lw_good ∧ Cond.selects (mY m_CallLog_gap).cls (mY m_CallLog_gap) (mY m_CallLog_gap) ∈ lw_good := ⟨lw_in 627 (by decide +kernel) (by decide +kernel), v_CallLog_gap⟩
theorem k_L_65 : Cond.methodLink "CallSignsLaw" 65 (mY m_C_like) ∈ lw_good ∧ Cond.instanceMethod (mY m_C_like) ∈ lw_good ∧ Cond.selects (mY m_C_like).cls (mY m_C_like) (mY m_C_like) ∈ lw_good := ⟨lw_in 628 (by decide +kernel) (by decide +kernel), v_C_like⟩
theorem k_C_164 : Cond.methodLink "CallSigns" 164 (mY m_C_isMidnight) ∈ lw_good ∧ Cond.static (mY m_C_isMidnight) ∈ lw_good := ⟨lw_in 632 (by decide +kernel) (by decide +kernel), v_C_isMidnight⟩
theorem k_C_167 : Cond.methodLink "CallSigns" 167 (mY m_Pairing_hear) ∈ lw_good ∧ Cond.instanceMethod (mY m_Pairing_hear) ∈ lw_good ∧ Cond.selects (mY m_Pairing_hear).cls (mY m_Pairing_hear) (mY m_Pairing_hear) ∈ lw_good := ⟨lw_in 635 (by decide +kernel) (by decide +kernel), v_Pairing_hear⟩
theorem k_Pairing_42 : Cond.methodLink "CallSigns$Pairing" 42 (mY m_Senders_hear) ∈ lw_good ∧ Cond.instanceMethod (mY m_Senders_hear) ∈ lw_good ∧ Cond.selects (mY m_Senders_hear).cls (mY m_Senders_hear) (mY m_Senders_hear) ∈ lw_good := ⟨lw_in 639 (by decide +kernel) (by decide +kernel), v_Senders_hear⟩
theorem k_Senders_29 : Cond.methodLink "CallSigns$Senders" 29 (mY m_JA_fillJ) ∈ lw_good ∧ Cond.static (mY m_JA_fillJ) ∈ lw_good := ⟨lw_in 643 (by decide +kernel) (by decide +kernel), v_JA_fillJ⟩
theorem k_Senders_35 : Cond.methodLink "CallSigns$Senders" 35 (mY m_JA_fill) ∈ lw_good ∧ Cond.static (mY m_JA_fill) ∈ lw_good := ⟨lw_in 646 (by decide +kernel) (by decide +kernel), v_JA_fill⟩
theorem k_Senders_41 : Cond.methodLink "CallSigns$Senders" 41 (mY m_CallLog_isOn) ∈ lw_good ∧ Cond.instanceMethod (mY m_CallLog_isOn) ∈ lw_good ∧ Cond.selects (mY m_CallLog_isOn).cls (mY m_CallLog_isOn) (mY m_CallLog_isOn) ∈ lw_good := ⟨lw_in 647 (by decide +kernel) (by decide +kernel), v_CallLog_isOn⟩
theorem k_Senders_48 : Cond.methodLink "CallSigns$Senders" 48 (mY m_Hands_handOf) ∈ lw_good ∧ Cond.instanceMethod (mY m_Hands_handOf) ∈ lw_good ∧ Cond.selects (mY m_Hands_handOf).cls (mY m_Hands_handOf) (mY m_Hands_handOf) ∈ lw_good := ⟨lw_in 651 (by decide +kernel) (by decide +kernel), v_Hands_handOf⟩
theorem k_Senders_60 : Cond.methodLink "CallSigns$Senders" 60 (mY m_Senders_sends) ∈ lw_good ∧ Cond.instanceMethod (mY m_Senders_sends) ∈ lw_good ∧ Cond.selects (mY m_Senders_sends).cls (mY m_Senders_sends) (mY m_Senders_sends) ∈ lw_good := ⟨lw_in 652 (by decide +kernel) (by decide +kernel), v_Senders_sends⟩
theorem k_C_175 : Cond.methodLink "CallSigns" 175 (mY m_Senders_sends) ∈ lw_good ∧ Cond.instanceMethod (mY m_Senders_sends) ∈ lw_good ∧ Cond.selects (mY m_Senders_sends).cls (mY m_Senders_sends) (mY m_Senders_sends) ∈ lw_good := ⟨lw_in 656 (by decide +kernel) (by decide +kernel), v_Senders_sends⟩
theorem k_C_183 : Cond.methodLink "CallSigns" 183 (mY m_Senders_likeTo) ∈ lw_good ∧ Cond.instanceMethod (mY m_Senders_likeTo) ∈ lw_good ∧ Cond.selects (mY m_Senders_likeTo).cls (mY m_Senders_likeTo) (mY m_Senders_likeTo) ∈ lw_good := ⟨lw_in 657 (by decide +kernel) (by decide +kernel), v_Senders_likeTo⟩
theorem k_Senders_64 : Cond.methodLink "CallSigns$Senders" 64 (mY m_JL_bitCount) ∈ lw_good ∧ Cond.static (mY m_JL_bitCount) ∈ lw_good := ⟨lw_in 661 (by decide +kernel) (by decide +kernel), v_JL_bitCount⟩
theorem kc_JL_314 : Cond.constantLong "java/lang/Long" 314 (6148914691236517205 : Int64) ∈ lw_good := lw_in 664 (by decide +kernel) (by decide +kernel)
theorem kc_JL_316 : Cond.constantLong "java/lang/Long" 316 (3689348814741910323 : Int64) ∈ lw_good := lw_in 665 (by decide +kernel) (by decide +kernel)
theorem kc_JL_318 : Cond.constantLong "java/lang/Long" 318 (1085102592571150095 : Int64) ∈ lw_good := lw_in 666 (by decide +kernel) (by decide +kernel)
theorem k_Senders_70 : Cond.methodLink "CallSigns$Senders" 70 (mY m_JI_bitCount) ∈ lw_good ∧ Cond.static (mY m_JI_bitCount) ∈ lw_good := ⟨lw_in 667 (by decide +kernel) (by decide +kernel), v_JI_bitCount⟩
theorem kc_JI_265 : Cond.constant "java/lang/Integer" 265 (1431655765 : Int32) ∈ lw_good := lw_in 670 (by decide +kernel) (by decide +kernel)
theorem kc_JI_266 : Cond.constant "java/lang/Integer" 266 (858993459 : Int32) ∈ lw_good := lw_in 671 (by decide +kernel) (by decide +kernel)
theorem kc_JI_267 : Cond.constant "java/lang/Integer" 267 (252645135 : Int32) ∈ lw_good := lw_in 672 (by decide +kernel) (by decide +kernel)
theorem k_L_69 : Cond.methodLink "CallSignsLaw" 69 (mY m_C_follow) ∈ lw_good ∧ Cond.instanceMethod (mY m_C_follow) ∈ lw_good ∧ Cond.selects (mY m_C_follow).cls (mY m_C_follow) (mY m_C_follow) ∈ lw_good := ⟨lw_in 673 (by decide +kernel) (by decide +kernel), v_C_follow⟩
theorem k_C_187 : Cond.methodLink "CallSigns" 187 (mY m_Pairing_solve) ∈ lw_good ∧ Cond.instanceMethod (mY m_Pairing_solve) ∈ lw_good ∧ Cond.selects (mY m_Pairing_solve).cls (mY m_Pairing_solve) (mY m_Pairing_solve) ∈ lw_good := ⟨lw_in 677 (by decide +kernel) (by decide +kernel), v_Pairing_solve⟩
theorem k_Pairing_46 : Cond.methodLink "CallSigns$Pairing" 46 (mY m_Pairing_hear) ∈ lw_good ∧ Cond.instanceMethod (mY m_Pairing_hear) ∈ lw_good ∧ Cond.selects (mY m_Pairing_hear).cls (mY m_Pairing_hear) (mY m_Pairing_hear) ∈ lw_good := ⟨lw_in 681 (by decide +kernel) (by decide +kernel), v_Pairing_hear⟩
theorem k_Pairing_53 : Cond.methodLink "CallSigns$Pairing" 53 (mY m_Senders_likeTo) ∈ lw_good ∧ Cond.instanceMethod (mY m_Senders_likeTo) ∈ lw_good ∧ Cond.selects (mY m_Senders_likeTo).cls (mY m_Senders_likeTo) (mY m_Senders_likeTo) ∈ lw_good := ⟨lw_in 682 (by decide +kernel) (by decide +kernel), v_Senders_likeTo⟩
theorem k_Pairing_57 : Cond.methodLink "CallSigns$Pairing" 57 (mY m_Pairing_findBests) ∈ lw_good ∧ Cond.instanceMethod (mY m_Pairing_findBests) ∈ lw_good ∧ Cond.selects (mY m_Pairing_findBests).cls (mY m_Pairing_findBests) (mY m_Pairing_findBests) ∈ lw_good := ⟨lw_in 683 (by decide +kernel) (by decide +kernel), v_Pairing_findBests⟩
theorem k_Pairing_70 : Cond.methodLink "CallSigns$Pairing" 70 (mY m_JI_bitCount) ∈ lw_good ∧ Cond.static (mY m_JI_bitCount) ∈ lw_good := ⟨lw_in 687 (by decide +kernel) (by decide +kernel), v_JI_bitCount⟩
theorem k_Pairing_76 : Cond.methodLink "CallSigns$Pairing" 76 (mY m_Pairing_bestFrom) ∈ lw_good ∧ Cond.instanceMethod (mY m_Pairing_bestFrom) ∈ lw_good ∧ Cond.selects (mY m_Pairing_bestFrom).cls (mY m_Pairing_bestFrom) (mY m_Pairing_bestFrom) ∈ lw_good := ⟨lw_in 688 (by decide +kernel) (by decide +kernel), v_Pairing_bestFrom⟩
theorem k_Pairing_80 : Cond.methodLink "CallSigns$Pairing" 80 (mY m_Pairing_sumWith) ∈ lw_good ∧ Cond.instanceMethod (mY m_Pairing_sumWith) ∈ lw_good ∧ Cond.selects (mY m_Pairing_sumWith).cls (mY m_Pairing_sumWith) (mY m_Pairing_sumWith) ∈ lw_good := ⟨lw_in 692 (by decide +kernel) (by decide +kernel), v_Pairing_sumWith⟩
theorem k_Pairing_84 : Cond.methodLink "CallSigns$Pairing" 84 (mY m_JM_max) ∈ lw_good ∧ Cond.static (mY m_JM_max) ∈ lw_good := ⟨lw_in 696 (by decide +kernel) (by decide +kernel), v_JM_max⟩
theorem k_Pairing_60 : Cond.methodLink "CallSigns$Pairing" 60 (mY m_Pairing_choose) ∈ lw_good ∧ Cond.instanceMethod (mY m_Pairing_choose) ∈ lw_good ∧ Cond.selects (mY m_Pairing_choose).cls (mY m_Pairing_choose) (mY m_Pairing_choose) ∈ lw_good := ⟨lw_in 699 (by decide +kernel) (by decide +kernel), v_Pairing_choose⟩
theorem k_Pairing_89 : Cond.methodLink "CallSigns$Pairing" 89 (mY m_JA_fill) ∈ lw_good ∧ Cond.static (mY m_JA_fill) ∈ lw_good := ⟨lw_in 703 (by decide +kernel) (by decide +kernel), v_JA_fill⟩
theorem k_Pairing_95 : Cond.methodLink "CallSigns$Pairing" 95 (mY m_Pairing_firstChoice) ∈ lw_good ∧ Cond.instanceMethod (mY m_Pairing_firstChoice) ∈ lw_good ∧ Cond.selects (mY m_Pairing_firstChoice).cls (mY m_Pairing_firstChoice) (mY m_Pairing_firstChoice) ∈ lw_good := ⟨lw_in 704 (by decide +kernel) (by decide +kernel), v_Pairing_firstChoice⟩
theorem k_Pairing_101 : Cond.methodLink "CallSigns$Pairing" 101 (mY m_Pairing_keepsBest) ∈ lw_good ∧ Cond.instanceMethod (mY m_Pairing_keepsBest) ∈ lw_good ∧ Cond.selects (mY m_Pairing_keepsBest).cls (mY m_Pairing_keepsBest) (mY m_Pairing_keepsBest) ∈ lw_good := ⟨lw_in 708 (by decide +kernel) (by decide +kernel), v_Pairing_keepsBest⟩
theorem k_Pairing_98 : Cond.methodLink "CallSigns$Pairing" 98 (mY m_Pairing_usedWith) ∈ lw_good ∧ Cond.instanceMethod (mY m_Pairing_usedWith) ∈ lw_good ∧ Cond.selects (mY m_Pairing_usedWith).cls (mY m_Pairing_usedWith) (mY m_Pairing_usedWith) ∈ lw_good := ⟨lw_in 712 (by decide +kernel) (by decide +kernel), v_Pairing_usedWith⟩
theorem k_Pairing_63 : Cond.methodLink "CallSigns$Pairing" 63 (mY m_Pairing_findSure) ∈ lw_good ∧ Cond.instanceMethod (mY m_Pairing_findSure) ∈ lw_good ∧ Cond.selects (mY m_Pairing_findSure).cls (mY m_Pairing_findSure) (mY m_Pairing_findSure) ∈ lw_good := ⟨lw_in 716 (by decide +kernel) (by decide +kernel), v_Pairing_findSure⟩
theorem k_Pairing_105 : Cond.methodLink "CallSigns$Pairing" 105 (mY m_Pairing_clearReached) ∈ lw_good ∧ Cond.instanceMethod (mY m_Pairing_clearReached) ∈ lw_good ∧ Cond.selects (mY m_Pairing_clearReached).cls (mY m_Pairing_clearReached) (mY m_Pairing_clearReached) ∈ lw_good := ⟨lw_in 720 (by decide +kernel) (by decide +kernel), v_Pairing_clearReached⟩
theorem k_Pairing_108 : Cond.methodLink "CallSigns$Pairing" 108 (mY m_Pairing_choicesOf) ∈ lw_good ∧ Cond.instanceMethod (mY m_Pairing_choicesOf) ∈ lw_good ∧ Cond.selects (mY m_Pairing_choicesOf).cls (mY m_Pairing_choicesOf) (mY m_Pairing_choicesOf) ∈ lw_good := ⟨lw_in 724 (by decide +kernel) (by decide +kernel), v_Pairing_choicesOf⟩
theorem k_C_194 : Cond.methodLink "CallSigns" 194 (mY m_Pairing_isSure) ∈ lw_good ∧ Cond.instanceMethod (mY m_Pairing_isSure) ∈ lw_good ∧ Cond.selects (mY m_Pairing_isSure).cls (mY m_Pairing_isSure) (mY m_Pairing_isSure) ∈ lw_good := ⟨lw_in 728 (by decide +kernel) (by decide +kernel), v_Pairing_isSure⟩
theorem k_L_73 : Cond.methodLink "CallSignsLaw" 73 (mY m_C_sum) ∈ lw_good ∧ Cond.instanceMethod (mY m_C_sum) ∈ lw_good ∧ Cond.selects (mY m_C_sum).cls (mY m_C_sum) (mY m_C_sum) ∈ lw_good := ⟨lw_in 732 (by decide +kernel) (by decide +kernel), v_C_sum⟩
theorem k_C_197 : Cond.methodLink "CallSigns" 197 (mY m_Pairing_greatest) ∈ lw_good ∧ Cond.instanceMethod (mY m_Pairing_greatest) ∈ lw_good ∧ Cond.selects (mY m_Pairing_greatest).cls (mY m_Pairing_greatest) (mY m_Pairing_greatest) ∈ lw_good := ⟨lw_in 736 (by decide +kernel) (by decide +kernel), v_Pairing_greatest⟩
theorem k_L_77 : Cond.methodLink "CallSignsLaw" 77 (mY m_C_rules) ∈ lw_good ∧ Cond.instanceMethod (mY m_C_rules) ∈ lw_good ∧ Cond.selects (mY m_C_rules).cls (mY m_C_rules) (mY m_C_rules) ∈ lw_good := ⟨lw_in 740 (by decide +kernel) (by decide +kernel), v_C_rules⟩
theorem k_C_200 : Cond.methodLink "CallSigns" 200 (mY m_Pairing_rulesLeft) ∈ lw_good ∧ Cond.instanceMethod (mY m_Pairing_rulesLeft) ∈ lw_good ∧ Cond.selects (mY m_Pairing_rulesLeft).cls (mY m_Pairing_rulesLeft) (mY m_Pairing_rulesLeft) ∈ lw_good := ⟨lw_in 744 (by decide +kernel) (by decide +kernel), v_Pairing_rulesLeft⟩
theorem k_Pairing_66 : Cond.methodLink "CallSigns$Pairing" 66 (mY m_Pairing_isSure) ∈ lw_good ∧ Cond.instanceMethod (mY m_Pairing_isSure) ∈ lw_good ∧ Cond.selects (mY m_Pairing_isSure).cls (mY m_Pairing_isSure) (mY m_Pairing_isSure) ∈ lw_good := ⟨lw_in 748 (by decide +kernel) (by decide +kernel), v_Pairing_isSure⟩
theorem k_L_81 : Cond.methodLink "CallSignsLaw" 81 (mY m_C_trace) ∈ lw_good ∧ Cond.instanceMethod (mY m_C_trace) ∈ lw_good ∧ Cond.selects (mY m_C_trace).cls (mY m_C_trace) (mY m_C_trace) ∈ lw_good := ⟨lw_in 749 (by decide +kernel) (by decide +kernel), v_C_trace⟩
theorem k_C_203 : Cond.methodLink "CallSigns" 203 (mY m_Trail_walk) ∈ lw_good ∧ Cond.instanceMethod (mY m_Trail_walk) ∈ lw_good ∧ Cond.selects (mY m_Trail_walk).cls (mY m_Trail_walk) (mY m_Trail_walk) ∈ lw_good := ⟨lw_in 753 (by decide +kernel) (by decide +kernel), v_Trail_walk⟩
theorem k_Trail_15 : Cond.methodLink "CallSigns$Trail" 15 (mY m_CallLog_sendersOn) ∈ lw_good ∧ Cond.instanceMethod (mY m_CallLog_sendersOn) ∈ lw_good ∧ Cond.selects (mY m_CallLog_sendersOn).cls (mY m_CallLog_sendersOn) (mY m_CallLog_sendersOn) ∈ lw_good := ⟨lw_in 757 (by decide +kernel) (by decide +kernel), v_CallLog_sendersOn⟩
theorem k_CallLog_34 : Cond.methodLink "CallSigns$CallLog" 34 (mY m_CallLog_isOn) ∈ lw_good ∧ Cond.instanceMethod (mY m_CallLog_isOn) ∈ lw_good ∧ Cond.selects (mY m_CallLog_isOn).cls (mY m_CallLog_isOn) (mY m_CallLog_isOn) ∈ lw_good := ⟨lw_in 761 (by decide +kernel) (by decide +kernel), v_CallLog_isOn⟩
theorem k_Trail_21 : Cond.methodLink "CallSigns$Trail" 21 (mY m_Trail_isOpen) ∈ lw_good ∧ Cond.instanceMethod (mY m_Trail_isOpen) ∈ lw_good ∧ Cond.selects (mY m_Trail_isOpen).cls (mY m_Trail_isOpen) (mY m_Trail_isOpen) ∈ lw_good := ⟨lw_in 762 (by decide +kernel) (by decide +kernel), v_Trail_isOpen⟩
theorem k_Trail_25 : Cond.methodLink "CallSigns$Trail" 25 (mY m_Pairing_solve) ∈ lw_good ∧ Cond.instanceMethod (mY m_Pairing_solve) ∈ lw_good ∧ Cond.selects (mY m_Pairing_solve).cls (mY m_Pairing_solve) (mY m_Pairing_solve) ∈ lw_good := ⟨lw_in 766 (by decide +kernel) (by decide +kernel), v_Pairing_solve⟩
theorem k_Trail_31 : Cond.methodLink "CallSigns$Trail" 31 (mY m_Trail_stepBack) ∈ lw_good ∧ Cond.instanceMethod (mY m_Trail_stepBack) ∈ lw_good ∧ Cond.selects (mY m_Trail_stepBack).cls (mY m_Trail_stepBack) (mY m_Trail_stepBack) ∈ lw_good := ⟨lw_in 767 (by decide +kernel) (by decide +kernel), v_Trail_stepBack⟩
theorem k_L_85 : Cond.methodLink "CallSignsLaw" 85 (mY m_C_held) ∈ lw_good ∧ Cond.instanceMethod (mY m_C_held) ∈ lw_good ∧ Cond.selects (mY m_C_held).cls (mY m_C_held) (mY m_C_held) ∈ lw_good := ⟨lw_in 771 (by decide +kernel) (by decide +kernel), v_C_held⟩
theorem k_C_210 : Cond.methodLink "CallSigns" 210 (mY m_Trail_meetsNo) ∈ lw_good ∧ Cond.instanceMethod (mY m_Trail_meetsNo) ∈ lw_good ∧ Cond.selects (mY m_Trail_meetsNo).cls (mY m_Trail_meetsNo) (mY m_Trail_meetsNo) ∈ lw_good := ⟨lw_in 775 (by decide +kernel) (by decide +kernel), v_Trail_meetsNo⟩
theorem k_C_214 : Cond.methodLink "CallSigns" 214 (mY m_C_countHeld) ∈ lw_good ∧ Cond.instanceMethod (mY m_C_countHeld) ∈ lw_good ∧ Cond.selects (mY m_C_countHeld).cls (mY m_C_countHeld) (mY m_C_countHeld) ∈ lw_good := ⟨lw_in 779 (by decide +kernel) (by decide +kernel), v_C_countHeld⟩
theorem k_L_89 : Cond.methodLink "CallSignsLaw" 89 (mY m_C_within) ∈ lw_good ∧ Cond.instanceMethod (mY m_C_within) ∈ lw_good ∧ Cond.selects (mY m_C_within).cls (mY m_C_within) (mY m_C_within) ∈ lw_good := ⟨lw_in 783 (by decide +kernel) (by decide +kernel), v_C_within⟩
theorem k_L_93 : Cond.methodLink "CallSignsLaw" 93 (mY m_C_fate) ∈ lw_good ∧ Cond.instanceMethod (mY m_C_fate) ∈ lw_good ∧ Cond.selects (mY m_C_fate).cls (mY m_C_fate) (mY m_C_fate) ∈ lw_good := ⟨lw_in 787 (by decide +kernel) (by decide +kernel), v_C_fate⟩
theorem k_C_221 : Cond.methodLink "CallSigns" 221 (mY m_Orders_fateOf) ∈ lw_good ∧ Cond.instanceMethod (mY m_Orders_fateOf) ∈ lw_good ∧ Cond.selects (mY m_Orders_fateOf).cls (mY m_Orders_fateOf) (mY m_Orders_fateOf) ∈ lw_good := ⟨lw_in 791 (by decide +kernel) (by decide +kernel), v_Orders_fateOf⟩
theorem k_Orders_24 : Cond.methodLink "CallSigns$Orders" 24 (mY m_Orders_answers) ∈ lw_good ∧ Cond.instanceMethod (mY m_Orders_answers) ∈ lw_good ∧ Cond.selects (mY m_Orders_answers).cls (mY m_Orders_answers) (mY m_Orders_answers) ∈ lw_good := ⟨lw_in 795 (by decide +kernel) (by decide +kernel), v_Orders_answers⟩
theorem k_Orders_31 : Cond.methodLink "CallSigns$Orders" 31 (mY m_Orders_isTakenUp) ∈ lw_good ∧ Cond.instanceMethod (mY m_Orders_isTakenUp) ∈ lw_good ∧ Cond.selects (mY m_Orders_isTakenUp).cls (mY m_Orders_isTakenUp) (mY m_Orders_isTakenUp) ∈ lw_good := ⟨lw_in 799 (by decide +kernel) (by decide +kernel), v_Orders_isTakenUp⟩
theorem k_Orders_28 : Cond.methodLink "CallSigns$Orders" 28 (mY m_Orders_passesOn) ∈ lw_good ∧ Cond.instanceMethod (mY m_Orders_passesOn) ∈ lw_good ∧ Cond.selects (mY m_Orders_passesOn).cls (mY m_Orders_passesOn) (mY m_Orders_passesOn) ∈ lw_good := ⟨lw_in 803 (by decide +kernel) (by decide +kernel), v_Orders_passesOn⟩
theorem k_L_97 : Cond.methodLink "CallSignsLaw" 97 (mY m_C_sign) ∈ lw_good ∧ Cond.instanceMethod (mY m_C_sign) ∈ lw_good ∧ Cond.selects (mY m_C_sign).cls (mY m_C_sign) (mY m_C_sign) ∈ lw_good := ⟨lw_in 807 (by decide +kernel) (by decide +kernel), v_C_sign⟩
theorem k_C_224 : Cond.methodLink "CallSigns" 224 (mY m_C_isSpan) ∈ lw_good ∧ Cond.static (mY m_C_isSpan) ∈ lw_good := ⟨lw_in 811 (by decide +kernel) (by decide +kernel), v_C_isSpan⟩
theorem k_C_228 : Cond.methodLink "CallSigns" 228 (mY m_Orders_weighSigns) ∈ lw_good ∧ Cond.instanceMethod (mY m_Orders_weighSigns) ∈ lw_good ∧ Cond.selects (mY m_Orders_weighSigns).cls (mY m_Orders_weighSigns) (mY m_Orders_weighSigns) ∈ lw_good := ⟨lw_in 814 (by decide +kernel) (by decide +kernel), v_Orders_weighSigns⟩
theorem k_Orders_46 : Cond.methodLink "CallSigns$Orders" 46 (mY m_JA_fill) ∈ lw_good ∧ Cond.static (mY m_JA_fill) ∈ lw_good := ⟨lw_in 818 (by decide +kernel) (by decide +kernel), v_JA_fill⟩
theorem k_Orders_52 : Cond.methodLink "CallSigns$Orders" 52 (mY m_CallLog_isOn) ∈ lw_good ∧ Cond.instanceMethod (mY m_CallLog_isOn) ∈ lw_good ∧ Cond.selects (mY m_CallLog_isOn).cls (mY m_CallLog_isOn) (mY m_CallLog_isOn) ∈ lw_good := ⟨lw_in 819 (by decide +kernel) (by decide +kernel), v_CallLog_isOn⟩
theorem k_Orders_56 : Cond.methodLink "CallSigns$Orders" 56 (mY m_Orders_fateOf) ∈ lw_good ∧ Cond.instanceMethod (mY m_Orders_fateOf) ∈ lw_good ∧ Cond.selects (mY m_Orders_fateOf).cls (mY m_Orders_fateOf) (mY m_Orders_fateOf) ∈ lw_good := ⟨lw_in 820 (by decide +kernel) (by decide +kernel), v_Orders_fateOf⟩
theorem k_L_102 : Cond.methodLink "CallSignsLaw" 102 (mY m_C_tree) ∈ lw_good ∧ Cond.instanceMethod (mY m_C_tree) ∈ lw_good ∧ Cond.selects (mY m_C_tree).cls (mY m_C_tree) (mY m_C_tree) ∈ lw_good := ⟨lw_in 821 (by decide +kernel) (by decide +kernel), v_C_tree⟩
theorem k_C_235 : Cond.methodLink "CallSigns" 235 (mY m_CallLog_heardOn) ∈ lw_good ∧ Cond.instanceMethod (mY m_CallLog_heardOn) ∈ lw_good ∧ Cond.selects (mY m_CallLog_heardOn).cls (mY m_CallLog_heardOn) (mY m_CallLog_heardOn) ∈ lw_good := ⟨lw_in 825 (by decide +kernel) (by decide +kernel), v_CallLog_heardOn⟩
theorem k_C_238 : Cond.methodLink "CallSigns" 238 (mY m_JI_bitCount) ∈ lw_good ∧ Cond.static (mY m_JI_bitCount) ∈ lw_good := ⟨lw_in 829 (by decide +kernel) (by decide +kernel), v_JI_bitCount⟩
theorem k_C_243 : Cond.methodLink "CallSigns" 243 (mY m_Tree_solve) ∈ lw_good ∧ Cond.instanceMethod (mY m_Tree_solve) ∈ lw_good ∧ Cond.selects (mY m_Tree_solve).cls (mY m_Tree_solve) (mY m_Tree_solve) ∈ lw_good := ⟨lw_in 830 (by decide +kernel) (by decide +kernel), v_Tree_solve⟩
theorem k_Tree_37 : Cond.methodLink "CallSigns$Tree" 37 (mY m_Tree_gather) ∈ lw_good ∧ Cond.instanceMethod (mY m_Tree_gather) ∈ lw_good ∧ Cond.selects (mY m_Tree_gather).cls (mY m_Tree_gather) (mY m_Tree_gather) ∈ lw_good := ⟨lw_in 834 (by decide +kernel) (by decide +kernel), v_Tree_gather⟩
theorem k_Tree_41 : Cond.methodLink "CallSigns$Tree" 41 (mY m_Tree_setHope) ∈ lw_good ∧ Cond.instanceMethod (mY m_Tree_setHope) ∈ lw_good ∧ Cond.selects (mY m_Tree_setHope).cls (mY m_Tree_setHope) (mY m_Tree_setHope) ∈ lw_good := ⟨lw_in 838 (by decide +kernel) (by decide +kernel), v_Tree_setHope⟩
theorem k_Tree_54 : Cond.methodLink "CallSigns$Tree" 54 (mY m_JM_max) ∈ lw_good ∧ Cond.static (mY m_JM_max) ∈ lw_good := ⟨lw_in 842 (by decide +kernel) (by decide +kernel), v_JM_max⟩
theorem k_Tree_44 : Cond.methodLink "CallSigns$Tree" 44 (mY m_JA_fill) ∈ lw_good ∧ Cond.static (mY m_JA_fill) ∈ lw_good := ⟨lw_in 843 (by decide +kernel) (by decide +kernel), v_JA_fill⟩
theorem k_Tree_50 : Cond.methodLink "CallSigns$Tree" 50 (mY m_Tree_grow) ∈ lw_good ∧ Cond.instanceMethod (mY m_Tree_grow) ∈ lw_good ∧ Cond.selects (mY m_Tree_grow).cls (mY m_Tree_grow) (mY m_Tree_grow) ∈ lw_good := ⟨lw_in 844 (by decide +kernel) (by decide +kernel), v_Tree_grow⟩
theorem k_Tree_60 : Cond.methodLink "CallSigns$Tree" 60 (mY m_Tree_isVain) ∈ lw_good ∧ Cond.instanceMethod (mY m_Tree_isVain) ∈ lw_good ∧ Cond.selects (mY m_Tree_isVain).cls (mY m_Tree_isVain) (mY m_Tree_isVain) ∈ lw_good := ⟨lw_in 848 (by decide +kernel) (by decide +kernel), v_Tree_isVain⟩
theorem k_Tree_64 : Cond.methodLink "CallSigns$Tree" 64 (mY m_Tree_weigh) ∈ lw_good ∧ Cond.instanceMethod (mY m_Tree_weigh) ∈ lw_good ∧ Cond.selects (mY m_Tree_weigh).cls (mY m_Tree_weigh) (mY m_Tree_weigh) ∈ lw_good := ⟨lw_in 852 (by decide +kernel) (by decide +kernel), v_Tree_weigh⟩
theorem k_Tree_67 : Cond.methodLink "CallSigns$Tree" 67 (mY m_Tree_isUnder) ∈ lw_good ∧ Cond.instanceMethod (mY m_Tree_isUnder) ∈ lw_good ∧ Cond.selects (mY m_Tree_isUnder).cls (mY m_Tree_isUnder) (mY m_Tree_isUnder) ∈ lw_good := ⟨lw_in 856 (by decide +kernel) (by decide +kernel), v_Tree_isUnder⟩
theorem k_C_249 : Cond.methodLink "CallSigns" 249 (mY m_Tree_nameAbove) ∈ lw_good ∧ Cond.instanceMethod (mY m_Tree_nameAbove) ∈ lw_good ∧ Cond.selects (mY m_Tree_nameAbove).cls (mY m_Tree_nameAbove) (mY m_Tree_nameAbove) ∈ lw_good := ⟨lw_in 860 (by decide +kernel) (by decide +kernel), v_Tree_nameAbove⟩
theorem k_Tree_71 : Cond.methodLink "CallSigns$Tree" 71 (mY m_Tree_memberOf) ∈ lw_good ∧ Cond.instanceMethod (mY m_Tree_memberOf) ∈ lw_good ∧ Cond.selects (mY m_Tree_memberOf).cls (mY m_Tree_memberOf) (mY m_Tree_memberOf) ∈ lw_good := ⟨lw_in 864 (by decide +kernel) (by decide +kernel), v_Tree_memberOf⟩
theorem k_C_252 : Cond.methodLink "CallSigns" 252 (mY m_Tree_sureness) ∈ lw_good ∧ Cond.instanceMethod (mY m_Tree_sureness) ∈ lw_good ∧ Cond.selects (mY m_Tree_sureness).cls (mY m_Tree_sureness) (mY m_Tree_sureness) ∈ lw_good := ⟨lw_in 868 (by decide +kernel) (by decide +kernel), v_Tree_sureness⟩
theorem k_L_106 : Cond.methodLink "CallSignsLaw" 106 (mY m_C_lacks) ∈ lw_good ∧ Cond.instanceMethod (mY m_C_lacks) ∈ lw_good ∧ Cond.selects (mY m_C_lacks).cls (mY m_C_lacks) (mY m_C_lacks) ∈ lw_good := ⟨lw_in 872 (by decide +kernel) (by decide +kernel), v_C_lacks⟩
theorem k_C_255 : Cond.methodLink "CallSigns" 255 (mY m_Orders_lacksOf) ∈ lw_good ∧ Cond.instanceMethod (mY m_Orders_lacksOf) ∈ lw_good ∧ Cond.selects (mY m_Orders_lacksOf).cls (mY m_Orders_lacksOf) (mY m_Orders_lacksOf) ∈ lw_good := ⟨lw_in 876 (by decide +kernel) (by decide +kernel), v_Orders_lacksOf⟩
theorem k_Orders_60 : Cond.methodLink "CallSigns$Orders" 60 (mY m_CallLog_isFromOn) ∈ lw_good ∧ Cond.instanceMethod (mY m_CallLog_isFromOn) ∈ lw_good ∧ Cond.selects (mY m_CallLog_isFromOn).cls (mY m_CallLog_isFromOn) (mY m_CallLog_isFromOn) ∈ lw_good := ⟨lw_in 880 (by decide +kernel) (by decide +kernel), v_CallLog_isFromOn⟩
theorem k_Orders_64 : Cond.methodLink "CallSigns$Orders" 64 (mY m_Orders_answersAny) ∈ lw_good ∧ Cond.instanceMethod (mY m_Orders_answersAny) ∈ lw_good ∧ Cond.selects (mY m_Orders_answersAny).cls (mY m_Orders_answersAny) (mY m_Orders_answersAny) ∈ lw_good := ⟨lw_in 884 (by decide +kernel) (by decide +kernel), v_Orders_answersAny⟩
theorem k_Orders_68 : Cond.methodLink "CallSigns$Orders" 68 (mY m_Hands_handOf) ∈ lw_good ∧ Cond.instanceMethod (mY m_Hands_handOf) ∈ lw_good ∧ Cond.selects (mY m_Hands_handOf).cls (mY m_Hands_handOf) (mY m_Hands_handOf) ∈ lw_good := ⟨lw_in 888 (by decide +kernel) (by decide +kernel), v_Hands_handOf⟩
theorem k_Orders_73 : Cond.methodLink "CallSigns$Orders" 73 (mY m_Orders_isShared) ∈ lw_good ∧ Cond.instanceMethod (mY m_Orders_isShared) ∈ lw_good ∧ Cond.selects (mY m_Orders_isShared).cls (mY m_Orders_isShared) (mY m_Orders_isShared) ∈ lw_good := ⟨lw_in 889 (by decide +kernel) (by decide +kernel), v_Orders_isShared⟩
theorem k_L_110 : Cond.methodLink "CallSignsLaw" 110 (mY m_C_show) ∈ lw_good ∧ Cond.instanceMethod (mY m_C_show) ∈ lw_good ∧ Cond.selects (mY m_C_show).cls (mY m_C_show) (mY m_C_show) ∈ lw_good := ⟨lw_in 893 (by decide +kernel) (by decide +kernel), v_C_show⟩
theorem k_L_114 : Cond.methodLink "CallSignsLaw" 114 (mY m_C_hearer) ∈ lw_good ∧ Cond.instanceMethod (mY m_C_hearer) ∈ lw_good ∧ Cond.selects (mY m_C_hearer).cls (mY m_C_hearer) (mY m_C_hearer) ∈ lw_good := ⟨lw_in 897 (by decide +kernel) (by decide +kernel), v_C_hearer⟩
theorem k_C_259 : Cond.methodLink "CallSigns" 259 (mY m_C_isHearer) ∈ lw_good ∧ Cond.static (mY m_C_isHearer) ∈ lw_good := ⟨lw_in 901 (by decide +kernel) (by decide +kernel), v_C_isHearer⟩
theorem k_C_262 : Cond.methodLink "CallSigns" 262 (mY m_C_isCell) ∈ lw_good ∧ Cond.static (mY m_C_isCell) ∈ lw_good := ⟨lw_in 904 (by decide +kernel) (by decide +kernel), v_C_isCell⟩
theorem k_C_265 : Cond.methodLink "CallSigns" 265 (mY m_Places_settle) ∈ lw_good ∧ Cond.instanceMethod (mY m_Places_settle) ∈ lw_good ∧ Cond.selects (mY m_Places_settle).cls (mY m_Places_settle) (mY m_Places_settle) ∈ lw_good := ⟨lw_in 907 (by decide +kernel) (by decide +kernel), v_Places_settle⟩
theorem k_L_118 : Cond.methodLink "CallSignsLaw" 118 (mY m_C_bearing) ∈ lw_good ∧ Cond.instanceMethod (mY m_C_bearing) ∈ lw_good ∧ Cond.selects (mY m_C_bearing).cls (mY m_C_bearing) (mY m_C_bearing) ∈ lw_good := ⟨lw_in 911 (by decide +kernel) (by decide +kernel), v_C_bearing⟩
theorem k_C_269 : Cond.methodLink "CallSigns" 269 (mY m_C_isDirection) ∈ lw_good ∧ Cond.static (mY m_C_isDirection) ∈ lw_good := ⟨lw_in 915 (by decide +kernel) (by decide +kernel), v_C_isDirection⟩
theorem k_C_273 : Cond.methodLink "CallSigns" 273 (mY m_Places_add) ∈ lw_good ∧ Cond.instanceMethod (mY m_Places_add) ∈ lw_good ∧ Cond.selects (mY m_Places_add).cls (mY m_Places_add) (mY m_Places_add) ∈ lw_good := ⟨lw_in 918 (by decide +kernel) (by decide +kernel), v_Places_add⟩
theorem k_L_122 : Cond.methodLink "CallSignsLaw" 122 (mY m_C_patch) ∈ lw_good ∧ Cond.instanceMethod (mY m_C_patch) ∈ lw_good ∧ Cond.selects (mY m_C_patch).cls (mY m_C_patch) (mY m_C_patch) ∈ lw_good := ⟨lw_in 922 (by decide +kernel) (by decide +kernel), v_C_patch⟩
theorem k_C_277 : Cond.methodLink "CallSigns" 277 (mY m_Places_fit) ∈ lw_good ∧ Cond.instanceMethod (mY m_Places_fit) ∈ lw_good ∧ Cond.selects (mY m_Places_fit).cls (mY m_Places_fit) (mY m_Places_fit) ∈ lw_good := ⟨lw_in 926 (by decide +kernel) (by decide +kernel), v_Places_fit⟩
theorem k_Places_56 : Cond.methodLink "CallSigns$Places" 56 (mY m_Places_fitsAll) ∈ lw_good ∧ Cond.instanceMethod (mY m_Places_fitsAll) ∈ lw_good ∧ Cond.selects (mY m_Places_fitsAll).cls (mY m_Places_fitsAll) (mY m_Places_fitsAll) ∈ lw_good := ⟨lw_in 930 (by decide +kernel) (by decide +kernel), v_Places_fitsAll⟩
theorem k_Places_52 : Cond.methodLink "CallSigns$Places" 52 (mY m_Places_fits) ∈ lw_good ∧ Cond.instanceMethod (mY m_Places_fits) ∈ lw_good ∧ Cond.selects (mY m_Places_fits).cls (mY m_Places_fits) (mY m_Places_fits) ∈ lw_good := ⟨lw_in 934 (by decide +kernel) (by decide +kernel), v_Places_fits⟩
theorem k_Places_46 : Cond.methodLink "CallSigns$Places" 46 (mY m_JM_abs) ∈ lw_good ∧ Cond.static (mY m_JM_abs) ∈ lw_good := ⟨lw_in 938 (by decide +kernel) (by decide +kernel), v_JM_abs⟩
theorem k_C_281 : Cond.methodLink "CallSigns" 281 (mY m_Places_sizeOf) ∈ lw_good ∧ Cond.static (mY m_Places_sizeOf) ∈ lw_good := ⟨lw_in 939 (by decide +kernel) (by decide +kernel), v_Places_sizeOf⟩
theorem k_Places_60 : Cond.methodLink "CallSigns$Places" 60 (mY m_JI_bitCount) ∈ lw_good ∧ Cond.static (mY m_JI_bitCount) ∈ lw_good := ⟨lw_in 942 (by decide +kernel) (by decide +kernel), v_JI_bitCount⟩
theorem k_C_285 : Cond.methodLink "CallSigns" 285 (mY m_Places_middleOf) ∈ lw_good ∧ Cond.static (mY m_Places_middleOf) ∈ lw_good := ⟨lw_in 943 (by decide +kernel) (by decide +kernel), v_Places_middleOf⟩
theorem k_Places_65 : Cond.methodLink "CallSigns$Places" 65 (mY m_Places_sizeOf) ∈ lw_good ∧ Cond.static (mY m_Places_sizeOf) ∈ lw_good := ⟨lw_in 946 (by decide +kernel) (by decide +kernel), v_Places_sizeOf⟩
theorem k_L_126 : Cond.methodLink "CallSignsLaw" 126 (mY m_C_isIn) ∈ lw_good ∧ Cond.instanceMethod (mY m_C_isIn) ∈ lw_good ∧ Cond.selects (mY m_C_isIn).cls (mY m_C_isIn) (mY m_C_isIn) ∈ lw_good := ⟨lw_in 947 (by decide +kernel) (by decide +kernel), v_C_isIn⟩
theorem k_C_288 : Cond.methodLink "CallSigns" 288 (mY m_Places_fitsAll) ∈ lw_good ∧ Cond.instanceMethod (mY m_Places_fitsAll) ∈ lw_good ∧ Cond.selects (mY m_Places_fitsAll).cls (mY m_Places_fitsAll) (mY m_Places_fitsAll) ∈ lw_good := ⟨lw_in 951 (by decide +kernel) (by decide +kernel), v_Places_fitsAll⟩
theorem k_L_130 : Cond.methodLink "CallSignsLaw" 130 (mY m_C_moved) ∈ lw_good ∧ Cond.instanceMethod (mY m_C_moved) ∈ lw_good ∧ Cond.selects (mY m_C_moved).cls (mY m_C_moved) (mY m_C_moved) ∈ lw_good := ⟨lw_in 952 (by decide +kernel) (by decide +kernel), v_C_moved⟩
theorem k_C_292 : Cond.methodLink "CallSigns" 292 (mY m_Places_leastWay) ∈ lw_good ∧ Cond.instanceMethod (mY m_Places_leastWay) ∈ lw_good ∧ Cond.selects (mY m_Places_leastWay).cls (mY m_Places_leastWay) (mY m_Places_leastWay) ∈ lw_good := ⟨lw_in 956 (by decide +kernel) (by decide +kernel), v_Places_leastWay⟩
theorem k_Places_69 : Cond.methodLink "CallSigns$Places" 69 (mY m_Places_fit) ∈ lw_good ∧ Cond.instanceMethod (mY m_Places_fit) ∈ lw_good ∧ Cond.selects (mY m_Places_fit).cls (mY m_Places_fit) (mY m_Places_fit) ∈ lw_good := ⟨lw_in 960 (by decide +kernel) (by decide +kernel), v_Places_fit⟩
theorem k_Places_73 : Cond.methodLink "CallSigns$Places" 73 (mY m_Places_doMeet) ∈ lw_good ∧ Cond.static (mY m_Places_doMeet) ∈ lw_good := ⟨lw_in 961 (by decide +kernel) (by decide +kernel), v_Places_doMeet⟩
theorem k_Places_77 : Cond.methodLink "CallSigns$Places" 77 (mY m_Places_widen) ∈ lw_good ∧ Cond.static (mY m_Places_widen) ∈ lw_good := ⟨lw_in 964 (by decide +kernel) (by decide +kernel), v_Places_widen⟩
theorem kc_Places_81 : Cond.constant "CallSigns$Places" 81 (65535 : Int32) ∈ lw_good := lw_in 967 (by decide +kernel) (by decide +kernel)
theorem k_L_134 : Cond.methodLink "CallSignsLaw" 134 (mY m_C_listen) ∈ lw_good ∧ Cond.instanceMethod (mY m_C_listen) ∈ lw_good ∧ Cond.selects (mY m_C_listen).cls (mY m_C_listen) (mY m_C_listen) ∈ lw_good := ⟨lw_in 968 (by decide +kernel) (by decide +kernel), v_C_listen⟩
theorem k_C_298 : Cond.methodLink "CallSigns" 298 (mY m_Silence_addListened) ∈ lw_good ∧ Cond.instanceMethod (mY m_Silence_addListened) ∈ lw_good ∧ Cond.selects (mY m_Silence_addListened).cls (mY m_Silence_addListened) (mY m_Silence_addListened) ∈ lw_good := ⟨lw_in 972 (by decide +kernel) (by decide +kernel), v_Silence_addListened⟩
theorem k_L_138 : Cond.methodLink "CallSignsLaw" 138 (mY m_C_silent) ∈ lw_good ∧ Cond.instanceMethod (mY m_C_silent) ∈ lw_good ∧ Cond.selects (mY m_C_silent).cls (mY m_C_silent) (mY m_C_silent) ∈ lw_good := ⟨lw_in 976 (by decide +kernel) (by decide +kernel), v_C_silent⟩
theorem k_C_301 : Cond.methodLink "CallSigns" 301 (mY m_C_isSilence) ∈ lw_good ∧ Cond.static (mY m_C_isSilence) ∈ lw_good := ⟨lw_in 980 (by decide +kernel) (by decide +kernel), v_C_isSilence⟩
theorem k_C_304 : Cond.methodLink "CallSigns" 304 (mY m_Silence_measure) ∈ lw_good ∧ Cond.instanceMethod (mY m_Silence_measure) ∈ lw_good ∧ Cond.selects (mY m_Silence_measure).cls (mY m_Silence_measure) (mY m_Silence_measure) ∈ lw_good := ⟨lw_in 983 (by decide +kernel) (by decide +kernel), v_Silence_measure⟩
theorem k_Silence_48 : Cond.methodLink "CallSigns$Silence" 48 (mY m_Silence_gatherHeard) ∈ lw_good ∧ Cond.instanceMethod (mY m_Silence_gatherHeard) ∈ lw_good ∧ Cond.selects (mY m_Silence_gatherHeard).cls (mY m_Silence_gatherHeard) (mY m_Silence_gatherHeard) ∈ lw_good := ⟨lw_in 987 (by decide +kernel) (by decide +kernel), v_Silence_gatherHeard⟩
theorem k_Silence_54 : Cond.methodLink "CallSigns$Silence" 54 (mY m_JA_fill) ∈ lw_good ∧ Cond.static (mY m_JA_fill) ∈ lw_good := ⟨lw_in 991 (by decide +kernel) (by decide +kernel), v_JA_fill⟩
theorem k_C_308 : Cond.methodLink "CallSigns" 308 (mY m_Silence_isSilent) ∈ lw_good ∧ Cond.instanceMethod (mY m_Silence_isSilent) ∈ lw_good ∧ Cond.selects (mY m_Silence_isSilent).cls (mY m_Silence_isSilent) (mY m_Silence_isSilent) ∈ lw_good := ⟨lw_in 992 (by decide +kernel) (by decide +kernel), v_Silence_isSilent⟩
theorem k_L_142 : Cond.methodLink "CallSignsLaw" 142 (mY m_C_event) ∈ lw_good ∧ Cond.instanceMethod (mY m_C_event) ∈ lw_good ∧ Cond.selects (mY m_C_event).cls (mY m_C_event) (mY m_C_event) ∈ lw_good := ⟨lw_in 996 (by decide +kernel) (by decide +kernel), v_C_event⟩
theorem k_C_314 : Cond.methodLink "CallSigns" 314 (mY m_Silence_addEvent) ∈ lw_good ∧ Cond.instanceMethod (mY m_Silence_addEvent) ∈ lw_good ∧ Cond.selects (mY m_Silence_addEvent).cls (mY m_Silence_addEvent) (mY m_Silence_addEvent) ∈ lw_good := ⟨lw_in 1000 (by decide +kernel) (by decide +kernel), v_Silence_addEvent⟩
theorem k_L_146 : Cond.methodLink "CallSignsLaw" 146 (mY m_C_ahead) ∈ lw_good ∧ Cond.instanceMethod (mY m_C_ahead) ∈ lw_good ∧ Cond.selects (mY m_C_ahead).cls (mY m_C_ahead) (mY m_C_ahead) ∈ lw_good := ⟨lw_in 1004 (by decide +kernel) (by decide +kernel), v_C_ahead⟩
theorem k_C_317 : Cond.methodLink "CallSigns" 317 (mY m_Silence_silentEvents) ∈ lw_good ∧ Cond.instanceMethod (mY m_Silence_silentEvents) ∈ lw_good ∧ Cond.selects (mY m_Silence_silentEvents).cls (mY m_Silence_silentEvents) (mY m_Silence_silentEvents) ∈ lw_good := ⟨lw_in 1008 (by decide +kernel) (by decide +kernel), v_Silence_silentEvents⟩
theorem k_Silence_60 : Cond.methodLink "CallSigns$Silence" 60 (mY m_Silence_isSilent) ∈ lw_good ∧ Cond.instanceMethod (mY m_Silence_isSilent) ∈ lw_good ∧ Cond.selects (mY m_Silence_isSilent).cls (mY m_Silence_isSilent) (mY m_Silence_isSilent) ∈ lw_good := ⟨lw_in 1012 (by decide +kernel) (by decide +kernel), v_Silence_isSilent⟩
theorem k_C_320 : Cond.methodLink "CallSigns" 320 (mY m_Silence_eventsFrom) ∈ lw_good ∧ Cond.instanceMethod (mY m_Silence_eventsFrom) ∈ lw_good ∧ Cond.selects (mY m_Silence_eventsFrom).cls (mY m_Silence_eventsFrom) (mY m_Silence_eventsFrom) ∈ lw_good := ⟨lw_in 1013 (by decide +kernel) (by decide +kernel), v_Silence_eventsFrom⟩
theorem k_C_323 : Cond.methodLink "CallSigns" 323 (mY m_Silence_silentHours) ∈ lw_good ∧ Cond.instanceMethod (mY m_Silence_silentHours) ∈ lw_good ∧ Cond.selects (mY m_Silence_silentHours).cls (mY m_Silence_silentHours) (mY m_Silence_silentHours) ∈ lw_good := ⟨lw_in 1017 (by decide +kernel) (by decide +kernel), v_Silence_silentHours⟩
theorem k_L_150 : Cond.methodLink "CallSignsLaw" 150 (mY m_C_waves) ∈ lw_good ∧ Cond.instanceMethod (mY m_C_waves) ∈ lw_good ∧ Cond.selects (mY m_C_waves).cls (mY m_C_waves) (mY m_C_waves) ∈ lw_good := ⟨lw_in 1021 (by decide +kernel) (by decide +kernel), v_C_waves⟩
theorem k_C_326 : Cond.methodLink "CallSigns" 326 (mY m_Links_gather) ∈ lw_good ∧ Cond.instanceMethod (mY m_Links_gather) ∈ lw_good ∧ Cond.selects (mY m_Links_gather).cls (mY m_Links_gather) (mY m_Links_gather) ∈ lw_good := ⟨lw_in 1025 (by decide +kernel) (by decide +kernel), v_Links_gather⟩
theorem k_Links_19 : Cond.methodLink "CallSigns$Links" 19 (mY m_JA_fill) ∈ lw_good ∧ Cond.static (mY m_JA_fill) ∈ lw_good := ⟨lw_in 1029 (by decide +kernel) (by decide +kernel), v_JA_fill⟩
theorem k_Links_28 : Cond.methodLink "CallSigns$Links" 28 (mY m_CallLog_isOn) ∈ lw_good ∧ Cond.instanceMethod (mY m_CallLog_isOn) ∈ lw_good ∧ Cond.selects (mY m_CallLog_isOn).cls (mY m_CallLog_isOn) (mY m_CallLog_isOn) ∈ lw_good := ⟨lw_in 1030 (by decide +kernel) (by decide +kernel), v_CallLog_isOn⟩
theorem k_C_330 : Cond.methodLink "CallSigns" 330 (mY m_Links_bestWaves) ∈ lw_good ∧ Cond.instanceMethod (mY m_Links_bestWaves) ∈ lw_good ∧ Cond.selects (mY m_Links_bestWaves).cls (mY m_Links_bestWaves) (mY m_Links_bestWaves) ∈ lw_good := ⟨lw_in 1031 (by decide +kernel) (by decide +kernel), v_Links_bestWaves⟩
theorem k_Links_41 : Cond.methodLink "CallSigns$Links" 41 (mY m_JI_bitCount) ∈ lw_good ∧ Cond.static (mY m_JI_bitCount) ∈ lw_good := ⟨lw_in 1035 (by decide +kernel) (by decide +kernel), v_JI_bitCount⟩
theorem k_Links_47 : Cond.methodLink "CallSigns$Links" 47 (mY m_Links_reachedBy) ∈ lw_good ∧ Cond.instanceMethod (mY m_Links_reachedBy) ∈ lw_good ∧ Cond.selects (mY m_Links_reachedBy).cls (mY m_Links_reachedBy) (mY m_Links_reachedBy) ∈ lw_good := ⟨lw_in 1036 (by decide +kernel) (by decide +kernel), v_Links_reachedBy⟩
theorem k_C_333 : Cond.methodLink "CallSigns" 333 (mY m_Links_reachedBy) ∈ lw_good ∧ Cond.instanceMethod (mY m_Links_reachedBy) ∈ lw_good ∧ Cond.selects (mY m_Links_reachedBy).cls (mY m_Links_reachedBy) (mY m_Links_reachedBy) ∈ lw_good := ⟨lw_in 1040 (by decide +kernel) (by decide +kernel), v_Links_reachedBy⟩
theorem k_L_154 : Cond.methodLink "CallSignsLaw" 154 (mY m_C_keep) ∈ lw_good ∧ Cond.instanceMethod (mY m_C_keep) ∈ lw_good ∧ Cond.selects (mY m_C_keep).cls (mY m_C_keep) (mY m_C_keep) ∈ lw_good := ⟨lw_in 1041 (by decide +kernel) (by decide +kernel), v_C_keep⟩
theorem k_L_158 : Cond.methodLink "CallSignsLaw" 158 (mY m_C_back) ∈ lw_good ∧ Cond.instanceMethod (mY m_C_back) ∈ lw_good ∧ Cond.selects (mY m_C_back).cls (mY m_C_back) (mY m_C_back) ∈ lw_good := ⟨lw_in 1045 (by decide +kernel) (by decide +kernel), v_C_back⟩
theorem k_L_162 : Cond.methodLink "CallSignsLaw" 162 (mY m_C_count) ∈ lw_good ∧ Cond.instanceMethod (mY m_C_count) ∈ lw_good ∧ Cond.selects (mY m_C_count).cls (mY m_C_count) (mY m_C_count) ∈ lw_good := ⟨lw_in 1049 (by decide +kernel) (by decide +kernel), v_C_count⟩
theorem kl_L_10 : Cond.classLink "CallSignsLaw" 10 "CallSignsModel" ∈ lw_good := lw_in 1053 (by decide +kernel) (by decide +kernel)
theorem ki_M : Cond.instantiable "CallSignsModel" 46 ∈ lw_good ∧ Cond.initialized "CallSignsModel" ∈ lw_good := ⟨lw_in 1054 (by decide +kernel) (by decide +kernel), lw_in 81 (by decide +kernel) (by decide +kernel)⟩
theorem k_L_12 : Cond.methodLink "CallSignsLaw" 12 (mY m_M_init) ∈ lw_good ∧ Cond.instanceMethod (mY m_M_init) ∈ lw_good := ⟨lw_in 1055 (by decide +kernel) (by decide +kernel), v_M_init⟩
theorem k_M_1 : Cond.methodLink "CallSignsModel" 1 objectInit ∈ lw_good ∧ Cond.instanceMethod objectInit ∈ lw_good ∧ Cond.code objectInit ⟨#[0xb1]⟩ 1 none ∈ lw_good := ⟨lw_in 1058 (by decide +kernel) (by decide +kernel), v_objI⟩
theorem f_M_7 : FlOk "CallSignsModel" 7 12 0 := ⟨_, rfl, by decide, lw_in 1059 (by decide +kernel) (by decide +kernel)⟩
theorem f_M_13 : FlOk "CallSignsModel" 13 12 1 := ⟨_, rfl, by decide, lw_in 1060 (by decide +kernel) (by decide +kernel)⟩
theorem f_M_16 : FlOk "CallSignsModel" 16 12 2 := ⟨_, rfl, by decide, lw_in 1061 (by decide +kernel) (by decide +kernel)⟩
theorem f_M_19 : FlOk "CallSignsModel" 19 12 3 := ⟨_, rfl, by decide, lw_in 1062 (by decide +kernel) (by decide +kernel)⟩
theorem f_M_22 : FlOk "CallSignsModel" 22 12 4 := ⟨_, rfl, by decide, lw_in 1063 (by decide +kernel) (by decide +kernel)⟩
theorem f_M_25 : FlOk "CallSignsModel" 25 12 5 := ⟨_, rfl, by decide, lw_in 1064 (by decide +kernel) (by decide +kernel)⟩
theorem f_M_28 : FlOk "CallSignsModel" 28 12 6 := ⟨_, rfl, by decide, lw_in 1065 (by decide +kernel) (by decide +kernel)⟩
theorem f_M_31 : FlOk "CallSignsModel" 31 12 7 := ⟨_, rfl, by decide, lw_in 1066 (by decide +kernel) (by decide +kernel)⟩
theorem f_M_34 : FlOk "CallSignsModel" 34 12 8 := ⟨_, rfl, by decide, lw_in 1067 (by decide +kernel) (by decide +kernel)⟩
theorem f_M_37 : FlOk "CallSignsModel" 37 12 9 := ⟨_, rfl, by decide, lw_in 1068 (by decide +kernel) (by decide +kernel)⟩
theorem f_M_40 : FlOk "CallSignsModel" 40 12 10 := ⟨_, rfl, by decide, lw_in 1069 (by decide +kernel) (by decide +kernel)⟩
theorem f_M_43 : FlOk "CallSignsModel" 43 12 11 := ⟨_, rfl, by decide, lw_in 1070 (by decide +kernel) (by decide +kernel)⟩
theorem f_M_46 : FlOk "CallSignsModel" 46 12 12 := ⟨_, rfl, by decide, lw_in 1071 (by decide +kernel) (by decide +kernel)⟩
theorem f_M_304 : FlOk "CallSignsModel" 304 12 13 := ⟨_, rfl, by decide, lw_in 1072 (by decide +kernel) (by decide +kernel)⟩
theorem f_M_49 : FlOk "CallSignsModel" 49 12 14 := ⟨_, rfl, by decide, lw_in 1073 (by decide +kernel) (by decide +kernel)⟩
theorem f_M_53 : FlOk "CallSignsModel" 53 12 15 := ⟨_, rfl, by decide, lw_in 1074 (by decide +kernel) (by decide +kernel)⟩
theorem f_M_56 : FlOk "CallSignsModel" 56 12 16 := ⟨_, rfl, by decide, lw_in 1075 (by decide +kernel) (by decide +kernel)⟩
theorem f_M_59 : FlOk "CallSignsModel" 59 12 17 := ⟨_, rfl, by decide, lw_in 1076 (by decide +kernel) (by decide +kernel)⟩
theorem f_M_154 : FlOk "CallSignsModel" 154 12 18 := ⟨_, rfl, by decide, lw_in 1077 (by decide +kernel) (by decide +kernel)⟩
theorem f_M_62 : FlOk "CallSignsModel" 62 12 19 := ⟨_, rfl, by decide, lw_in 1078 (by decide +kernel) (by decide +kernel)⟩
theorem f_M_183 : FlOk "CallSignsModel" 183 12 20 := ⟨_, rfl, by decide, lw_in 1079 (by decide +kernel) (by decide +kernel)⟩
theorem f_M_66 : FlOk "CallSignsModel" 66 12 21 := ⟨_, rfl, by decide, lw_in 1080 (by decide +kernel) (by decide +kernel)⟩
theorem f_M_173 : FlOk "CallSignsModel" 173 12 22 := ⟨_, rfl, by decide, lw_in 1081 (by decide +kernel) (by decide +kernel)⟩
theorem f_M_157 : FlOk "CallSignsModel" 157 12 23 := ⟨_, rfl, by decide, lw_in 1082 (by decide +kernel) (by decide +kernel)⟩
theorem f_M_69 : FlOk "CallSignsModel" 69 12 24 := ⟨_, rfl, by decide, lw_in 1083 (by decide +kernel) (by decide +kernel)⟩
theorem f_M_72 : FlOk "CallSignsModel" 72 12 25 := ⟨_, rfl, by decide, lw_in 1084 (by decide +kernel) (by decide +kernel)⟩
theorem f_M_75 : FlOk "CallSignsModel" 75 12 26 := ⟨_, rfl, by decide, lw_in 1085 (by decide +kernel) (by decide +kernel)⟩
theorem f_M_78 : FlOk "CallSignsModel" 78 12 27 := ⟨_, rfl, by decide, lw_in 1086 (by decide +kernel) (by decide +kernel)⟩
theorem f_M_81 : FlOk "CallSignsModel" 81 12 28 := ⟨_, rfl, by decide, lw_in 1087 (by decide +kernel) (by decide +kernel)⟩
theorem f_M_216 : FlOk "CallSignsModel" 216 12 29 := ⟨_, rfl, by decide, lw_in 1088 (by decide +kernel) (by decide +kernel)⟩
theorem f_M_219 : FlOk "CallSignsModel" 219 12 30 := ⟨_, rfl, by decide, lw_in 1089 (by decide +kernel) (by decide +kernel)⟩
theorem f_M_84 : FlOk "CallSignsModel" 84 12 31 := ⟨_, rfl, by decide, lw_in 1090 (by decide +kernel) (by decide +kernel)⟩
theorem f_M_87 : FlOk "CallSignsModel" 87 12 32 := ⟨_, rfl, by decide, lw_in 1091 (by decide +kernel) (by decide +kernel)⟩
theorem f_M_90 : FlOk "CallSignsModel" 90 12 33 := ⟨_, rfl, by decide, lw_in 1092 (by decide +kernel) (by decide +kernel)⟩
theorem f_M_93 : FlOk "CallSignsModel" 93 12 34 := ⟨_, rfl, by decide, lw_in 1093 (by decide +kernel) (by decide +kernel)⟩
theorem f_M_96 : FlOk "CallSignsModel" 96 12 35 := ⟨_, rfl, by decide, lw_in 1094 (by decide +kernel) (by decide +kernel)⟩
theorem f_M_261 : FlOk "CallSignsModel" 261 12 36 := ⟨_, rfl, by decide, lw_in 1095 (by decide +kernel) (by decide +kernel)⟩
theorem f_M_99 : FlOk "CallSignsModel" 99 12 37 := ⟨_, rfl, by decide, lw_in 1096 (by decide +kernel) (by decide +kernel)⟩
theorem f_M_102 : FlOk "CallSignsModel" 102 12 38 := ⟨_, rfl, by decide, lw_in 1097 (by decide +kernel) (by decide +kernel)⟩
theorem f_M_105 : FlOk "CallSignsModel" 105 12 39 := ⟨_, rfl, by decide, lw_in 1098 (by decide +kernel) (by decide +kernel)⟩
theorem f_M_108 : FlOk "CallSignsModel" 108 12 40 := ⟨_, rfl, by decide, lw_in 1099 (by decide +kernel) (by decide +kernel)⟩
theorem f_M_111 : FlOk "CallSignsModel" 111 12 41 := ⟨_, rfl, by decide, lw_in 1100 (by decide +kernel) (by decide +kernel)⟩
theorem f_M_268 : FlOk "CallSignsModel" 268 12 42 := ⟨_, rfl, by decide, lw_in 1101 (by decide +kernel) (by decide +kernel)⟩
theorem f_M_114 : FlOk "CallSignsModel" 114 12 43 := ⟨_, rfl, by decide, lw_in 1102 (by decide +kernel) (by decide +kernel)⟩
theorem f_M_118 : FlOk "CallSignsModel" 118 12 44 := ⟨_, rfl, by decide, lw_in 1103 (by decide +kernel) (by decide +kernel)⟩
theorem f_M_121 : FlOk "CallSignsModel" 121 12 45 := ⟨_, rfl, by decide, lw_in 1104 (by decide +kernel) (by decide +kernel)⟩
theorem k_L_17 : Cond.methodLink "CallSignsLaw" 17 (mY m_M_call) ∈ lw_good ∧ Cond.instanceMethod (mY m_M_call) ∈ lw_good ∧ Cond.selects (mY m_M_call).cls (mY m_M_call) (mY m_M_call) ∈ lw_good := ⟨lw_in 1198 (by decide +kernel) (by decide +kernel), v_M_call⟩
theorem k_M_142 : Cond.methodLink "CallSignsModel" 142 (mY m_M_isName) ∈ lw_good ∧ Cond.static (mY m_M_isName) ∈ lw_good := ⟨lw_in 1202 (by decide +kernel) (by decide +kernel), v_M_isName⟩
theorem kc_M_128 : Cond.constantLong "CallSignsModel" 128 (11 : Int64) ∈ lw_good := lw_in 1205 (by decide +kernel) (by decide +kernel)
theorem k_M_130 : Cond.methodLink "CallSignsModel" 130 (mY m_M_in) ∈ lw_good ∧ Cond.static (mY m_M_in) ∈ lw_good := ⟨lw_in 1206 (by decide +kernel) (by decide +kernel), v_M_in⟩
theorem k_M_145 : Cond.methodLink "CallSignsModel" 145 (mY m_M_isHour) ∈ lw_good ∧ Cond.static (mY m_M_isHour) ∈ lw_good := ⟨lw_in 1209 (by decide +kernel) (by decide +kernel), v_M_isHour⟩
theorem kc_M_136 : Cond.constantLong "CallSignsModel" 136 (479 : Int64) ∈ lw_good := lw_in 1212 (by decide +kernel) (by decide +kernel)
theorem kc_M_148 : Cond.constantLong "CallSignsModel" 148 (99 : Int64) ∈ lw_good := lw_in 1213 (by decide +kernel) (by decide +kernel)
theorem kc_M_150 : Cond.constantLong "CallSignsModel" 150 (7 : Int64) ∈ lw_good := lw_in 1214 (by decide +kernel) (by decide +kernel)
theorem k_L_24 : Cond.methodLink "CallSignsLaw" 24 (mY m_M_write) ∈ lw_good ∧ Cond.instanceMethod (mY m_M_write) ∈ lw_good ∧ Cond.selects (mY m_M_write).cls (mY m_M_write) (mY m_M_write) ∈ lw_good := ⟨lw_in 1215 (by decide +kernel) (by decide +kernel), v_M_write⟩
theorem kc_M_152 : Cond.constantLong "CallSignsModel" 152 (8 : Int64) ∈ lw_good := lw_in 1219 (by decide +kernel) (by decide +kernel)
theorem k_L_29 : Cond.methodLink "CallSignsLaw" 29 (mY m_M_wipe) ∈ lw_good ∧ Cond.instanceMethod (mY m_M_wipe) ∈ lw_good ∧ Cond.selects (mY m_M_wipe).cls (mY m_M_wipe) (mY m_M_wipe) ∈ lw_good := ⟨lw_in 1220 (by decide +kernel) (by decide +kernel), v_M_wipe⟩
theorem k_L_33 : Cond.methodLink "CallSignsLaw" 33 (mY m_M_fault) ∈ lw_good ∧ Cond.instanceMethod (mY m_M_fault) ∈ lw_good ∧ Cond.selects (mY m_M_fault).cls (mY m_M_fault) (mY m_M_fault) ∈ lw_good := ⟨lw_in 1224 (by decide +kernel) (by decide +kernel), v_M_fault⟩
theorem k_M_176 : Cond.methodLink "CallSignsModel" 176 (mY m_M_isItem) ∈ lw_good ∧ Cond.instanceMethod (mY m_M_isItem) ∈ lw_good ∧ Cond.selects (mY m_M_isItem).cls (mY m_M_isItem) (mY m_M_isItem) ∈ lw_good := ⟨lw_in 1228 (by decide +kernel) (by decide +kernel), v_M_isItem⟩
theorem k_M_166 : Cond.methodLink "CallSignsModel" 166 (mY m_M_number) ∈ lw_good ∧ Cond.instanceMethod (mY m_M_number) ∈ lw_good ∧ Cond.selects (mY m_M_number).cls (mY m_M_number) (mY m_M_number) ∈ lw_good := ⟨lw_in 1232 (by decide +kernel) (by decide +kernel), v_M_number⟩
theorem kc_M_160 : Cond.constantLong "CallSignsModel" 160 (48 : Int64) ∈ lw_good := lw_in 1236 (by decide +kernel) (by decide +kernel)
theorem kc_M_162 : Cond.constantLong "CallSignsModel" 162 (57 : Int64) ∈ lw_good := lw_in 1237 (by decide +kernel) (by decide +kernel)
theorem kc_M_164 : Cond.constantLong "CallSignsModel" 164 (3 : Int64) ∈ lw_good := lw_in 1238 (by decide +kernel) (by decide +kernel)
theorem k_M_170 : Cond.methodLink "CallSignsModel" 170 (mY m_M_more) ∈ lw_good ∧ Cond.instanceMethod (mY m_M_more) ∈ lw_good ∧ Cond.selects (mY m_M_more).cls (mY m_M_more) (mY m_M_more) ∈ lw_good := ⟨lw_in 1239 (by decide +kernel) (by decide +kernel), v_M_more⟩
theorem kc_M_134 : Cond.constantLong "CallSignsModel" 134 (19 : Int64) ∈ lw_good := lw_in 1243 (by decide +kernel) (by decide +kernel)
theorem k_L_37 : Cond.methodLink "CallSignsLaw" 37 (mY m_M_take) ∈ lw_good ∧ Cond.instanceMethod (mY m_M_take) ∈ lw_good ∧ Cond.selects (mY m_M_take).cls (mY m_M_take) (mY m_M_take) ∈ lw_good := ⟨lw_in 1244 (by decide +kernel) (by decide +kernel), v_M_take⟩
theorem k_M_180 : Cond.methodLink "CallSignsModel" 180 (mY m_M_fault) ∈ lw_good ∧ Cond.instanceMethod (mY m_M_fault) ∈ lw_good ∧ Cond.selects (mY m_M_fault).cls (mY m_M_fault) (mY m_M_fault) ∈ lw_good := ⟨lw_in 1248 (by decide +kernel) (by decide +kernel), v_M_fault⟩
theorem k_M_186 : Cond.methodLink "CallSignsModel" 186 (mY m_M_behind) ∈ lw_good ∧ Cond.instanceMethod (mY m_M_behind) ∈ lw_good ∧ Cond.selects (mY m_M_behind).cls (mY m_M_behind) (mY m_M_behind) ∈ lw_good := ⟨lw_in 1249 (by decide +kernel) (by decide +kernel), v_M_behind⟩
theorem k_L_42 : Cond.methodLink "CallSignsLaw" 42 (mY m_M_name) ∈ lw_good ∧ Cond.instanceMethod (mY m_M_name) ∈ lw_good ∧ Cond.selects (mY m_M_name).cls (mY m_M_name) (mY m_M_name) ∈ lw_good := ⟨lw_in 1253 (by decide +kernel) (by decide +kernel), v_M_name⟩
theorem k_M_138 : Cond.methodLink "CallSignsModel" 138 (mY m_M_isDay) ∈ lw_good ∧ Cond.static (mY m_M_isDay) ∈ lw_good := ⟨lw_in 1257 (by decide +kernel) (by decide +kernel), v_M_isDay⟩
theorem k_L_46 : Cond.methodLink "CallSignsLaw" 46 (mY m_M_post) ∈ lw_good ∧ Cond.instanceMethod (mY m_M_post) ∈ lw_good ∧ Cond.selects (mY m_M_post).cls (mY m_M_post) (mY m_M_post) ∈ lw_good := ⟨lw_in 1260 (by decide +kernel) (by decide +kernel), v_M_post⟩
theorem k_M_190 : Cond.methodLink "CallSignsModel" 190 (mY m_M_postOf) ∈ lw_good ∧ Cond.instanceMethod (mY m_M_postOf) ∈ lw_good ∧ Cond.selects (mY m_M_postOf).cls (mY m_M_postOf) (mY m_M_postOf) ∈ lw_good := ⟨lw_in 1264 (by decide +kernel) (by decide +kernel), v_M_postOf⟩
theorem k_L_51 : Cond.methodLink "CallSignsLaw" 51 (mY m_M_apart) ∈ lw_good ∧ Cond.instanceMethod (mY m_M_apart) ∈ lw_good ∧ Cond.selects (mY m_M_apart).cls (mY m_M_apart) (mY m_M_apart) ∈ lw_good := ⟨lw_in 1268 (by decide +kernel) (by decide +kernel), v_M_apart⟩
theorem k_L_55 : Cond.methodLink "CallSignsLaw" 55 (mY m_M_hand) ∈ lw_good ∧ Cond.instanceMethod (mY m_M_hand) ∈ lw_good ∧ Cond.selects (mY m_M_hand).cls (mY m_M_hand) (mY m_M_hand) ∈ lw_good := ⟨lw_in 1272 (by decide +kernel) (by decide +kernel), v_M_hand⟩
theorem k_M_197 : Cond.methodLink "CallSignsModel" 197 (mY m_M_isCall) ∈ lw_good ∧ Cond.instanceMethod (mY m_M_isCall) ∈ lw_good ∧ Cond.selects (mY m_M_isCall).cls (mY m_M_isCall) (mY m_M_isCall) ∈ lw_good := ⟨lw_in 1276 (by decide +kernel) (by decide +kernel), v_M_isCall⟩
theorem k_M_200 : Cond.methodLink "CallSignsModel" 200 (mY m_M_handsOf) ∈ lw_good ∧ Cond.instanceMethod (mY m_M_handsOf) ∈ lw_good ∧ Cond.selects (mY m_M_handsOf).cls (mY m_M_handsOf) (mY m_M_handsOf) ∈ lw_good := ⟨lw_in 1280 (by decide +kernel) (by decide +kernel), v_M_handsOf⟩
theorem k_M_193 : Cond.methodLink "CallSignsModel" 193 (mY m_M_size) ∈ lw_good ∧ Cond.static (mY m_M_size) ∈ lw_good := ⟨lw_in 1284 (by decide +kernel) (by decide +kernel), v_M_size⟩
theorem k_L_59 : Cond.methodLink "CallSignsLaw" 59 (mY m_M_hands) ∈ lw_good ∧ Cond.instanceMethod (mY m_M_hands) ∈ lw_good ∧ Cond.selects (mY m_M_hands).cls (mY m_M_hands) (mY m_M_hands) ∈ lw_good := ⟨lw_in 1287 (by decide +kernel) (by decide +kernel), v_M_hands⟩
theorem k_L_64 : Cond.methodLink "CallSignsLaw" 64 (mY m_M_odds) ∈ lw_good ∧ Cond.instanceMethod (mY m_M_odds) ∈ lw_good ∧ Cond.selects (mY m_M_odds).cls (mY m_M_odds) (mY m_M_odds) ∈ lw_good := ⟨lw_in 1291 (by decide +kernel) (by decide +kernel), v_M_odds⟩
theorem k_L_68 : Cond.methodLink "CallSignsLaw" 68 (mY m_M_like) ∈ lw_good ∧ Cond.instanceMethod (mY m_M_like) ∈ lw_good ∧ Cond.selects (mY m_M_like).cls (mY m_M_like) (mY m_M_like) ∈ lw_good := ⟨lw_in 1295 (by decide +kernel) (by decide +kernel), v_M_like⟩
theorem kc_M_207 : Cond.constantLong "CallSignsModel" 207 (18 : Int64) ∈ lw_good := lw_in 1299 (by decide +kernel) (by decide +kernel)
theorem k_M_209 : Cond.methodLink "CallSignsModel" 209 (mY m_M_sends) ∈ lw_good ∧ Cond.instanceMethod (mY m_M_sends) ∈ lw_good ∧ Cond.selects (mY m_M_sends).cls (mY m_M_sends) (mY m_M_sends) ∈ lw_good := ⟨lw_in 1300 (by decide +kernel) (by decide +kernel), v_M_sends⟩
theorem k_M_203 : Cond.methodLink "CallSignsModel" 203 (mY m_M_isOf) ∈ lw_good ∧ Cond.instanceMethod (mY m_M_isOf) ∈ lw_good ∧ Cond.selects (mY m_M_isOf).cls (mY m_M_isOf) (mY m_M_isOf) ∈ lw_good := ⟨lw_in 1304 (by decide +kernel) (by decide +kernel), v_M_isOf⟩
theorem k_M_212 : Cond.methodLink "CallSignsModel" 212 (mY m_M_likeOf) ∈ lw_good ∧ Cond.instanceMethod (mY m_M_likeOf) ∈ lw_good ∧ Cond.selects (mY m_M_likeOf).cls (mY m_M_likeOf) (mY m_M_likeOf) ∈ lw_good := ⟨lw_in 1308 (by decide +kernel) (by decide +kernel), v_M_likeOf⟩
theorem k_L_72 : Cond.methodLink "CallSignsLaw" 72 (mY m_M_follow) ∈ lw_good ∧ Cond.instanceMethod (mY m_M_follow) ∈ lw_good ∧ Cond.selects (mY m_M_follow).cls (mY m_M_follow) (mY m_M_follow) ∈ lw_good := ⟨lw_in 1312 (by decide +kernel) (by decide +kernel), v_M_follow⟩
theorem k_M_225 : Cond.methodLink "CallSignsModel" 225 (mY m_M_lays) ∈ lw_good ∧ Cond.instanceMethod (mY m_M_lays) ∈ lw_good ∧ Cond.selects (mY m_M_lays).cls (mY m_M_lays) (mY m_M_lays) ∈ lw_good := ⟨lw_in 1316 (by decide +kernel) (by decide +kernel), v_M_lays⟩
theorem k_M_228 : Cond.methodLink "CallSignsModel" 228 (mY m_M_placeOf) ∈ lw_good ∧ Cond.instanceMethod (mY m_M_placeOf) ∈ lw_good ∧ Cond.selects (mY m_M_placeOf).cls (mY m_M_placeOf) (mY m_M_placeOf) ∈ lw_good := ⟨lw_in 1320 (by decide +kernel) (by decide +kernel), v_M_placeOf⟩
theorem k_M_231 : Cond.methodLink "CallSignsModel" 231 (mY m_M_pairs) ∈ lw_good ∧ Cond.instanceMethod (mY m_M_pairs) ∈ lw_good ∧ Cond.selects (mY m_M_pairs).cls (mY m_M_pairs) (mY m_M_pairs) ∈ lw_good := ⟨lw_in 1324 (by decide +kernel) (by decide +kernel), v_M_pairs⟩
theorem k_M_222 : Cond.methodLink "CallSignsModel" 222 (mY m_M_sums) ∈ lw_good ∧ Cond.instanceMethod (mY m_M_sums) ∈ lw_good ∧ Cond.selects (mY m_M_sums).cls (mY m_M_sums) (mY m_M_sums) ∈ lw_good := ⟨lw_in 1328 (by decide +kernel) (by decide +kernel), v_M_sums⟩
theorem k_M_124 : Cond.methodLink "CallSignsModel" 124 (mY m_M_has) ∈ lw_good ∧ Cond.static (mY m_M_has) ∈ lw_good := ⟨lw_in 1332 (by decide +kernel) (by decide +kernel), v_M_has⟩
theorem k_M_234 : Cond.methodLink "CallSignsModel" 234 (mY m_M_isSure) ∈ lw_good ∧ Cond.instanceMethod (mY m_M_isSure) ∈ lw_good ∧ Cond.selects (mY m_M_isSure).cls (mY m_M_isSure) (mY m_M_isSure) ∈ lw_good := ⟨lw_in 1335 (by decide +kernel) (by decide +kernel), v_M_isSure⟩
theorem k_L_76 : Cond.methodLink "CallSignsLaw" 76 (mY m_M_sum) ∈ lw_good ∧ Cond.instanceMethod (mY m_M_sum) ∈ lw_good ∧ Cond.selects (mY m_M_sum).cls (mY m_M_sum) (mY m_M_sum) ∈ lw_good := ⟨lw_in 1339 (by decide +kernel) (by decide +kernel), v_M_sum⟩
theorem k_L_80 : Cond.methodLink "CallSignsLaw" 80 (mY m_M_rules) ∈ lw_good ∧ Cond.instanceMethod (mY m_M_rules) ∈ lw_good ∧ Cond.selects (mY m_M_rules).cls (mY m_M_rules) (mY m_M_rules) ∈ lw_good := ⟨lw_in 1343 (by decide +kernel) (by decide +kernel), v_M_rules⟩
theorem k_L_84 : Cond.methodLink "CallSignsLaw" 84 (mY m_M_trace) ∈ lw_good ∧ Cond.instanceMethod (mY m_M_trace) ∈ lw_good ∧ Cond.selects (mY m_M_trace).cls (mY m_M_trace) (mY m_M_trace) ∈ lw_good := ⟨lw_in 1347 (by decide +kernel) (by decide +kernel), v_M_trace⟩
theorem k_M_237 : Cond.methodLink "CallSignsModel" 237 (mY m_M_traced) ∈ lw_good ∧ Cond.instanceMethod (mY m_M_traced) ∈ lw_good ∧ Cond.selects (mY m_M_traced).cls (mY m_M_traced) (mY m_M_traced) ∈ lw_good := ⟨lw_in 1351 (by decide +kernel) (by decide +kernel), v_M_traced⟩
theorem k_L_88 : Cond.methodLink "CallSignsLaw" 88 (mY m_M_held) ∈ lw_good ∧ Cond.instanceMethod (mY m_M_held) ∈ lw_good ∧ Cond.selects (mY m_M_held).cls (mY m_M_held) (mY m_M_held) ∈ lw_good := ⟨lw_in 1355 (by decide +kernel) (by decide +kernel), v_M_held⟩
theorem k_L_92 : Cond.methodLink "CallSignsLaw" 92 (mY m_M_within) ∈ lw_good ∧ Cond.instanceMethod (mY m_M_within) ∈ lw_good ∧ Cond.selects (mY m_M_within).cls (mY m_M_within) (mY m_M_within) ∈ lw_good := ⟨lw_in 1359 (by decide +kernel) (by decide +kernel), v_M_within⟩
theorem kc_M_240 : Cond.constantLong "CallSignsModel" 240 (23 : Int64) ∈ lw_good := lw_in 1363 (by decide +kernel) (by decide +kernel)
theorem k_L_96 : Cond.methodLink "CallSignsLaw" 96 (mY m_M_fate) ∈ lw_good ∧ Cond.instanceMethod (mY m_M_fate) ∈ lw_good ∧ Cond.selects (mY m_M_fate).cls (mY m_M_fate) (mY m_M_fate) ∈ lw_good := ⟨lw_in 1364 (by decide +kernel) (by decide +kernel), v_M_fate⟩
theorem k_M_248 : Cond.methodLink "CallSignsModel" 248 (mY m_M_fateOf) ∈ lw_good ∧ Cond.instanceMethod (mY m_M_fateOf) ∈ lw_good ∧ Cond.selects (mY m_M_fateOf).cls (mY m_M_fateOf) (mY m_M_fateOf) ∈ lw_good := ⟨lw_in 1368 (by decide +kernel) (by decide +kernel), v_M_fateOf⟩
theorem k_M_245 : Cond.methodLink "CallSignsModel" 245 (mY m_M_answers) ∈ lw_good ∧ Cond.instanceMethod (mY m_M_answers) ∈ lw_good ∧ Cond.selects (mY m_M_answers).cls (mY m_M_answers) (mY m_M_answers) ∈ lw_good := ⟨lw_in 1372 (by decide +kernel) (by decide +kernel), v_M_answers⟩
theorem k_M_242 : Cond.methodLink "CallSignsModel" 242 (mY m_M_isBehind) ∈ lw_good ∧ Cond.instanceMethod (mY m_M_isBehind) ∈ lw_good ∧ Cond.selects (mY m_M_isBehind).cls (mY m_M_isBehind) (mY m_M_isBehind) ∈ lw_good := ⟨lw_in 1376 (by decide +kernel) (by decide +kernel), v_M_isBehind⟩
theorem k_L_101 : Cond.methodLink "CallSignsLaw" 101 (mY m_M_sign) ∈ lw_good ∧ Cond.instanceMethod (mY m_M_sign) ∈ lw_good ∧ Cond.selects (mY m_M_sign).cls (mY m_M_sign) (mY m_M_sign) ∈ lw_good := ⟨lw_in 1380 (by decide +kernel) (by decide +kernel), v_M_sign⟩
theorem k_M_254 : Cond.methodLink "CallSignsModel" 254 (mY m_M_isSpan) ∈ lw_good ∧ Cond.static (mY m_M_isSpan) ∈ lw_good := ⟨lw_in 1384 (by decide +kernel) (by decide +kernel), v_M_isSpan⟩
theorem k_M_257 : Cond.methodLink "CallSignsModel" 257 (mY m_M_signOf) ∈ lw_good ∧ Cond.instanceMethod (mY m_M_signOf) ∈ lw_good ∧ Cond.selects (mY m_M_signOf).cls (mY m_M_signOf) (mY m_M_signOf) ∈ lw_good := ⟨lw_in 1387 (by decide +kernel) (by decide +kernel), v_M_signOf⟩
theorem k_M_251 : Cond.methodLink "CallSignsModel" 251 (mY m_M_isOn) ∈ lw_good ∧ Cond.instanceMethod (mY m_M_isOn) ∈ lw_good ∧ Cond.selects (mY m_M_isOn).cls (mY m_M_isOn) (mY m_M_isOn) ∈ lw_good := ⟨lw_in 1391 (by decide +kernel) (by decide +kernel), v_M_isOn⟩
theorem k_L_105 : Cond.methodLink "CallSignsLaw" 105 (mY m_M_tree) ∈ lw_good ∧ Cond.instanceMethod (mY m_M_tree) ∈ lw_good ∧ Cond.selects (mY m_M_tree).cls (mY m_M_tree) (mY m_M_tree) ∈ lw_good := ⟨lw_in 1395 (by decide +kernel) (by decide +kernel), v_M_tree⟩
theorem kc_M_264 : Cond.constantLong "CallSignsModel" 264 (2 : Int64) ∈ lw_good := lw_in 1399 (by decide +kernel) (by decide +kernel)
theorem k_M_274 : Cond.methodLink "CallSignsModel" 274 (mY m_M_trees) ∈ lw_good ∧ Cond.instanceMethod (mY m_M_trees) ∈ lw_good ∧ Cond.selects (mY m_M_trees).cls (mY m_M_trees) (mY m_M_trees) ∈ lw_good := ⟨lw_in 1400 (by decide +kernel) (by decide +kernel), v_M_trees⟩
theorem kc_M_266 : Cond.constantLong "CallSignsModel" 266 (6 : Int64) ∈ lw_good := lw_in 1404 (by decide +kernel) (by decide +kernel)
theorem k_M_271 : Cond.methodLink "CallSignsModel" 271 (mY m_M_isTree) ∈ lw_good ∧ Cond.instanceMethod (mY m_M_isTree) ∈ lw_good ∧ Cond.selects (mY m_M_isTree).cls (mY m_M_isTree) (mY m_M_isTree) ∈ lw_good := ⟨lw_in 1405 (by decide +kernel) (by decide +kernel), v_M_isTree⟩
theorem k_L_109 : Cond.methodLink "CallSignsLaw" 109 (mY m_M_lacks) ∈ lw_good ∧ Cond.instanceMethod (mY m_M_lacks) ∈ lw_good ∧ Cond.selects (mY m_M_lacks).cls (mY m_M_lacks) (mY m_M_lacks) ∈ lw_good := ⟨lw_in 1409 (by decide +kernel) (by decide +kernel), v_M_lacks⟩
theorem k_M_277 : Cond.methodLink "CallSignsModel" 277 (mY m_M_lacksOf) ∈ lw_good ∧ Cond.instanceMethod (mY m_M_lacksOf) ∈ lw_good ∧ Cond.selects (mY m_M_lacksOf).cls (mY m_M_lacksOf) (mY m_M_lacksOf) ∈ lw_good := ⟨lw_in 1413 (by decide +kernel) (by decide +kernel), v_M_lacksOf⟩
theorem k_L_113 : Cond.methodLink "CallSignsLaw" 113 (mY m_M_show) ∈ lw_good ∧ Cond.instanceMethod (mY m_M_show) ∈ lw_good ∧ Cond.selects (mY m_M_show).cls (mY m_M_show) (mY m_M_show) ∈ lw_good := ⟨lw_in 1417 (by decide +kernel) (by decide +kernel), v_M_show⟩
theorem k_M_280 : Cond.methodLink "CallSignsModel" 280 (mY m_M_many) ∈ lw_good ∧ Cond.static (mY m_M_many) ∈ lw_good := ⟨lw_in 1421 (by decide +kernel) (by decide +kernel), v_M_many⟩
theorem k_L_117 : Cond.methodLink "CallSignsLaw" 117 (mY m_M_hearer) ∈ lw_good ∧ Cond.instanceMethod (mY m_M_hearer) ∈ lw_good ∧ Cond.selects (mY m_M_hearer).cls (mY m_M_hearer) (mY m_M_hearer) ∈ lw_good := ⟨lw_in 1424 (by decide +kernel) (by decide +kernel), v_M_hearer⟩
theorem k_M_285 : Cond.methodLink "CallSignsModel" 285 (mY m_M_isCell) ∈ lw_good ∧ Cond.static (mY m_M_isCell) ∈ lw_good := ⟨lw_in 1428 (by decide +kernel) (by decide +kernel), v_M_isCell⟩
theorem kc_M_283 : Cond.constantLong "CallSignsModel" 283 (15 : Int64) ∈ lw_good := lw_in 1431 (by decide +kernel) (by decide +kernel)
theorem k_L_121 : Cond.methodLink "CallSignsLaw" 121 (mY m_M_bearing) ∈ lw_good ∧ Cond.instanceMethod (mY m_M_bearing) ∈ lw_good ∧ Cond.selects (mY m_M_bearing).cls (mY m_M_bearing) (mY m_M_bearing) ∈ lw_good := ⟨lw_in 1432 (by decide +kernel) (by decide +kernel), v_M_bearing⟩
theorem kc_M_288 : Cond.constantLong "CallSignsModel" 288 (-9 : Int64) ∈ lw_good := lw_in 1436 (by decide +kernel) (by decide +kernel)
theorem kc_M_290 : Cond.constantLong "CallSignsModel" 290 (9 : Int64) ∈ lw_good := lw_in 1437 (by decide +kernel) (by decide +kernel)
theorem kc_M_292 : Cond.constantLong "CallSignsModel" 292 (20 : Int64) ∈ lw_good := lw_in 1438 (by decide +kernel) (by decide +kernel)
theorem k_L_125 : Cond.methodLink "CallSignsLaw" 125 (mY m_M_patch) ∈ lw_good ∧ Cond.instanceMethod (mY m_M_patch) ∈ lw_good ∧ Cond.selects (mY m_M_patch).cls (mY m_M_patch) (mY m_M_patch) ∈ lw_good := ⟨lw_in 1439 (by decide +kernel) (by decide +kernel), v_M_patch⟩
theorem k_M_294 : Cond.methodLink "CallSignsModel" 294 (mY m_M_fits) ∈ lw_good ∧ Cond.instanceMethod (mY m_M_fits) ∈ lw_good ∧ Cond.selects (mY m_M_fits).cls (mY m_M_fits) (mY m_M_fits) ∈ lw_good := ⟨lw_in 1443 (by decide +kernel) (by decide +kernel), v_M_fits⟩
theorem k_L_129 : Cond.methodLink "CallSignsLaw" 129 (mY m_M_isIn) ∈ lw_good ∧ Cond.instanceMethod (mY m_M_isIn) ∈ lw_good ∧ Cond.selects (mY m_M_isIn).cls (mY m_M_isIn) (mY m_M_isIn) ∈ lw_good := ⟨lw_in 1447 (by decide +kernel) (by decide +kernel), v_M_isIn⟩
theorem k_L_133 : Cond.methodLink "CallSignsLaw" 133 (mY m_M_moved) ∈ lw_good ∧ Cond.instanceMethod (mY m_M_moved) ∈ lw_good ∧ Cond.selects (mY m_M_moved).cls (mY m_M_moved) (mY m_M_moved) ∈ lw_good := ⟨lw_in 1451 (by decide +kernel) (by decide +kernel), v_M_moved⟩
theorem k_L_137 : Cond.methodLink "CallSignsLaw" 137 (mY m_M_listen) ∈ lw_good ∧ Cond.instanceMethod (mY m_M_listen) ∈ lw_good ∧ Cond.selects (mY m_M_listen).cls (mY m_M_listen) (mY m_M_listen) ∈ lw_good := ⟨lw_in 1455 (by decide +kernel) (by decide +kernel), v_M_listen⟩
theorem k_L_141 : Cond.methodLink "CallSignsLaw" 141 (mY m_M_silent) ∈ lw_good ∧ Cond.instanceMethod (mY m_M_silent) ∈ lw_good ∧ Cond.selects (mY m_M_silent).cls (mY m_M_silent) (mY m_M_silent) ∈ lw_good := ⟨lw_in 1459 (by decide +kernel) (by decide +kernel), v_M_silent⟩
theorem k_M_301 : Cond.methodLink "CallSignsModel" 301 (mY m_M_isSilent) ∈ lw_good ∧ Cond.instanceMethod (mY m_M_isSilent) ∈ lw_good ∧ Cond.selects (mY m_M_isSilent).cls (mY m_M_isSilent) (mY m_M_isSilent) ∈ lw_good := ⟨lw_in 1463 (by decide +kernel) (by decide +kernel), v_M_isSilent⟩
theorem k_M_298 : Cond.methodLink "CallSignsModel" 298 (mY m_M_isHeard) ∈ lw_good ∧ Cond.instanceMethod (mY m_M_isHeard) ∈ lw_good ∧ Cond.selects (mY m_M_isHeard).cls (mY m_M_isHeard) (mY m_M_isHeard) ∈ lw_good := ⟨lw_in 1467 (by decide +kernel) (by decide +kernel), v_M_isHeard⟩
theorem k_L_145 : Cond.methodLink "CallSignsLaw" 145 (mY m_M_event) ∈ lw_good ∧ Cond.instanceMethod (mY m_M_event) ∈ lw_good ∧ Cond.selects (mY m_M_event).cls (mY m_M_event) (mY m_M_event) ∈ lw_good := ⟨lw_in 1471 (by decide +kernel) (by decide +kernel), v_M_event⟩
theorem k_L_149 : Cond.methodLink "CallSignsLaw" 149 (mY m_M_ahead) ∈ lw_good ∧ Cond.instanceMethod (mY m_M_ahead) ∈ lw_good ∧ Cond.selects (mY m_M_ahead).cls (mY m_M_ahead) (mY m_M_ahead) ∈ lw_good := ⟨lw_in 1475 (by decide +kernel) (by decide +kernel), v_M_ahead⟩
theorem k_L_153 : Cond.methodLink "CallSignsLaw" 153 (mY m_M_waves) ∈ lw_good ∧ Cond.instanceMethod (mY m_M_waves) ∈ lw_good ∧ Cond.selects (mY m_M_waves).cls (mY m_M_waves) (mY m_M_waves) ∈ lw_good := ⟨lw_in 1479 (by decide +kernel) (by decide +kernel), v_M_waves⟩
theorem k_L_157 : Cond.methodLink "CallSignsLaw" 157 (mY m_M_keep) ∈ lw_good ∧ Cond.instanceMethod (mY m_M_keep) ∈ lw_good ∧ Cond.selects (mY m_M_keep).cls (mY m_M_keep) (mY m_M_keep) ∈ lw_good := ⟨lw_in 1483 (by decide +kernel) (by decide +kernel), v_M_keep⟩
theorem k_M_307 : Cond.methodLink "CallSignsModel" 307 (mY m_M_copies) ∈ lw_good ∧ Cond.instanceMethod (mY m_M_copies) ∈ lw_good ∧ Cond.selects (mY m_M_copies).cls (mY m_M_copies) (mY m_M_copies) ∈ lw_good := ⟨lw_in 1487 (by decide +kernel) (by decide +kernel), v_M_copies⟩
theorem k_L_161 : Cond.methodLink "CallSignsLaw" 161 (mY m_M_back) ∈ lw_good ∧ Cond.instanceMethod (mY m_M_back) ∈ lw_good ∧ Cond.selects (mY m_M_back).cls (mY m_M_back) (mY m_M_back) ∈ lw_good := ⟨lw_in 1491 (by decide +kernel) (by decide +kernel), v_M_back⟩
theorem k_L_165 : Cond.methodLink "CallSignsLaw" 165 (mY m_M_count) ∈ lw_good ∧ Cond.instanceMethod (mY m_M_count) ∈ lw_good ∧ Cond.selects (mY m_M_count).cls (mY m_M_count) (mY m_M_count) ∈ lw_good := ⟨lw_in 1495 (by decide +kernel) (by decide +kernel), v_M_count⟩
theorem kc_L_18 : Cond.constantLong "CallSignsLaw" 18 (4294967295 : Int64) ∈ lw_good := lw_in 1499 (by decide +kernel) (by decide +kernel)
theorem fr_0_0 : FrOk 0 0 := ⟨_, .array .byte, rfl, rfl, rfl, by decide +kernel, fun _ => ⟨rfl, rfl⟩⟩
theorem fw_0_1 : FwOk 0 1 := ⟨_, rfl, rfl, by decide +kernel⟩
theorem fr_0_2 : FrOk 0 2 := ⟨_, .array .int, rfl, rfl, rfl, by decide +kernel, fun _ => ⟨rfl, rfl⟩⟩
theorem fr_0_3 : FrOk 0 3 := ⟨_, .array .int, rfl, rfl, rfl, by decide +kernel, fun _ => ⟨rfl, rfl⟩⟩
theorem fr_0_4 : FrOk 0 4 := ⟨_, .array .int, rfl, rfl, rfl, by decide +kernel, fun _ => ⟨rfl, rfl⟩⟩
theorem fr_0_5 : FrOk 0 5 := ⟨_, .array .int, rfl, rfl, rfl, by decide +kernel, fun _ => ⟨rfl, rfl⟩⟩
theorem fr_0_6 : FrOk 0 6 := ⟨_, .array .int, rfl, rfl, rfl, by decide +kernel, fun _ => ⟨rfl, rfl⟩⟩
theorem fw_0_7 : FwOk 0 7 := ⟨_, rfl, rfl, by decide +kernel⟩
theorem fw_0_8 : FwOk 0 8 := ⟨_, rfl, rfl, by decide +kernel⟩
theorem fw_0_9 : FwOk 0 9 := ⟨_, rfl, rfl, by decide +kernel⟩
theorem fr_0_10 : FrOk 0 10 := ⟨_, .array (.array .int), rfl, rfl, rfl, by decide +kernel, fun _ => ⟨rfl, rfl⟩⟩
theorem fr_0_11 : FrOk 0 11 := ⟨_, .array (.array .int), rfl, rfl, rfl, by decide +kernel, fun _ => ⟨rfl, rfl⟩⟩
theorem fw_0_12 : FwOk 0 12 := ⟨_, rfl, rfl, by decide +kernel⟩
theorem fr_1_0 : FrOk 1 0 := ⟨_, .array .int, rfl, rfl, rfl, by decide +kernel, fun _ => ⟨rfl, rfl⟩⟩
theorem fr_1_1 : FrOk 1 1 := ⟨_, .array .int, rfl, rfl, rfl, by decide +kernel, fun _ => ⟨rfl, rfl⟩⟩
theorem fr_1_2 : FrOk 1 2 := ⟨_, .array .int, rfl, rfl, rfl, by decide +kernel, fun _ => ⟨rfl, rfl⟩⟩
theorem fr_1_3 : FrOk 1 3 := ⟨_, .array .int, rfl, rfl, rfl, by decide +kernel, fun _ => ⟨rfl, rfl⟩⟩
theorem fr_1_4 : FrOk 1 4 := ⟨_, .array .int, rfl, rfl, rfl, by decide +kernel, fun _ => ⟨rfl, rfl⟩⟩
theorem fr_1_5 : FrOk 1 5 := ⟨_, .array .int, rfl, rfl, rfl, by decide +kernel, fun _ => ⟨rfl, rfl⟩⟩
theorem fw_1_6 : FwOk 1 6 := ⟨_, rfl, rfl, by decide +kernel⟩
theorem fw_2_0 : FwOk 2 0 := ⟨_, rfl, rfl, by decide +kernel⟩
theorem fw_2_1 : FwOk 2 1 := ⟨_, rfl, rfl, by decide +kernel⟩
theorem fr_2_2 : FrOk 2 2 := ⟨_, .array .int, rfl, rfl, rfl, by decide +kernel, fun _ => ⟨rfl, rfl⟩⟩
theorem fw_3_0 : FwOk 3 0 := ⟨_, rfl, rfl, by decide +kernel⟩
theorem fr_3_1 : FrOk 3 1 := ⟨_, .array .int, rfl, rfl, rfl, by decide +kernel, fun _ => ⟨rfl, rfl⟩⟩
theorem fw_4_0 : FwOk 4 0 := ⟨_, rfl, rfl, by decide +kernel⟩
theorem fr_4_1 : FrOk 4 1 := ⟨_, .array .int, rfl, rfl, rfl, by decide +kernel, fun _ => ⟨rfl, rfl⟩⟩
theorem fr_5_0 : FrOk 5 0 := ⟨_, .object "CallSigns$Senders", rfl, rfl, rfl, by decide +kernel, fun _ => ⟨rfl, rfl⟩⟩
theorem fr_5_1 : FrOk 5 1 := ⟨_, .object "CallSigns$Senders", rfl, rfl, rfl, by decide +kernel, fun _ => ⟨rfl, rfl⟩⟩
theorem fr_5_2 : FrOk 5 2 := ⟨_, .array .int, rfl, rfl, rfl, by decide +kernel, fun _ => ⟨rfl, rfl⟩⟩
theorem fr_5_3 : FrOk 5 3 := ⟨_, .array .int, rfl, rfl, rfl, by decide +kernel, fun _ => ⟨rfl, rfl⟩⟩
theorem fr_5_4 : FrOk 5 4 := ⟨_, .array .int, rfl, rfl, rfl, by decide +kernel, fun _ => ⟨rfl, rfl⟩⟩
theorem fr_5_5 : FrOk 5 5 := ⟨_, .array .int, rfl, rfl, rfl, by decide +kernel, fun _ => ⟨rfl, rfl⟩⟩
theorem fr_5_6 : FrOk 5 6 := ⟨_, .array .boolean, rfl, rfl, rfl, by decide +kernel, fun _ => ⟨rfl, rfl⟩⟩
theorem fw_5_7 : FwOk 5 7 := ⟨_, rfl, rfl, by decide +kernel⟩
theorem fr_6_0 : FrOk 6 0 := ⟨_, .array .int, rfl, rfl, rfl, by decide +kernel, fun _ => ⟨rfl, rfl⟩⟩
theorem fr_6_1 : FrOk 6 1 := ⟨_, .array .int, rfl, rfl, rfl, by decide +kernel, fun _ => ⟨rfl, rfl⟩⟩
theorem fr_6_2 : FrOk 6 2 := ⟨_, .array .int, rfl, rfl, rfl, by decide +kernel, fun _ => ⟨rfl, rfl⟩⟩
theorem fr_6_3 : FrOk 6 3 := ⟨_, .array .int, rfl, rfl, rfl, by decide +kernel, fun _ => ⟨rfl, rfl⟩⟩
theorem fr_6_4 : FrOk 6 4 := ⟨_, .array .int, rfl, rfl, rfl, by decide +kernel, fun _ => ⟨rfl, rfl⟩⟩
theorem fr_6_5 : FrOk 6 5 := ⟨_, .array .int, rfl, rfl, rfl, by decide +kernel, fun _ => ⟨rfl, rfl⟩⟩
theorem fr_6_6 : FrOk 6 6 := ⟨_, .array .int, rfl, rfl, rfl, by decide +kernel, fun _ => ⟨rfl, rfl⟩⟩
theorem fr_6_7 : FrOk 6 7 := ⟨_, .array .int, rfl, rfl, rfl, by decide +kernel, fun _ => ⟨rfl, rfl⟩⟩
theorem fw_6_8 : FwOk 6 8 := ⟨_, rfl, rfl, by decide +kernel⟩
theorem fr_6_9 : FrOk 6 9 := ⟨_, .array .int, rfl, rfl, rfl, by decide +kernel, fun _ => ⟨rfl, rfl⟩⟩
theorem fr_6_10 : FrOk 6 10 := ⟨_, .array .int, rfl, rfl, rfl, by decide +kernel, fun _ => ⟨rfl, rfl⟩⟩
theorem fr_7_0 : FrOk 7 0 := ⟨_, .array .int, rfl, rfl, rfl, by decide +kernel, fun _ => ⟨rfl, rfl⟩⟩
theorem fw_7_1 : FwOk 7 1 := ⟨_, rfl, rfl, by decide +kernel⟩
theorem fr_7_2 : FrOk 7 2 := ⟨_, .array .long, rfl, rfl, rfl, by decide +kernel, fun _ => ⟨rfl, rfl⟩⟩
theorem fr_7_3 : FrOk 7 3 := ⟨_, .array .int, rfl, rfl, rfl, by decide +kernel, fun _ => ⟨rfl, rfl⟩⟩
theorem fr_7_4 : FrOk 7 4 := ⟨_, .array .int, rfl, rfl, rfl, by decide +kernel, fun _ => ⟨rfl, rfl⟩⟩
theorem fw_8_0 : FwOk 8 0 := ⟨_, rfl, rfl, by decide +kernel⟩
theorem fw_8_1 : FwOk 8 1 := ⟨_, rfl, rfl, by decide +kernel⟩
theorem fr_8_2 : FrOk 8 2 := ⟨_, .array .int, rfl, rfl, rfl, by decide +kernel, fun _ => ⟨rfl, rfl⟩⟩
theorem fr_8_3 : FrOk 8 3 := ⟨_, .array .int, rfl, rfl, rfl, by decide +kernel, fun _ => ⟨rfl, rfl⟩⟩
theorem fr_8_4 : FrOk 8 4 := ⟨_, .array .int, rfl, rfl, rfl, by decide +kernel, fun _ => ⟨rfl, rfl⟩⟩
theorem fr_8_5 : FrOk 8 5 := ⟨_, .array .int, rfl, rfl, rfl, by decide +kernel, fun _ => ⟨rfl, rfl⟩⟩
theorem fr_8_6 : FrOk 8 6 := ⟨_, .array .int, rfl, rfl, rfl, by decide +kernel, fun _ => ⟨rfl, rfl⟩⟩
theorem fr_8_7 : FrOk 8 7 := ⟨_, .array .int, rfl, rfl, rfl, by decide +kernel, fun _ => ⟨rfl, rfl⟩⟩
theorem fr_9_0 : FrOk 9 0 := ⟨_, .array .int, rfl, rfl, rfl, by decide +kernel, fun _ => ⟨rfl, rfl⟩⟩
theorem fw_10_0 : FwOk 10 0 := ⟨_, rfl, rfl, by decide +kernel⟩
theorem fw_10_1 : FwOk 10 1 := ⟨_, rfl, rfl, by decide +kernel⟩
theorem fr_10_2 : FrOk 10 2 := ⟨_, .array .int, rfl, rfl, rfl, by decide +kernel, fun _ => ⟨rfl, rfl⟩⟩
theorem fr_10_3 : FrOk 10 3 := ⟨_, .array .int, rfl, rfl, rfl, by decide +kernel, fun _ => ⟨rfl, rfl⟩⟩
theorem fr_10_4 : FrOk 10 4 := ⟨_, .array .int, rfl, rfl, rfl, by decide +kernel, fun _ => ⟨rfl, rfl⟩⟩
theorem fr_10_5 : FrOk 10 5 := ⟨_, .array .int, rfl, rfl, rfl, by decide +kernel, fun _ => ⟨rfl, rfl⟩⟩
theorem fr_10_6 : FrOk 10 6 := ⟨_, .array .int, rfl, rfl, rfl, by decide +kernel, fun _ => ⟨rfl, rfl⟩⟩
theorem fw_10_7 : FwOk 10 7 := ⟨_, rfl, rfl, by decide +kernel⟩
theorem fr_11_0 : FrOk 11 0 := ⟨_, .object "CallSigns$CallLog", rfl, rfl, rfl, by decide +kernel, fun _ => ⟨rfl, rfl⟩⟩
theorem fr_11_1 : FrOk 11 1 := ⟨_, .object "CallSigns$Book", rfl, rfl, rfl, by decide +kernel, fun _ => ⟨rfl, rfl⟩⟩
theorem fr_11_2 : FrOk 11 2 := ⟨_, .object "CallSigns$Hands", rfl, rfl, rfl, by decide +kernel, fun _ => ⟨rfl, rfl⟩⟩
theorem fr_11_3 : FrOk 11 3 := ⟨_, .object "CallSigns$Pairing", rfl, rfl, rfl, by decide +kernel, fun _ => ⟨rfl, rfl⟩⟩
theorem fr_11_4 : FrOk 11 4 := ⟨_, .object "CallSigns$Trail", rfl, rfl, rfl, by decide +kernel, fun _ => ⟨rfl, rfl⟩⟩
theorem fr_11_5 : FrOk 11 5 := ⟨_, .object "CallSigns$Orders", rfl, rfl, rfl, by decide +kernel, fun _ => ⟨rfl, rfl⟩⟩
theorem fr_11_6 : FrOk 11 6 := ⟨_, .object "CallSigns$Tree", rfl, rfl, rfl, by decide +kernel, fun _ => ⟨rfl, rfl⟩⟩
theorem fr_11_7 : FrOk 11 7 := ⟨_, .object "CallSigns$Places", rfl, rfl, rfl, by decide +kernel, fun _ => ⟨rfl, rfl⟩⟩
theorem fr_11_8 : FrOk 11 8 := ⟨_, .object "CallSigns$Silence", rfl, rfl, rfl, by decide +kernel, fun _ => ⟨rfl, rfl⟩⟩
theorem fr_11_9 : FrOk 11 9 := ⟨_, .object "CallSigns$Links", rfl, rfl, rfl, by decide +kernel, fun _ => ⟨rfl, rfl⟩⟩
theorem fr_11_10 : FrOk 11 10 := ⟨_, .array .int, rfl, rfl, rfl, by decide +kernel, fun _ => ⟨rfl, rfl⟩⟩
theorem fr_11_11 : FrOk 11 11 := ⟨_, .array .int, rfl, rfl, rfl, by decide +kernel, fun _ => ⟨rfl, rfl⟩⟩
theorem fr_11_12 : FrOk 11 12 := ⟨_, .array .int, rfl, rfl, rfl, by decide +kernel, fun _ => ⟨rfl, rfl⟩⟩
theorem fr_11_13 : FrOk 11 13 := ⟨_, .array .int, rfl, rfl, rfl, by decide +kernel, fun _ => ⟨rfl, rfl⟩⟩
theorem fw_11_14 : FwOk 11 14 := ⟨_, rfl, rfl, by decide +kernel⟩
theorem fr_12_0 : FrOk 12 0 := ⟨_, .array .int, rfl, rfl, rfl, by decide +kernel, fun _ => ⟨rfl, rfl⟩⟩
theorem fr_12_1 : FrOk 12 1 := ⟨_, .array .int, rfl, rfl, rfl, by decide +kernel, fun _ => ⟨rfl, rfl⟩⟩
theorem fr_12_2 : FrOk 12 2 := ⟨_, .array .int, rfl, rfl, rfl, by decide +kernel, fun _ => ⟨rfl, rfl⟩⟩
theorem fr_12_3 : FrOk 12 3 := ⟨_, .array .int, rfl, rfl, rfl, by decide +kernel, fun _ => ⟨rfl, rfl⟩⟩
theorem fr_12_4 : FrOk 12 4 := ⟨_, .array .int, rfl, rfl, rfl, by decide +kernel, fun _ => ⟨rfl, rfl⟩⟩
theorem fr_12_5 : FrOk 12 5 := ⟨_, .array .int, rfl, rfl, rfl, by decide +kernel, fun _ => ⟨rfl, rfl⟩⟩
theorem fr_12_6 : FrOk 12 6 := ⟨_, .array .int, rfl, rfl, rfl, by decide +kernel, fun _ => ⟨rfl, rfl⟩⟩
theorem fr_12_7 : FrOk 12 7 := ⟨_, .array .int, rfl, rfl, rfl, by decide +kernel, fun _ => ⟨rfl, rfl⟩⟩
theorem fr_12_8 : FrOk 12 8 := ⟨_, .array .int, rfl, rfl, rfl, by decide +kernel, fun _ => ⟨rfl, rfl⟩⟩
theorem fr_12_9 : FrOk 12 9 := ⟨_, .array .int, rfl, rfl, rfl, by decide +kernel, fun _ => ⟨rfl, rfl⟩⟩
theorem fr_12_10 : FrOk 12 10 := ⟨_, .array .int, rfl, rfl, rfl, by decide +kernel, fun _ => ⟨rfl, rfl⟩⟩
theorem fr_12_11 : FrOk 12 11 := ⟨_, .array .int, rfl, rfl, rfl, by decide +kernel, fun _ => ⟨rfl, rfl⟩⟩
theorem fr_12_12 : FrOk 12 12 := ⟨_, .array .int, rfl, rfl, rfl, by decide +kernel, fun _ => ⟨rfl, rfl⟩⟩
theorem fw_12_13 : FwOk 12 13 := ⟨_, rfl, rfl, by decide +kernel⟩
theorem fw_12_14 : FwOk 12 14 := ⟨_, rfl, rfl, by decide +kernel⟩
theorem fw_12_15 : FwOk 12 15 := ⟨_, rfl, rfl, by decide +kernel⟩
theorem fr_12_16 : FrOk 12 16 := ⟨_, .array .int, rfl, rfl, rfl, by decide +kernel, fun _ => ⟨rfl, rfl⟩⟩
theorem fr_12_17 : FrOk 12 17 := ⟨_, .array .int, rfl, rfl, rfl, by decide +kernel, fun _ => ⟨rfl, rfl⟩⟩
theorem fw_12_18 : FwOk 12 18 := ⟨_, rfl, rfl, by decide +kernel⟩
theorem fr_12_19 : FrOk 12 19 := ⟨_, .array .byte, rfl, rfl, rfl, by decide +kernel, fun _ => ⟨rfl, rfl⟩⟩
theorem fw_12_20 : FwOk 12 20 := ⟨_, rfl, rfl, by decide +kernel⟩
theorem fr_12_21 : FrOk 12 21 := ⟨_, .array .int, rfl, rfl, rfl, by decide +kernel, fun _ => ⟨rfl, rfl⟩⟩
theorem fw_12_22 : FwOk 12 22 := ⟨_, rfl, rfl, by decide +kernel⟩
theorem fw_12_23 : FwOk 12 23 := ⟨_, rfl, rfl, by decide +kernel⟩
theorem fr_12_24 : FrOk 12 24 := ⟨_, .array .int, rfl, rfl, rfl, by decide +kernel, fun _ => ⟨rfl, rfl⟩⟩
theorem fr_12_25 : FrOk 12 25 := ⟨_, .array .int, rfl, rfl, rfl, by decide +kernel, fun _ => ⟨rfl, rfl⟩⟩
theorem fr_12_26 : FrOk 12 26 := ⟨_, .array .int, rfl, rfl, rfl, by decide +kernel, fun _ => ⟨rfl, rfl⟩⟩
theorem fr_12_27 : FrOk 12 27 := ⟨_, .array .int, rfl, rfl, rfl, by decide +kernel, fun _ => ⟨rfl, rfl⟩⟩
theorem fr_12_28 : FrOk 12 28 := ⟨_, .array .int, rfl, rfl, rfl, by decide +kernel, fun _ => ⟨rfl, rfl⟩⟩
theorem fw_12_29 : FwOk 12 29 := ⟨_, rfl, rfl, by decide +kernel⟩
theorem fw_12_30 : FwOk 12 30 := ⟨_, rfl, rfl, by decide +kernel⟩
theorem fr_12_31 : FrOk 12 31 := ⟨_, .array .int, rfl, rfl, rfl, by decide +kernel, fun _ => ⟨rfl, rfl⟩⟩
theorem fr_12_32 : FrOk 12 32 := ⟨_, .array .int, rfl, rfl, rfl, by decide +kernel, fun _ => ⟨rfl, rfl⟩⟩
theorem fr_12_33 : FrOk 12 33 := ⟨_, .array .int, rfl, rfl, rfl, by decide +kernel, fun _ => ⟨rfl, rfl⟩⟩
theorem fr_12_34 : FrOk 12 34 := ⟨_, .array .int, rfl, rfl, rfl, by decide +kernel, fun _ => ⟨rfl, rfl⟩⟩
theorem fr_12_35 : FrOk 12 35 := ⟨_, .array .int, rfl, rfl, rfl, by decide +kernel, fun _ => ⟨rfl, rfl⟩⟩
theorem fw_12_36 : FwOk 12 36 := ⟨_, rfl, rfl, by decide +kernel⟩
theorem fr_12_37 : FrOk 12 37 := ⟨_, .array .int, rfl, rfl, rfl, by decide +kernel, fun _ => ⟨rfl, rfl⟩⟩
theorem fr_12_38 : FrOk 12 38 := ⟨_, .array .int, rfl, rfl, rfl, by decide +kernel, fun _ => ⟨rfl, rfl⟩⟩
theorem fr_12_39 : FrOk 12 39 := ⟨_, .array .int, rfl, rfl, rfl, by decide +kernel, fun _ => ⟨rfl, rfl⟩⟩
theorem fr_12_40 : FrOk 12 40 := ⟨_, .array .int, rfl, rfl, rfl, by decide +kernel, fun _ => ⟨rfl, rfl⟩⟩
theorem fr_12_41 : FrOk 12 41 := ⟨_, .array .int, rfl, rfl, rfl, by decide +kernel, fun _ => ⟨rfl, rfl⟩⟩
theorem fw_12_42 : FwOk 12 42 := ⟨_, rfl, rfl, by decide +kernel⟩
theorem fr_12_43 : FrOk 12 43 := ⟨_, .array .boolean, rfl, rfl, rfl, by decide +kernel, fun _ => ⟨rfl, rfl⟩⟩
theorem fr_12_44 : FrOk 12 44 := ⟨_, .array .boolean, rfl, rfl, rfl, by decide +kernel, fun _ => ⟨rfl, rfl⟩⟩
theorem fr_12_45 : FrOk 12 45 := ⟨_, .array .int, rfl, rfl, rfl, by decide +kernel, fun _ => ⟨rfl, rfl⟩⟩
