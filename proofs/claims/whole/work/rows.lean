section
-- ===== PART A: goes FIRST, ahead of the names: the tables' words, and 'selects' of the private methods out of them =====
/-- a private method of a class that the tables say can be made, by its rows of tables_1 -/
def lw_okq (q : MethodName × Nat) : Prop := (q.1.cls ≠ "java/lang/invoke/MethodHandle" ∧ q.1.cls ≠ "java/lang/invoke/VarHandle") ∧ Cond.instantiable q.1.cls q.2 ∈ tables_1 ∧ Cond.privateMethod q.1 ∈ tables_1 ∧ Cond.instanceMethod q.1 ∈ tables_1
theorem lw_p0 : lw_okq (⟨"java/lang/Throwable", "fillInStackTrace", "(I)Ljava/lang/Throwable;"⟩, 6) := ⟨⟨by decide +kernel, by decide +kernel⟩, List.mem_of_getElem? (i := 147) (by decide +kernel), List.mem_of_getElem? (i := 145) (by decide +kernel), List.mem_of_getElem? (i := 146) (by decide +kernel)⟩
theorem lw_p1 : lw_okq (⟨"java/util/ArrayList", "add", "(Ljava/lang/Object;[Ljava/lang/Object;I)V"⟩, 3) := ⟨⟨by decide +kernel, by decide +kernel⟩, List.mem_of_getElem? (i := 46) (by decide +kernel), List.mem_of_getElem? (i := 250) (by decide +kernel), List.mem_of_getElem? (i := 251) (by decide +kernel)⟩
theorem lw_p2 : lw_okq (⟨"java/util/ArrayList", "grow", "()[Ljava/lang/Object;"⟩, 3) := ⟨⟨by decide +kernel, by decide +kernel⟩, List.mem_of_getElem? (i := 46) (by decide +kernel), List.mem_of_getElem? (i := 254) (by decide +kernel), List.mem_of_getElem? (i := 255) (by decide +kernel)⟩
theorem lw_p3 : lw_okq (⟨"java/util/ArrayList", "grow", "(I)[Ljava/lang/Object;"⟩, 3) := ⟨⟨by decide +kernel, by decide +kernel⟩, List.mem_of_getElem? (i := 46) (by decide +kernel), List.mem_of_getElem? (i := 258) (by decide +kernel), List.mem_of_getElem? (i := 259) (by decide +kernel)⟩
theorem lw_p4 : lw_okq (⟨"HarbourPilotline", "shipAt", "(I)LHarbourPilotline$Ship;"⟩, 7) := ⟨⟨by decide +kernel, by decide +kernel⟩, List.mem_of_getElem? (i := 23) (by decide +kernel), List.mem_of_getElem? (i := 343) (by decide +kernel), List.mem_of_getElem? (i := 344) (by decide +kernel)⟩
theorem lw_p5 : lw_okq (⟨"HarbourPilotline", "conferenceAt", "(I)LHarbourPilotline$Conference;"⟩, 7) := ⟨⟨by decide +kernel, by decide +kernel⟩, List.mem_of_getElem? (i := 23) (by decide +kernel), List.mem_of_getElem? (i := 417) (by decide +kernel), List.mem_of_getElem? (i := 418) (by decide +kernel)⟩
theorem lw_p6 : lw_okq (⟨"HarbourPilotline", "pilotAt", "(I)LHarbourPilotline$Pilot;"⟩, 7) := ⟨⟨by decide +kernel, by decide +kernel⟩, List.mem_of_getElem? (i := 23) (by decide +kernel), List.mem_of_getElem? (i := 426) (by decide +kernel), List.mem_of_getElem? (i := 427) (by decide +kernel)⟩
theorem lw_p7 : lw_okq (⟨"HarbourPilotline", "lookForSlot", "(LHarbourPilotline$Conference;)V"⟩, 7) := ⟨⟨by decide +kernel, by decide +kernel⟩, List.mem_of_getElem? (i := 23) (by decide +kernel), List.mem_of_getElem? (i := 445) (by decide +kernel), List.mem_of_getElem? (i := 446) (by decide +kernel)⟩
theorem lw_p8 : lw_okq (⟨"HarbourPilotline", "earliestSlot", "(LHarbourPilotline$Conference;)I"⟩, 7) := ⟨⟨by decide +kernel, by decide +kernel⟩, List.mem_of_getElem? (i := 23) (by decide +kernel), List.mem_of_getElem? (i := 449) (by decide +kernel), List.mem_of_getElem? (i := 450) (by decide +kernel)⟩
theorem lw_p9 : lw_okq (⟨"HarbourPilotline", "pastRests", "(LHarbourPilotline$Conference;I)I"⟩, 7) := ⟨⟨by decide +kernel, by decide +kernel⟩, List.mem_of_getElem? (i := 23) (by decide +kernel), List.mem_of_getElem? (i := 463) (by decide +kernel), List.mem_of_getElem? (i := 464) (by decide +kernel)⟩
theorem lw_p10 : lw_okq (⟨"HarbourPilotline", "pastChannel", "(LHarbourPilotline$Conference;I)I"⟩, 7) := ⟨⟨by decide +kernel, by decide +kernel⟩, List.mem_of_getElem? (i := 23) (by decide +kernel), List.mem_of_getElem? (i := 472) (by decide +kernel), List.mem_of_getElem? (i := 473) (by decide +kernel)⟩
theorem lw_p11 : lw_okq (⟨"HarbourPilotline", "pastTugs", "(LHarbourPilotline$Conference;I)I"⟩, 7) := ⟨⟨by decide +kernel, by decide +kernel⟩, List.mem_of_getElem? (i := 23) (by decide +kernel), List.mem_of_getElem? (i := 479) (by decide +kernel), List.mem_of_getElem? (i := 480) (by decide +kernel)⟩
theorem lw_p12 : lw_okq (⟨"HarbourPilotline", "tugsOfOthers", "(LHarbourPilotline$Conference;II)I"⟩, 7) := ⟨⟨by decide +kernel, by decide +kernel⟩, List.mem_of_getElem? (i := 23) (by decide +kernel), List.mem_of_getElem? (i := 483) (by decide +kernel), List.mem_of_getElem? (i := 484) (by decide +kernel)⟩
theorem lw_p13 : lw_okq (⟨"HarbourPilotline", "lookAnew", "()I"⟩, 7) := ⟨⟨by decide +kernel, by decide +kernel⟩, List.mem_of_getElem? (i := 23) (by decide +kernel), List.mem_of_getElem? (i := 508) (by decide +kernel), List.mem_of_getElem? (i := 509) (by decide +kernel)⟩
theorem lw_p14 : lw_okq (⟨"HarbourPilotline", "becomesDone", "(LHarbourPilotline$Conference;)Z"⟩, 7) := ⟨⟨by decide +kernel, by decide +kernel⟩, List.mem_of_getElem? (i := 23) (by decide +kernel), List.mem_of_getElem? (i := 520) (by decide +kernel), List.mem_of_getElem? (i := 521) (by decide +kernel)⟩
theorem lw_p15 : lw_okq (⟨"HarbourPilotline", "restedBehindSlots", "(LHarbourPilotline$Pilot;)I"⟩, 7) := ⟨⟨by decide +kernel, by decide +kernel⟩, List.mem_of_getElem? (i := 23) (by decide +kernel), List.mem_of_getElem? (i := 562) (by decide +kernel), List.mem_of_getElem? (i := 563) (by decide +kernel)⟩
def lw_privs_1 : List (MethodName × Nat) := [(⟨"java/lang/Throwable", "fillInStackTrace", "(I)Ljava/lang/Throwable;"⟩, 6), (⟨"java/util/ArrayList", "add", "(Ljava/lang/Object;[Ljava/lang/Object;I)V"⟩, 3), (⟨"java/util/ArrayList", "grow", "()[Ljava/lang/Object;"⟩, 3), (⟨"java/util/ArrayList", "grow", "(I)[Ljava/lang/Object;"⟩, 3), (⟨"HarbourPilotline", "shipAt", "(I)LHarbourPilotline$Ship;"⟩, 7), (⟨"HarbourPilotline", "conferenceAt", "(I)LHarbourPilotline$Conference;"⟩, 7), (⟨"HarbourPilotline", "pilotAt", "(I)LHarbourPilotline$Pilot;"⟩, 7), (⟨"HarbourPilotline", "lookForSlot", "(LHarbourPilotline$Conference;)V"⟩, 7), (⟨"HarbourPilotline", "earliestSlot", "(LHarbourPilotline$Conference;)I"⟩, 7), (⟨"HarbourPilotline", "pastRests", "(LHarbourPilotline$Conference;I)I"⟩, 7), (⟨"HarbourPilotline", "pastChannel", "(LHarbourPilotline$Conference;I)I"⟩, 7), (⟨"HarbourPilotline", "pastTugs", "(LHarbourPilotline$Conference;I)I"⟩, 7), (⟨"HarbourPilotline", "tugsOfOthers", "(LHarbourPilotline$Conference;II)I"⟩, 7), (⟨"HarbourPilotline", "lookAnew", "()I"⟩, 7), (⟨"HarbourPilotline", "becomesDone", "(LHarbourPilotline$Conference;)Z"⟩, 7), (⟨"HarbourPilotline", "restedBehindSlots", "(LHarbourPilotline$Pilot;)I"⟩, 7)]
theorem lw_r1 : ∀ q ∈ lw_privs_1, lw_okq q := List.forall_mem_cons.mpr ⟨lw_p0, List.forall_mem_cons.mpr ⟨lw_p1, List.forall_mem_cons.mpr ⟨lw_p2, List.forall_mem_cons.mpr ⟨lw_p3, List.forall_mem_cons.mpr ⟨lw_p4, List.forall_mem_cons.mpr ⟨lw_p5, List.forall_mem_cons.mpr ⟨lw_p6, List.forall_mem_cons.mpr ⟨lw_p7, List.forall_mem_cons.mpr ⟨lw_p8, List.forall_mem_cons.mpr ⟨lw_p9, List.forall_mem_cons.mpr ⟨lw_p10, List.forall_mem_cons.mpr ⟨lw_p11, List.forall_mem_cons.mpr ⟨lw_p12, List.forall_mem_cons.mpr ⟨lw_p13, List.forall_mem_cons.mpr ⟨lw_p14, List.forall_mem_cons.mpr ⟨lw_p15, fun _ h => absurd h List.not_mem_nil⟩⟩⟩⟩⟩⟩⟩⟩⟩⟩⟩⟩⟩⟩⟩⟩
theorem lw_p16 : lw_okq (⟨"HarbourPilotline", "isAboard", "(LHarbourPilotline$Pilot;)Z"⟩, 7) := ⟨⟨by decide +kernel, by decide +kernel⟩, List.mem_of_getElem? (i := 23) (by decide +kernel), List.mem_of_getElem? (i := 587) (by decide +kernel), List.mem_of_getElem? (i := 588) (by decide +kernel)⟩
theorem lw_p17 : lw_okq (⟨"HarbourPilotline", "allBills", "()I"⟩, 7) := ⟨⟨by decide +kernel, by decide +kernel⟩, List.mem_of_getElem? (i := 23) (by decide +kernel), List.mem_of_getElem? (i := 598) (by decide +kernel), List.mem_of_getElem? (i := 599) (by decide +kernel)⟩
theorem lw_p18 : lw_okq (⟨"HarbourPilotline", "howManyAre", "(I)I"⟩, 7) := ⟨⟨by decide +kernel, by decide +kernel⟩, List.mem_of_getElem? (i := 23) (by decide +kernel), List.mem_of_getElem? (i := 602) (by decide +kernel), List.mem_of_getElem? (i := 603) (by decide +kernel)⟩
theorem lw_p19 : lw_okq (⟨"HarbourPilotlineModel", "isShip", "(I)Z"⟩, 22) := ⟨⟨by decide +kernel, by decide +kernel⟩, List.mem_of_getElem? (i := 606) (by decide +kernel), List.mem_of_getElem? (i := 707) (by decide +kernel), List.mem_of_getElem? (i := 708) (by decide +kernel)⟩
theorem lw_p20 : lw_okq (⟨"HarbourPilotlineModel", "isConference", "(I)Z"⟩, 22) := ⟨⟨by decide +kernel, by decide +kernel⟩, List.mem_of_getElem? (i := 606) (by decide +kernel), List.mem_of_getElem? (i := 715) (by decide +kernel), List.mem_of_getElem? (i := 716) (by decide +kernel)⟩
theorem lw_p21 : lw_okq (⟨"HarbourPilotlineModel", "isPilot", "(I)Z"⟩, 22) := ⟨⟨by decide +kernel, by decide +kernel⟩, List.mem_of_getElem? (i := 606) (by decide +kernel), List.mem_of_getElem? (i := 719) (by decide +kernel), List.mem_of_getElem? (i := 720) (by decide +kernel)⟩
theorem lw_p22 : lw_okq (⟨"HarbourPilotlineModel", "isIn", "(II)Z"⟩, 22) := ⟨⟨by decide +kernel, by decide +kernel⟩, List.mem_of_getElem? (i := 606) (by decide +kernel), List.mem_of_getElem? (i := 723) (by decide +kernel), List.mem_of_getElem? (i := 724) (by decide +kernel)⟩
theorem lw_p23 : lw_okq (⟨"HarbourPilotlineModel", "looks", "(I)V"⟩, 22) := ⟨⟨by decide +kernel, by decide +kernel⟩, List.mem_of_getElem? (i := 606) (by decide +kernel), List.mem_of_getElem? (i := 727) (by decide +kernel), List.mem_of_getElem? (i := 728) (by decide +kernel)⟩
theorem lw_p24 : lw_okq (⟨"HarbourPilotlineModel", "tideDoes", "(II)Z"⟩, 22) := ⟨⟨by decide +kernel, by decide +kernel⟩, List.mem_of_getElem? (i := 606) (by decide +kernel), List.mem_of_getElem? (i := 731) (by decide +kernel), List.mem_of_getElem? (i := 732) (by decide +kernel)⟩
theorem lw_p25 : lw_okq (⟨"HarbourPilotlineModel", "levelAt", "(I)I"⟩, 22) := ⟨⟨by decide +kernel, by decide +kernel⟩, List.mem_of_getElem? (i := 606) (by decide +kernel), List.mem_of_getElem? (i := 735) (by decide +kernel), List.mem_of_getElem? (i := 736) (by decide +kernel)⟩
theorem lw_p26 : lw_okq (⟨"HarbourPilotlineModel", "channelDoes", "(II)Z"⟩, 22) := ⟨⟨by decide +kernel, by decide +kernel⟩, List.mem_of_getElem? (i := 606) (by decide +kernel), List.mem_of_getElem? (i := 739) (by decide +kernel), List.mem_of_getElem? (i := 740) (by decide +kernel)⟩
theorem lw_p27 : lw_okq (⟨"HarbourPilotlineModel", "hasSlot", "(I)Z"⟩, 22) := ⟨⟨by decide +kernel, by decide +kernel⟩, List.mem_of_getElem? (i := 606) (by decide +kernel), List.mem_of_getElem? (i := 743) (by decide +kernel), List.mem_of_getElem? (i := 744) (by decide +kernel)⟩
theorem lw_p28 : lw_okq (⟨"HarbourPilotlineModel", "pilotDoes", "(II)Z"⟩, 22) := ⟨⟨by decide +kernel, by decide +kernel⟩, List.mem_of_getElem? (i := 606) (by decide +kernel), List.mem_of_getElem? (i := 747) (by decide +kernel), List.mem_of_getElem? (i := 748) (by decide +kernel)⟩
theorem lw_p29 : lw_okq (⟨"HarbourPilotlineModel", "over", "(I)I"⟩, 22) := ⟨⟨by decide +kernel, by decide +kernel⟩, List.mem_of_getElem? (i := 606) (by decide +kernel), List.mem_of_getElem? (i := 751) (by decide +kernel), List.mem_of_getElem? (i := 752) (by decide +kernel)⟩
theorem lw_p30 : lw_okq (⟨"HarbourPilotlineModel", "tugsDo", "(II)Z"⟩, 22) := ⟨⟨by decide +kernel, by decide +kernel⟩, List.mem_of_getElem? (i := 606) (by decide +kernel), List.mem_of_getElem? (i := 758) (by decide +kernel), List.mem_of_getElem? (i := 759) (by decide +kernel)⟩
theorem lw_p31 : lw_okq (⟨"HarbourPilotlineModel", "tugsIn", "(II)I"⟩, 22) := ⟨⟨by decide +kernel, by decide +kernel⟩, List.mem_of_getElem? (i := 606) (by decide +kernel), List.mem_of_getElem? (i := 762) (by decide +kernel), List.mem_of_getElem? (i := 763) (by decide +kernel)⟩
def lw_privs_2 : List (MethodName × Nat) := [(⟨"HarbourPilotline", "isAboard", "(LHarbourPilotline$Pilot;)Z"⟩, 7), (⟨"HarbourPilotline", "allBills", "()I"⟩, 7), (⟨"HarbourPilotline", "howManyAre", "(I)I"⟩, 7), (⟨"HarbourPilotlineModel", "isShip", "(I)Z"⟩, 22), (⟨"HarbourPilotlineModel", "isConference", "(I)Z"⟩, 22), (⟨"HarbourPilotlineModel", "isPilot", "(I)Z"⟩, 22), (⟨"HarbourPilotlineModel", "isIn", "(II)Z"⟩, 22), (⟨"HarbourPilotlineModel", "looks", "(I)V"⟩, 22), (⟨"HarbourPilotlineModel", "tideDoes", "(II)Z"⟩, 22), (⟨"HarbourPilotlineModel", "levelAt", "(I)I"⟩, 22), (⟨"HarbourPilotlineModel", "channelDoes", "(II)Z"⟩, 22), (⟨"HarbourPilotlineModel", "hasSlot", "(I)Z"⟩, 22), (⟨"HarbourPilotlineModel", "pilotDoes", "(II)Z"⟩, 22), (⟨"HarbourPilotlineModel", "over", "(I)I"⟩, 22), (⟨"HarbourPilotlineModel", "tugsDo", "(II)Z"⟩, 22), (⟨"HarbourPilotlineModel", "tugsIn", "(II)I"⟩, 22)]
theorem lw_r2 : ∀ q ∈ lw_privs_2, lw_okq q := List.forall_mem_cons.mpr ⟨lw_p16, List.forall_mem_cons.mpr ⟨lw_p17, List.forall_mem_cons.mpr ⟨lw_p18, List.forall_mem_cons.mpr ⟨lw_p19, List.forall_mem_cons.mpr ⟨lw_p20, List.forall_mem_cons.mpr ⟨lw_p21, List.forall_mem_cons.mpr ⟨lw_p22, List.forall_mem_cons.mpr ⟨lw_p23, List.forall_mem_cons.mpr ⟨lw_p24, List.forall_mem_cons.mpr ⟨lw_p25, List.forall_mem_cons.mpr ⟨lw_p26, List.forall_mem_cons.mpr ⟨lw_p27, List.forall_mem_cons.mpr ⟨lw_p28, List.forall_mem_cons.mpr ⟨lw_p29, List.forall_mem_cons.mpr ⟨lw_p30, List.forall_mem_cons.mpr ⟨lw_p31, fun _ h => absurd h List.not_mem_nil⟩⟩⟩⟩⟩⟩⟩⟩⟩⟩⟩⟩⟩⟩⟩⟩
theorem lw_p32 : lw_okq (⟨"HarbourPilotlineModel", "looksAnew", "(I)Z"⟩, 22) := ⟨⟨by decide +kernel, by decide +kernel⟩, List.mem_of_getElem? (i := 606) (by decide +kernel), List.mem_of_getElem? (i := 774) (by decide +kernel), List.mem_of_getElem? (i := 775) (by decide +kernel)⟩
theorem lw_p33 : lw_okq (⟨"HarbourPilotlineModel", "passesOne", "()I"⟩, 22) := ⟨⟨by decide +kernel, by decide +kernel⟩, List.mem_of_getElem? (i := 606) (by decide +kernel), List.mem_of_getElem? (i := 782) (by decide +kernel), List.mem_of_getElem? (i := 783) (by decide +kernel)⟩
theorem lw_p34 : lw_okq (⟨"HarbourPilotlineModel", "billOf", "(I)I"⟩, 22) := ⟨⟨by decide +kernel, by decide +kernel⟩, List.mem_of_getElem? (i := 606) (by decide +kernel), List.mem_of_getElem? (i := 786) (by decide +kernel), List.mem_of_getElem? (i := 787) (by decide +kernel)⟩
theorem lw_p35 : lw_okq (⟨"HarbourPilotlineModel", "bills", "()I"⟩, 22) := ⟨⟨by decide +kernel, by decide +kernel⟩, List.mem_of_getElem? (i := 606) (by decide +kernel), List.mem_of_getElem? (i := 834) (by decide +kernel), List.mem_of_getElem? (i := 835) (by decide +kernel)⟩
def lw_privs_3 : List (MethodName × Nat) := [(⟨"HarbourPilotlineModel", "looksAnew", "(I)Z"⟩, 22), (⟨"HarbourPilotlineModel", "passesOne", "()I"⟩, 22), (⟨"HarbourPilotlineModel", "billOf", "(I)I"⟩, 22), (⟨"HarbourPilotlineModel", "bills", "()I"⟩, 22)]
theorem lw_r3 : ∀ q ∈ lw_privs_3, lw_okq q := List.forall_mem_cons.mpr ⟨lw_p32, List.forall_mem_cons.mpr ⟨lw_p33, List.forall_mem_cons.mpr ⟨lw_p34, List.forall_mem_cons.mpr ⟨lw_p35, fun _ h => absurd h List.not_mem_nil⟩⟩⟩⟩
def lw_privs : List (MethodName × Nat) := lw_privs_1 ++ (lw_privs_2 ++ (lw_privs_3))
def lw_tbl : List Cond := k2_sels lw_privs ++ tables_1
theorem lw_privs_ok : ∀ q ∈ lw_privs, lw_okq q := by
  show ∀ q ∈ lw_privs_1 ++ (lw_privs_2 ++ (lw_privs_3)), lw_okq q
  exact List.forall_mem_append.mpr ⟨lw_r1, List.forall_mem_append.mpr ⟨lw_r2, lw_r3⟩⟩
end
section
/-! ===== BEGIN words of one list among another's, by their places ===== -/
theorem goodIn_r {big : List Cond} (ws : List Cond) (ps : List Nat) (hp : ws = ps.filterMap (fun i => big[i]?)) (h : ws.all goodWord = true) : GoodIn big ws := by
  intro w hw
  have h1 := List.all_eq_true.mp h w hw
  rw [hp] at hw
  obtain ⟨i, -, hi⟩ := List.mem_filterMap.mp hw
  have hm : w ∈ big := by first | exact List.mem_of_getElem? hi | exact List.getElem?_mem hi
  exact ⟨hm, good_of_word h1⟩
theorem goodIn_app {big a b : List Cond} (ha : GoodIn big a) (hb : GoodIn big b) : GoodIn big (a ++ b) := fun w h => (List.mem_append.mp h).elim (ha w) (hb w)
theorem goodIn_ca {big a b : List Cond} {c : Cond} (ha : GoodIn big (c :: a)) (hb : GoodIn big b) : GoodIn big (c :: (a ++ b)) := fun w h => (List.mem_cons.mp h).elim (fun e => ha w (List.mem_cons.mpr (Or.inl e))) (fun h => (List.mem_append.mp h).elim (fun h => ha w (List.mem_cons.mpr (Or.inr h))) (hb w))
theorem goodIn_sub {big ws : List Cond} (hm : ∀ w ∈ ws, w ∈ big) (h : ws.all goodWord = true) : GoodIn big ws := fun w hw => ⟨hm w hw, good_of_word (List.all_eq_true.mp h w hw)⟩
/-! ===== END ===== -/

/-! ===== BEGIN exceptions that leave a method, and their catching by the caller (launches without stack traces) ===== -/
section VXA
/-! The laws vx_back, vx_callV, vx_callS, vx_callSW, vx_throw0, vx_throwS follow proofs of the library, with one case more: JvmDerived/Free/Laws.lean (Back.of_free), Shelf42/LK1.lean (callV, callS), Shelf/KitTraced.lean (throwNew0V, throwNewS). -/
/-- where a method has thrown q: the class by its name, the cell, what was written, the world -/
def vx_T (XC : String → State → State → Prop) (st : State) (q : Addr) (t : State) (mc ms : Nat) (free : Addr → Prop) : Prop :=
  ∃ (E : String) (ce : Cell) (L : List Loc), XC E st t ∧ t.heap[q]? = some ce ∧ ce.vm = .none ∧ st.vm.findClass E = some ce.cls ∧ st.WarmedH t.vm ∧ st.sameButNew ({ t with vm := st.vm } : State) L mc ms ∧ ∀ z ∈ L, free z.base
def vx_Q (Qc : Array Value → State → Outcome → State → Prop) (XC : String → State → State → Prop) (mc ms : Nat) (free : Addr → Prop) : Array Value → State → Outcome → State → Prop := fun a st o t =>
  (Qc a st o t ∧ ∃ L, FrameEnd st o t L mc ms ∧ ∀ q ∈ L, free q.base) ∨ ∃ q, o = .threw q ∧ vx_T XC st q t mc ms free
/-- a callee that returns or throws -/
def vx_Met (l : Launch) (y : MethodName) (ws : List Cond) (rm : Room) (Pc : Array Value → State → Prop) (Qc : Array Value → State → Outcome → State → Prop) (XC : String → State → State → Prop) (mc ms : Nat) (free : Addr → Prop) : Prop :=
  MetFree l y (headSpec ws rm) Pc (fun _ _ _ _ _ => True) (vx_Q Qc XC mc ms free)
def vx_Post (XC : String → State → State → Prop) (mc ms : Nat) (free : Addr → Prop) : Pt → Array Value → Addr → Pt → Prop := fun A a q B =>
  ∃ (g : JFrame) (mk : MethodId) (t : State) (L : List Loc) (E : String) (ce : Cell), B.U.heap = t.heap ∧ B.U.vm = t.vm ∧ XC E (A.U.calling g mk a) t ∧ t.heap[q]? = some ce ∧ ce.vm = .none ∧ A.U.vm.findClass E = some ce.cls ∧ B.locs = A.locs ++ L ∧ (∀ z ∈ L, free z.base) ∧ B.cells = A.cells + mc ∧ B.slots = A.slots + ms
def vx_Back (l : Launch) (R : Room) (p : Program) (e : Env) (below : List Frame) (s : State) (sargs : Array Value) (y : MethodName) (len W9 : Nat)
    (Pre : Pt → Array Value → Prop) (Post : Pt → Array Value → Option Value → Pt → Prop) (PostX : Pt → Array Value → Addr → Pt → Prop) : Prop :=
  ∀ (m : MethodId) (meth : Method) (c : Code) (A : Pt) (g : JFrame) (ig : Instr) (mk : MethodId) (a : Array Value),
    Stand p l e R s m sargs below meth c A.U A.locs A.cells A.slots → g.method = m → g.locals.size = c.maxLocals → decode c.code g.pc = .ok (ig, len) →
    2 * g.monitorRoom + (g.stack.map fun v => v.category).sum ≤ W9 → A.U.methodNamed? y = some mk → Pre A a →
    (∃ (v : Option Value) (B : Pt), Stand p l e R s m sargs below meth c B.U B.locs B.cells B.slots ∧ Post A a v B ∧
      Steps p.tables e below (doInvoke e (A.U.setTop g) [] mk a).1 (B.U.setTop { g with pc := g.pc + len, stack := v.toList ++ g.stack })) ∨
    (∃ (q : Addr) (B : Pt), Stand p l e R s m sargs below meth c B.U B.locs B.cells B.slots ∧ PostX A a q B ∧
      Steps p.tables e below (doInvoke e (A.U.setTop g) [] mk a).1 ((B.U.setTop g).pushFrame (.throwing q)))
section Payer
variable {l : Launch} {R : Room} {p : Program} {e : Env} {below : List Frame} {s : State} {sargs : Array Value} {y : MethodName} {len W9 : Nat}
theorem vx_back {ws : List Cond} {rm : Room} {Pc : Array Value → State → Prop} {Qc : Array Value → State → Outcome → State → Prop} {XC : String → State → State → Prop} {mc ms : Nat} {free : Addr → Prop} {bytes : ByteArray} {maxL : Nat} {ret : Option FieldType}
    (hM : vx_Met l y ws rm Pc Qc XC mc ms free) (hblind : FrameBlind Pc) (hrc : rm.cells = mc) (hrs : rm.slots = ms)
    (hframes : rm.frames + 1 ≤ R.frames) (hlocals : W9 + (maxL + 11) + rm.locals ≤ R.locals)
    (hws : ∀ w ∈ ws, ∀ a' U, s.WarmedH U.vm → w.before a' U = true) (hcode : Cond.code y bytes maxL ret ∈ ws) (hinit : ∀ a' U, s.WarmedH U.vm → (Cond.initialized y.cls).before a' U = true) :
    vx_Back l R p e below s sargs y len W9 (PreOf R mc ms Pc) (PostOf Qc mc ms free) (vx_Post XC mc ms free) := by
  intro m meth c A g ig mk a X hg hsize hdg hW hn hp
  have h1 : (headSpec ws rm).pre.before a A.U = true := atoms_intro fun w hw => hws w hw _ _ X.warmed
  have h2 : (Cond.code y bytes maxL ret).before a A.U = true := hws _ hcode _ _ X.warmed
  have h3 : (Cond.initialized y.cls).before a A.U = true := hinit _ _ X.warmed
  have h4 : A.cells + (headSpec ws rm).room.cells ≤ R.cells := by rw [show (headSpec ws rm).room.cells = mc from hrc]; exact hp.1
  have h5 : A.slots + (headSpec ws rm).room.slots ≤ R.slots := by rw [show (headSpec ws rm).room.slots = ms from hrs]; exact hp.2.1
  have hPc : Pc a (A.U.calling g mk a) := hblind _ _ _ _ hp.2.2
  obtain ⟨U, Ls, c0, s0⟩ := A
  dsimp only [Pt.U, Pt.locs, Pt.cells, Pt.slots] at h1 h2 h3 h4 h5 X hn hPc ⊢
  obtain ⟨methY, cY, hmY, hcY, -, hlY, -, -, -, -⟩ := Cond.code_spec hn h2
  obtain ⟨kY, hkY, -⟩ := className_of_methodNamed hn
  have hinitY : kY.init = .initialized := Cond.initialized_spec (findClass_of_methodNamed hn) hkY h3
  have h : At U g.method c below := by rw [hg]; exact X.here
  have hlocals9 : W9 + (maxL + 11) + (headSpec ws rm).room.locals ≤ R.locals := hlocals
  have happ : (headSpec ws rm).appliesLoose y e.platform (U.calling g mk a) = true :=
    Spec.appliesLoose_calling (g := g) h hdg hn hkY hinitY
      (X.room_calling (g := g) (R' := (headSpec ws rm).room) hsize hmY hcY hframes (by rw [hlY]; omega) h4 h5) h1
  obtain ⟨mid, hmid⟩ := h.above
  have hfr : (U.setTop g).frames = (.java g :: mid) ++ below := by rw [State.frames_setTop' g h.top, hmid]; rfl
  obtain ⟨o, s₂, hsteps, -, hend, hq⟩ := Steps.callFree hM p X.admits X.cas X.clock (acts := []) hfr happ hPc trivial
  have hq' : vx_Q Qc XC mc ms free a (U.calling g mk a) o s₂ := hq
  rw [State.frames_setTop' g h.top] at hend
  obtain ⟨g₀, hg0⟩ := Option.isSome_iff_exists.mp h.top
  obtain ⟨r, hr⟩ := State.topJava?_eq_some.mp hg0
  have hr' : (({ U with heap := s₂.heap, slotsUsed := s₂.slotsUsed } : State).setVm s₂.vm).frames = .java g₀ :: r := hr
  rcases hq' with ⟨hqc, L, hfe, hL⟩ | ⟨q, rfl, E, ce, L, hx, hce, hcv, hcl, hW₂, hsm, hL⟩
  · obtain ⟨⟨v, rfl⟩, hW₂, e2, q2, q3, q4, q5, q6⟩ := id hfe
    have e3 : s₂ = ({ (U.calling g mk a).setFrames s₂.frames with heap := s₂.heap, slotsUsed := s₂.slotsUsed } : State).setVm s₂.vm := by
      have : s₂ = ({ s₂ with vm := (U.calling g mk a).vm } : State).setVm s₂.vm := rfl
      rw [e2] at this
      exact this
    obtain ⟨c₂, i₂, len₂, hc₂, hd₂, hf₂⟩ := hend
    have hW' : U.WarmedH s₂.vm := hW₂
    have hcc : c₂ = c := by
      have h1 : s₂.code? g.method = U.code? g.method := by
        rw [State.code?_eq, State.code?_eq, hW'.alike.method?]
      exact Option.some.inj (hc₂.symm.trans (h1.trans h.code))
    subst hcc
    have hlen : len₂ = len := by rw [hdg] at hd₂; cases hd₂; rfl
    subst hlen
    have hs₂ : s₂ = (({ U with heap := s₂.heap, slotsUsed := s₂.slotsUsed } : State).setVm s₂.vm).setTop { g with pc := g.pc + len₂, stack := v.toList ++ g.stack } := by
      refine e3.trans ?_
      rw [hf₂, State.calling_eq h.top, State.setFrames_setFrames, State.setTop_of_frames _ hr', hr]
      rfl
    have hsame : U.sameButNew ({ U with heap := s₂.heap, slotsUsed := s₂.slotsUsed } : State) L mc ms := by
      refine ⟨?_, q2, q3, q4, q5, q6⟩
      obtain ⟨t, ht, -⟩ := State.frames_cons hr
      show ({ U with heap := s₂.heap, slotsUsed := s₂.slotsUsed } : State) = { U.setFrames U.frames with heap := s₂.heap, slotsUsed := s₂.slotsUsed }
      rw [State.setFrames_self ht]
    subst hg
    refine Or.inl ⟨v, ⟨(({ U with heap := s₂.heap, slotsUsed := s₂.slotsUsed } : State).setVm s₂.vm), Ls ++ L, c0 + mc, s0 + ms⟩,
      ⟨X.admits, X.cas, X.clock, X.frames, X.room, X.hears, X.method, X.code, (X.here.setHeapUsed s₂.heap s₂.slotsUsed).setVm hW'.alike, X.tail, State.WarmedH.trans X.warmed hW', X.limits, X.bytes, X.same.trans (hsame.setVm s.vm)⟩,
      ⟨g, mk, s₂, L, rfl, rfl, hqc, rfl, hL, rfl, rfl⟩, ?_⟩
    show Steps p.tables e below _ ((({ U with heap := s₂.heap, slotsUsed := s₂.slotsUsed } : State).setVm s₂.vm).setTop { g with pc := g.pc + len₂, stack := v.toList ++ g.stack })
    rw [← hs₂]
    exact hsteps
  · obtain ⟨e2, q2, q3, q4, q5, q6⟩ := id hsm
    have e3 : s₂ = ({ (U.calling g mk a).setFrames s₂.frames with heap := s₂.heap, slotsUsed := s₂.slotsUsed } : State).setVm s₂.vm := by
      have : s₂ = ({ s₂ with vm := (U.calling g mk a).vm } : State).setVm s₂.vm := rfl
      rw [e2] at this
      exact this
    have hf₂ : s₂.frames = .throwing q :: .java g :: U.frames.tail := hend
    have hW' : U.WarmedH s₂.vm := hW₂
    have hs₂ : s₂ = ((({ U with heap := s₂.heap, slotsUsed := s₂.slotsUsed } : State).setVm s₂.vm).setTop g).pushFrame (.throwing q) := by
      refine e3.trans ?_
      rw [hf₂, State.calling_eq h.top, State.setFrames_setFrames, State.pushFrame, State.frames_setTop _ hr', State.setTop_of_frames _ hr', State.setFrames_setFrames, hr]
      rfl
    have hsame : U.sameButNew ({ U with heap := s₂.heap, slotsUsed := s₂.slotsUsed } : State) L mc ms := by
      refine ⟨?_, q2, q3, q4, q5, q6⟩
      obtain ⟨t, ht, -⟩ := State.frames_cons hr
      show ({ U with heap := s₂.heap, slotsUsed := s₂.slotsUsed } : State) = { U.setFrames U.frames with heap := s₂.heap, slotsUsed := s₂.slotsUsed }
      rw [State.setFrames_self ht]
    subst hg
    refine Or.inr ⟨q, ⟨(({ U with heap := s₂.heap, slotsUsed := s₂.slotsUsed } : State).setVm s₂.vm), Ls ++ L, c0 + mc, s0 + ms⟩,
      ⟨X.admits, X.cas, X.clock, X.frames, X.room, X.hears, X.method, X.code, (X.here.setHeapUsed s₂.heap s₂.slotsUsed).setVm hW'.alike, X.tail, State.WarmedH.trans X.warmed hW', X.limits, X.bytes, X.same.trans (hsame.setVm s.vm)⟩,
      ⟨g, mk, s₂, L, E, ce, rfl, rfl, hx, hce, hcv, hcl, rfl, hL, rfl, rfl⟩, ?_⟩
    show Steps p.tables e below _ (((({ U with heap := s₂.heap, slotsUsed := s₂.slotsUsed } : State).setVm s₂.vm).setTop g).pushFrame (.throwing q))
    rw [← hs₂]
    exact hsteps
end Payer
section Calls
variable {p : Program} {l : Launch} {e : Env} {R : Room} {s : State} {m : MethodId} {args : Array Value} {below : List Frame} {meth : Method} {c : Code} {T : State} {locs : List Loc} {cells slots : Nat}
theorem vx_callV (X : Stand p l e R s m args below meth c T locs cells slots) (hexec : p.tables.exec = Jvm.exec) {own C : String} {index : Nat} {y : MethodName} {bytes : ByteArray} {maxL : Nat} {ret : Option FieldType}
    (hown : s.vm.findClass own = some m.cls) (hlink : (Cond.methodLink own index y).before args s = true) (hinst : (Cond.instanceMethod y).before args s = true) (hsel : (Cond.selects C y y).before args s = true)
    (hcode : (Cond.code y bytes maxL ret).before args s = true) (hy : y.cls ≠ "java/lang/invoke/MethodHandle" ∧ y.cls ≠ "java/lang/invoke/VarHandle")
    {W9 : Nat} {Pre : Pt → Array Value → Prop} {Post : Pt → Array Value → Option Value → Pt → Prop} {PostX : Pt → Array Value → Addr → Pt → Prop} (hK : vx_Back l R p e below s args y 3 W9 Pre Post PostX)
    {b : Addr} {cellB : Cell} (hcell : T.heap[b]? = some cellB) (hobj : cellB.vm.isStatics = false) (hcls : s.vm.findClass C = some cellB.cls)
    {g : JFrame} (hg : g.method = m) (hsize : g.locals.size = c.maxLocals) {argsL rest : List Value} (hlen : ∀ sig, parseMethodDescriptor y.desc = some sig → argsL.length = sig.parameters.length)
    (hstack : g.stack = argsL.reverse ++ .ref b :: rest) (hW : 2 * g.monitorRoom + (rest.map fun v => v.category).sum ≤ W9) (hdg : decode c.code g.pc = .ok (.invokevirtual index, 3))
    (hpre : ∀ vm₁, s.WarmedH vm₁ → Pre ⟨T.setVm vm₁, locs, cells, slots⟩ (Value.ref b :: argsL).toArray) :
    (∃ (v : Option Value) (vm₁ : Vm) (B : Pt), s.WarmedH vm₁ ∧ Stand p l e R s m args below meth c B.U B.locs B.cells B.slots ∧ Post ⟨T.setVm vm₁, locs, cells, slots⟩ (Value.ref b :: argsL).toArray v B ∧
      ∀ target, Steps p.tables e below (B.U.setTop { g with pc := g.pc + 3, stack := v.toList ++ rest }) target → Steps p.tables e below (T.setTop g) target) ∨
    (∃ (q : Addr) (vm₁ : Vm) (B : Pt), s.WarmedH vm₁ ∧ Stand p l e R s m args below meth c B.U B.locs B.cells B.slots ∧ PostX ⟨T.setVm vm₁, locs, cells, slots⟩ (Value.ref b :: argsL).toArray q B ∧
      Steps p.tables e below (T.setTop g) ((B.U.setTop { g with stack := rest }).pushFrame (.throwing q))) := by
  obtain ⟨mk, methM, hnamed, hmethM, hstM, habM⟩ := Cond.instanceMethod_spec hinst
  obtain ⟨methM', cM, hmethM', -, -, -, -, -, -, hsigM⟩ := Cond.code_spec hnamed hcode
  cases hmethM.symm.trans hmethM'
  obtain ⟨c2, r2, m2, q1, q2, q3, q4, kP, hkP, hkPi⟩ := Cond.selects_spec hsel
  cases hcls.symm.trans q1
  cases (State.methodFound?_of_named hnamed hy).symm.trans q2
  cases hnamed.symm.trans q3
  have hselP : selectMethod e.platform s.vm cellB.cls mk = .method mk := by rw [Launch.admits_selectMethod X.admits]; exact q4
  obtain ⟨vm₁, X₁, hstep₁⟩ := X.invokevirtual hexec hown hlink hnamed hmethM hstM hkP hkPi hy (a := b) (cell := cellB) hcell
    (fun z h => by rw [h] at hobj; cases hobj) hselP hmethM habM hkP hkPi (g := g) hg (argsL := argsL) (rest := rest) (hlen _ hsigM) hstack hdg
  rcases hK m meth c ⟨T.setVm vm₁, locs, cells, slots⟩ { g with stack := rest } (.invokevirtual index) mk (Value.ref b :: argsL).toArray X₁ hg hsize hdg hW (X₁.named hnamed) (hpre vm₁ X₁.warmed) with ⟨v, B, X', hpost, hsteps⟩ | ⟨q, B, X', hpost, hsteps⟩
  · exact Or.inl ⟨v, vm₁, B, X₁.warmed, X', hpost, fun target h => hstep₁ _ fun acts => by rw [doInvoke_state]; exact hsteps.trans h⟩
  · exact Or.inr ⟨q, vm₁, B, X₁.warmed, X', hpost, hstep₁ _ fun acts => by rw [doInvoke_state]; exact hsteps⟩
theorem vx_callS (X : Stand p l e R s m args below meth c T locs cells slots) (hexec : p.tables.exec = Jvm.exec) {own : String} {index : Nat} {y : MethodName} {bytes : ByteArray} {maxL : Nat} {ret : Option FieldType}
    (hown : s.vm.findClass own = some m.cls) (hlink : (Cond.methodLink own index y).before args s = true) (hstat : (Cond.static y).before args s = true) (hinit : (Cond.initialized y.cls).before args s = true)
    (hcode : (Cond.code y bytes maxL ret).before args s = true) (hy : y.cls ≠ "java/lang/invoke/MethodHandle" ∧ y.cls ≠ "java/lang/invoke/VarHandle")
    {W9 : Nat} {Pre : Pt → Array Value → Prop} {Post : Pt → Array Value → Option Value → Pt → Prop} {PostX : Pt → Array Value → Addr → Pt → Prop} (hK : vx_Back l R p e below s args y 3 W9 Pre Post PostX)
    {g : JFrame} (hg : g.method = m) (hsize : g.locals.size = c.maxLocals) {argsL rest : List Value} (hlen : ∀ sig, parseMethodDescriptor y.desc = some sig → argsL.length = sig.parameters.length)
    (hstack : g.stack = argsL.reverse ++ rest) (hW : 2 * g.monitorRoom + (rest.map fun v => v.category).sum ≤ W9) (hdg : decode c.code g.pc = .ok (.invokestatic index, 3))
    (hpre : ∀ vm₁, s.WarmedH vm₁ → Pre ⟨T.setVm vm₁, locs, cells, slots⟩ argsL.toArray) :
    (∃ (v : Option Value) (vm₁ : Vm) (B : Pt), s.WarmedH vm₁ ∧ Stand p l e R s m args below meth c B.U B.locs B.cells B.slots ∧ Post ⟨T.setVm vm₁, locs, cells, slots⟩ argsL.toArray v B ∧
      ∀ target, Steps p.tables e below (B.U.setTop { g with pc := g.pc + 3, stack := v.toList ++ rest }) target → Steps p.tables e below (T.setTop g) target) ∨
    (∃ (q : Addr) (vm₁ : Vm) (B : Pt), s.WarmedH vm₁ ∧ Stand p l e R s m args below meth c B.U B.locs B.cells B.slots ∧ PostX ⟨T.setVm vm₁, locs, cells, slots⟩ argsL.toArray q B ∧
      Steps p.tables e below (T.setTop g) ((B.U.setTop { g with stack := rest }).pushFrame (.throwing q))) := by
  obtain ⟨mk, hnamed⟩ := Cond.code_named hcode
  obtain ⟨methM, cM, hmethM, -, -, -, -, -, -, hsigM⟩ := Cond.code_spec hnamed hcode
  have hstatic : methM.isStatic = true := Cond.static_spec hnamed hmethM hstat
  obtain ⟨kP, hkP, -⟩ := className_of_methodNamed hnamed
  have hinitP : kP.init = .initialized := Cond.initialized_spec (findClass_of_methodNamed hnamed) hkP hinit
  obtain ⟨vm₁, X₁, hstep₁⟩ := X.invokestatic hexec hown hlink hnamed hmethM hstatic hkP hinitP hy (g := g) hg (argsL := argsL) (rest := rest) (hlen _ hsigM) hstack hdg
  rcases hK m meth c ⟨T.setVm vm₁, locs, cells, slots⟩ { g with stack := rest } (.invokestatic index) mk argsL.toArray X₁ hg hsize hdg hW (X₁.named hnamed) (hpre vm₁ X₁.warmed) with ⟨v, B, X', hpost, hsteps⟩ | ⟨q, B, X', hpost, hsteps⟩
  · exact Or.inl ⟨v, vm₁, B, X₁.warmed, X', hpost, fun target h => hstep₁ _ fun acts => by rw [doInvoke_state]; exact hsteps.trans h⟩
  · exact Or.inr ⟨q, vm₁, B, X₁.warmed, X', hpost, hstep₁ _ fun acts => by rw [doInvoke_state]; exact hsteps⟩
end Calls
theorem vx_cls {s : State} {T : State} {vm₁ : Vm} {E : String} {k : ClassId} (hW : s.WarmedH vm₁) (h : (T.setVm vm₁).vm.findClass E = some k) : s.vm.findClass E = some k := by
  have h1 : vm₁.findClass E = some k := h
  rw [hW.alike.findClass] at h1
  exact h1
/-- the method's frame g, with q thrown over it -/
def vx_W (p : Program) (l : Launch) (e : Env) (R : Room) (s : State) (m : MethodId) (args : Array Value) (below : List Frame) (meth : Method) (c : Code) (H : Heap) (locs : List Loc) (cells slots : Nat) (Q : State → Prop) (g : JFrame) (q : Addr) : Prop :=
  ∀ T : State, T.heap = H → Stand p l e R s m args below meth c T locs cells slots → ∃ t, Steps p.tables e below ((T.setTop g).pushFrame (.throwing q)) t ∧ Q t
def vx_Run (p : Program) (l : Launch) (e : Env) (R : Room) (s : State) (m : MethodId) (args : Array Value) (below : List Frame) (meth : Method) (c : Code) (H : Heap) (locs : List Loc) (cells slots mc ms : Nat) (g : JFrame) (rest : List Value) (Qa : State → Outcome → State → Prop) (XC : String → State → State → Prop) (free : Addr → Prop) : Prop :=
  ∀ T : State, T.heap = H → Stand p l e R s m args below meth c T locs cells slots →
    (∃ (v : Option Value) (st₀ t T' : State) (L : List Loc), st₀.heap = H ∧ Stand p l e R s m args below meth c T' (locs ++ L) (cells + mc) (slots + ms) ∧ (∀ q ∈ L, free q.base) ∧ T'.heap = t.heap ∧ T'.vm = t.vm ∧ Qa st₀ (.returned v) t ∧
      Goes p e below T g T' { g with pc := g.pc + 3, stack := v.toList ++ rest }) ∨
    (∃ (q : Addr) (st₀ t T' : State) (L : List Loc) (E : String) (ce : Cell), st₀.heap = H ∧ Stand p l e R s m args below meth c T' (locs ++ L) (cells + mc) (slots + ms) ∧ (∀ z ∈ L, free z.base) ∧ T'.heap = t.heap ∧ T'.vm = t.vm ∧ XC E st₀ t ∧ t.heap[q]? = some ce ∧ ce.vm = .none ∧ s.vm.findClass E = some ce.cls ∧
      Steps p.tables e below (T.setTop g) ((T'.setTop { g with stack := rest }).pushFrame (.throwing q)))
def vx_X {S : Type} (px : S → Prop) (B : String → S → State → Prop) (A : Nat → Prop) : String → State → State → Prop := fun E st t => ∃ u : S, px u ∧ B E u t ∧ va_F A st t
section Runs
variable {p : Program} {l : Launch} {e : Env} {R : Room} {s : State} {m : MethodId} {args : Array Value} {below : List Frame} {meth : Method} {c : Code} {H : Heap} {locs : List Loc} {cells slots : Nat}
variable {y : MethodName} {bytes cc : ByteArray} {maxL nL mc ms n index : Nat} {ret : Option FieldType} {ws : List Cond} {rm : Room} {Pc : Array Value → State → Prop} {Qc : Array Value → State → Outcome → State → Prop} {XC : String → State → State → Prop} {free : Addr → Prop} {Ts : List Cond} {own C : String} {b : Addr} {As rest : List Value} {g : JFrame}
theorem vx_callBack (cb : CallB R s args own index y bytes maxL ret ws rm mc ms n) (hM : vx_Met l y ws rm Pc Qc XC mc ms free) (hbl : FrameBlind Pc) : vx_Back l R p e below s args y 3 8 (PreOf R mc ms Pc) (PostOf Qc mc ms free) (vx_Post XC mc ms free) := by
  obtain ⟨hrc, hrs, hfr, hlo, hws, hcw, -, hini, -⟩ := cb
  exact vx_back (bytes := bytes) (maxL := maxL) (ret := ret) hM hbl hrc hrs hfr hlo hws hcw (fun a' U hW => word_at hW (Or.inl (by first | rfl | simp [Cond.onTables, Cond.keeps, Cond.steady])) hini)
theorem vx_runV (S : CallFix p m c cc nL s args Ts own) (hM : vx_Met l y ws rm Pc Qc XC mc ms free) (cw : CallW R s args own C index y bytes maxL ret ws rm mc ms n) (hp : PreV s H C b Pc As)
    (hg : g.method = m) (hn : As.length = n) (hsize : g.locals.size = nL) (hstack : g.stack = As.reverse ++ .ref b :: rest) (hW : 2 * g.monitorRoom + (rest.map fun v => v.category).sum ≤ 8) (hdg : decode cc g.pc = .ok (.invokevirtual index, 3)) (hf : cells + mc ≤ R.cells ∧ slots + ms ≤ R.slots) :
    vx_Run p l e R s m args below meth c H locs cells slots mc ms g rest (Qc (Value.ref b :: As).toArray) XC free := by
  have hK : vx_Back l R p e below s args y 3 8 (PreOf R mc ms Pc) (PostOf Qc mc ms free) (vx_Post XC mc ms free) := vx_callBack cw.1 hM hp.1
  obtain ⟨⟨-, -, -, -, -, -, hcode, -, hy, hlen, hl⟩, hin, hse⟩ := cw
  obtain ⟨hx, hb, hml, ho, -⟩ := S
  obtain ⟨-, ⟨cellB, hcB, hoB, hclB⟩, hPc⟩ := hp
  intro T hT X
  rcases vx_callV X hx (C := C) (bytes := bytes) (maxL := maxL) (ret := ret) ho hl hin hse hcode hy hK (by rw [hT]; exact hcB) hoB hclB hg (hsize.trans hml.symm) (argsL := As) (rest := rest) (fun sig h => hn.trans (hlen sig h)) hstack hW (by rw [hb]; exact hdg)
    (fun vm₁ hW₁ => ⟨hf.1, hf.2, hPc (T.setVm vm₁) hT hW₁⟩) with ⟨v, vm₁, ⟨U', l2, c2, s2⟩, hW₁, X', ⟨g', mk, t, L, e1, e2, hq, h1, hL, h2, h3⟩, st⟩ | ⟨q, vm₁, ⟨U', l2, c2, s2⟩, hW₁, X', ⟨g', mk, t, L, E, ce, e1, e2, hq, hce, hcv, hcl, h1, hL, h2, h3⟩, st⟩
  · dsimp only [Pt.U, Pt.locs, Pt.cells, Pt.slots] at X' e1 e2 h1 h2 h3 st
    subst h1; subst h2; subst h3
    exact Or.inl ⟨v, (T.setVm vm₁).calling g' mk (Value.ref b :: As).toArray, t, U', L, hT, X', hL, e1, e2, hq, st⟩
  · dsimp only [Pt.U, Pt.locs, Pt.cells, Pt.slots] at X' e1 e2 h1 h2 h3 st hcl
    subst h1; subst h2; subst h3
    exact Or.inr ⟨q, (T.setVm vm₁).calling g' mk (Value.ref b :: As).toArray, t, U', L, E, ce, hT, X', hL, e1, e2, hq, hce, hcv, vx_cls hW₁ hcl, st⟩
theorem vx_runS (S : CallFix p m c cc nL s args Ts own) (hM : vx_Met l y ws rm Pc Qc XC mc ms free) (cw : CallB R s args own index y bytes maxL ret ws rm mc ms n ∧ (Cond.static y).before args s = true) (hp : PreS s H Pc As)
    (hg : g.method = m) (hn : As.length = n) (hsize : g.locals.size = nL) (hstack : g.stack = As.reverse ++ rest) (hW : 2 * g.monitorRoom + (rest.map fun v => v.category).sum ≤ 8) (hdg : decode cc g.pc = .ok (.invokestatic index, 3)) (hf : cells + mc ≤ R.cells ∧ slots + ms ≤ R.slots) :
    vx_Run p l e R s m args below meth c H locs cells slots mc ms g rest (Qc As.toArray) XC free := by
  have hK : vx_Back l R p e below s args y 3 8 (PreOf R mc ms Pc) (PostOf Qc mc ms free) (vx_Post XC mc ms free) := vx_callBack cw.1 hM hp.1
  obtain ⟨⟨-, -, -, -, -, -, hcode, hini, hy, hlen, hl⟩, hstt⟩ := cw
  obtain ⟨hx, hb, hml, ho, -⟩ := S
  intro T hT X
  rcases vx_callS X hx (bytes := bytes) (maxL := maxL) (ret := ret) ho hl hstt hini hcode hy hK hg (hsize.trans hml.symm) (argsL := As) (rest := rest) (fun sig h => hn.trans (hlen sig h)) hstack hW (by rw [hb]; exact hdg)
    (fun vm₁ hW₁ => ⟨hf.1, hf.2, hp.2 (T.setVm vm₁) hT hW₁⟩) with ⟨v, vm₁, ⟨U', l2, c2, s2⟩, hW₁, X', ⟨g', mk, t, L, e1, e2, hq, h1, hL, h2, h3⟩, st⟩ | ⟨q, vm₁, ⟨U', l2, c2, s2⟩, hW₁, X', ⟨g', mk, t, L, E, ce, e1, e2, hq, hce, hcv, hcl, h1, hL, h2, h3⟩, st⟩
  · dsimp only [Pt.U, Pt.locs, Pt.cells, Pt.slots] at X' e1 e2 h1 h2 h3 st
    subst h1; subst h2; subst h3
    exact Or.inl ⟨v, (T.setVm vm₁).calling g' mk As.toArray, t, U', L, hT, X', hL, e1, e2, hq, st⟩
  · dsimp only [Pt.U, Pt.locs, Pt.cells, Pt.slots] at X' e1 e2 h1 h2 h3 st hcl
    subst h1; subst h2; subst h3
    exact Or.inr ⟨q, (T.setVm vm₁).calling g' mk As.toArray, t, U', L, E, ce, hT, X', hL, e1, e2, hq, hce, hcv, vx_cls hW₁ hcl, st⟩
end Runs
section Rows
variable {p : Program} {l : Launch} {e : Env} {R : Room} {s : State} {m : MethodId} {args : Array Value} {below : List Frame} {meth : Method} {c : Code} {H : Heap} {locs : List Loc} {cells slots : Nat} {Q : State → Prop}
variable {mc ms : Nat} {free : Addr → Prop} {A0 A1 : Nat → Prop} {H0 : Heap} {a : Array Value} {pc : Nat} {ls : Array Slot} {st0 rest : List Value}
theorem vx_keep {st₀ t T' : State} {L : List Loc} (h0 : st₀.heap = H) (e1 : T'.heap = t.heap) (hS : va_S A0 H0 H locs) (hA : ∀ q, q < H.size → A1 q → A0 q) (hf : ∀ q, free q → A0 q) (hL : ∀ q ∈ L, free q.base) (hF : va_F A1 st₀ t) :
    H.size ≤ T'.heap.size ∧ (∀ q : Nat, q < H.size → ¬ A1 q → T'.heap[q]? = H[q]?) ∧ va_S A0 H0 T'.heap (locs ++ L) := by
  obtain ⟨hz, hk⟩ := hF
  rw [h0] at hz hk
  exact ⟨by rw [e1]; exact hz, fun q h1 h2 => by rw [e1]; exact hk q h1 h2,
    ⟨Nat.le_trans hS.1 (by rw [e1]; exact hz), fun q h1 h2 => by rw [e1, hk q (Nat.lt_of_lt_of_le h1 hS.1) (fun z => h2 (hA q (Nat.lt_of_lt_of_le h1 hS.1) z))]; exact hS.2.1 q h1 h2, fun q hq => by
      rcases List.mem_append.mp hq with h | h
      · exact hS.2.2 q h
      · exact hf _ (hL q h)⟩⟩
theorem vx_calli {S SX : Type} {post : Int32 → S → Prop} {px : SX → Prop} {B : S → State → Prop} {BX : String → SX → State → Prop} {AX : Nat → Prop} (hr : vx_Run p l e R s m args below meth c H locs cells slots mc ms (F0 m pc ls st0) rest (va_Qi post B A1 a) (vx_X px BX AX) free) (hS : va_S A0 H0 H locs) (hA : ∀ q, q < H.size → A1 q → A0 q) (hf : ∀ q, free q → A0 q) (hAX : ∀ q, q < H.size → AX q → A0 q)
    (kx : ∀ (E : String) (ce : Cell) (q9 : Addr) (u : SX) (t : State) (H1 : Heap) (locs1 : List Loc), t.heap = H1 → s.vm.Alike t.vm → px u → BX E u t → H.size ≤ H1.size → (∀ q : Nat, q < H.size → ¬ AX q → H1[q]? = H[q]?) → va_S A0 H0 H1 locs1 → H1[q9]? = some ce → ce.vm = .none → s.vm.findClass E = some ce.cls → vx_W p l e R s m args below meth c H1 locs1 (cells + mc) (slots + ms) Q (F0 m pc ls rest) q9)
    (kk : ∀ (r : Int32) (u : S) (t : State) (H1 : Heap) (locs1 : List Loc), t.heap = H1 → s.vm.Alike t.vm → post r u → B u t → H.size ≤ H1.size → (∀ q : Nat, q < H.size → ¬ A1 q → H1[q]? = H[q]?) → va_S A0 H0 H1 locs1 → W p l e R s m args below meth c H1 locs1 (cells + mc) (slots + ms) Q (F0 m (pc + 3) ls (.int r :: rest))) : W p l e R s m args below meth c H locs cells slots Q (F0 m pc ls st0) := by
  intro T hT X
  rcases hr T hT X with ⟨v, st₀, t, T', L, h0, X', hL, e1, e2, ⟨⟨r, u, hv, hp, hb⟩, hF⟩, st⟩ | ⟨q, st₀, t, T', L, E, ce, h0, X', hL, e1, e2, ⟨u, hp, hb, hF⟩, hce, hcv, hcl, st⟩
  · cases hv
    obtain ⟨k1, k2, k3⟩ := vx_keep h0 e1 hS hA hf hL hF
    obtain ⟨t2, a1, b1⟩ := kk r u t T'.heap (locs ++ L) e1.symm (by rw [← e2]; exact X'.warmed.alike) hp hb k1 k2 k3 T' rfl X'
    exact ⟨t2, st t2 a1, b1⟩
  · obtain ⟨k1, k2, k3⟩ := vx_keep h0 e1 hS hAX hf hL hF
    obtain ⟨t2, a1, b1⟩ := kx E ce q u t T'.heap (locs ++ L) e1.symm (by rw [← e2]; exact X'.warmed.alike) hp hb k1 k2 k3 (by rw [e1]; exact hce) hcv hcl T' rfl X'
    exact ⟨t2, st.trans a1, b1⟩
theorem vx_calll {S SX : Type} {post : Int64 → S → Prop} {px : SX → Prop} {B : S → State → Prop} {BX : String → SX → State → Prop} {AX : Nat → Prop} (hr : vx_Run p l e R s m args below meth c H locs cells slots mc ms (F0 m pc ls st0) rest (va_Ql post B A1 a) (vx_X px BX AX) free) (hS : va_S A0 H0 H locs) (hA : ∀ q, q < H.size → A1 q → A0 q) (hf : ∀ q, free q → A0 q) (hAX : ∀ q, q < H.size → AX q → A0 q)
    (kx : ∀ (E : String) (ce : Cell) (q9 : Addr) (u : SX) (t : State) (H1 : Heap) (locs1 : List Loc), t.heap = H1 → s.vm.Alike t.vm → px u → BX E u t → H.size ≤ H1.size → (∀ q : Nat, q < H.size → ¬ AX q → H1[q]? = H[q]?) → va_S A0 H0 H1 locs1 → H1[q9]? = some ce → ce.vm = .none → s.vm.findClass E = some ce.cls → vx_W p l e R s m args below meth c H1 locs1 (cells + mc) (slots + ms) Q (F0 m pc ls rest) q9)
    (kk : ∀ (r : Int64) (u : S) (t : State) (H1 : Heap) (locs1 : List Loc), t.heap = H1 → s.vm.Alike t.vm → post r u → B u t → H.size ≤ H1.size → (∀ q : Nat, q < H.size → ¬ A1 q → H1[q]? = H[q]?) → va_S A0 H0 H1 locs1 → W p l e R s m args below meth c H1 locs1 (cells + mc) (slots + ms) Q (F0 m (pc + 3) ls (.long r :: rest))) : W p l e R s m args below meth c H locs cells slots Q (F0 m pc ls st0) := by
  intro T hT X
  rcases hr T hT X with ⟨v, st₀, t, T', L, h0, X', hL, e1, e2, ⟨⟨r, u, hv, hp, hb⟩, hF⟩, st⟩ | ⟨q, st₀, t, T', L, E, ce, h0, X', hL, e1, e2, ⟨u, hp, hb, hF⟩, hce, hcv, hcl, st⟩
  · cases hv
    obtain ⟨k1, k2, k3⟩ := vx_keep h0 e1 hS hA hf hL hF
    obtain ⟨t2, a1, b1⟩ := kk r u t T'.heap (locs ++ L) e1.symm (by rw [← e2]; exact X'.warmed.alike) hp hb k1 k2 k3 T' rfl X'
    exact ⟨t2, st t2 a1, b1⟩
  · obtain ⟨k1, k2, k3⟩ := vx_keep h0 e1 hS hAX hf hL hF
    obtain ⟨t2, a1, b1⟩ := kx E ce q u t T'.heap (locs ++ L) e1.symm (by rw [← e2]; exact X'.warmed.alike) hp hb k1 k2 k3 (by rw [e1]; exact hce) hcv hcl T' rfl X'
    exact ⟨t2, st.trans a1, b1⟩
theorem vx_callf {S SX : Type} {post : UInt32 → S → Prop} {px : SX → Prop} {B : S → State → Prop} {BX : String → SX → State → Prop} {AX : Nat → Prop} (hr : vx_Run p l e R s m args below meth c H locs cells slots mc ms (F0 m pc ls st0) rest (va_Qf post B A1 a) (vx_X px BX AX) free) (hS : va_S A0 H0 H locs) (hA : ∀ q, q < H.size → A1 q → A0 q) (hf : ∀ q, free q → A0 q) (hAX : ∀ q, q < H.size → AX q → A0 q)
    (kx : ∀ (E : String) (ce : Cell) (q9 : Addr) (u : SX) (t : State) (H1 : Heap) (locs1 : List Loc), t.heap = H1 → s.vm.Alike t.vm → px u → BX E u t → H.size ≤ H1.size → (∀ q : Nat, q < H.size → ¬ AX q → H1[q]? = H[q]?) → va_S A0 H0 H1 locs1 → H1[q9]? = some ce → ce.vm = .none → s.vm.findClass E = some ce.cls → vx_W p l e R s m args below meth c H1 locs1 (cells + mc) (slots + ms) Q (F0 m pc ls rest) q9)
    (kk : ∀ (r : UInt32) (u : S) (t : State) (H1 : Heap) (locs1 : List Loc), t.heap = H1 → s.vm.Alike t.vm → post r u → B u t → H.size ≤ H1.size → (∀ q : Nat, q < H.size → ¬ A1 q → H1[q]? = H[q]?) → va_S A0 H0 H1 locs1 → W p l e R s m args below meth c H1 locs1 (cells + mc) (slots + ms) Q (F0 m (pc + 3) ls (.float r :: rest))) : W p l e R s m args below meth c H locs cells slots Q (F0 m pc ls st0) := by
  intro T hT X
  rcases hr T hT X with ⟨v, st₀, t, T', L, h0, X', hL, e1, e2, ⟨⟨r, u, hv, hp, hb⟩, hF⟩, st⟩ | ⟨q, st₀, t, T', L, E, ce, h0, X', hL, e1, e2, ⟨u, hp, hb, hF⟩, hce, hcv, hcl, st⟩
  · cases hv
    obtain ⟨k1, k2, k3⟩ := vx_keep h0 e1 hS hA hf hL hF
    obtain ⟨t2, a1, b1⟩ := kk r u t T'.heap (locs ++ L) e1.symm (by rw [← e2]; exact X'.warmed.alike) hp hb k1 k2 k3 T' rfl X'
    exact ⟨t2, st t2 a1, b1⟩
  · obtain ⟨k1, k2, k3⟩ := vx_keep h0 e1 hS hAX hf hL hF
    obtain ⟨t2, a1, b1⟩ := kx E ce q u t T'.heap (locs ++ L) e1.symm (by rw [← e2]; exact X'.warmed.alike) hp hb k1 k2 k3 (by rw [e1]; exact hce) hcv hcl T' rfl X'
    exact ⟨t2, st.trans a1, b1⟩
theorem vx_calld {S SX : Type} {post : UInt64 → S → Prop} {px : SX → Prop} {B : S → State → Prop} {BX : String → SX → State → Prop} {AX : Nat → Prop} (hr : vx_Run p l e R s m args below meth c H locs cells slots mc ms (F0 m pc ls st0) rest (va_Qd post B A1 a) (vx_X px BX AX) free) (hS : va_S A0 H0 H locs) (hA : ∀ q, q < H.size → A1 q → A0 q) (hf : ∀ q, free q → A0 q) (hAX : ∀ q, q < H.size → AX q → A0 q)
    (kx : ∀ (E : String) (ce : Cell) (q9 : Addr) (u : SX) (t : State) (H1 : Heap) (locs1 : List Loc), t.heap = H1 → s.vm.Alike t.vm → px u → BX E u t → H.size ≤ H1.size → (∀ q : Nat, q < H.size → ¬ AX q → H1[q]? = H[q]?) → va_S A0 H0 H1 locs1 → H1[q9]? = some ce → ce.vm = .none → s.vm.findClass E = some ce.cls → vx_W p l e R s m args below meth c H1 locs1 (cells + mc) (slots + ms) Q (F0 m pc ls rest) q9)
    (kk : ∀ (r : UInt64) (u : S) (t : State) (H1 : Heap) (locs1 : List Loc), t.heap = H1 → s.vm.Alike t.vm → post r u → B u t → H.size ≤ H1.size → (∀ q : Nat, q < H.size → ¬ A1 q → H1[q]? = H[q]?) → va_S A0 H0 H1 locs1 → W p l e R s m args below meth c H1 locs1 (cells + mc) (slots + ms) Q (F0 m (pc + 3) ls (.double r :: rest))) : W p l e R s m args below meth c H locs cells slots Q (F0 m pc ls st0) := by
  intro T hT X
  rcases hr T hT X with ⟨v, st₀, t, T', L, h0, X', hL, e1, e2, ⟨⟨r, u, hv, hp, hb⟩, hF⟩, st⟩ | ⟨q, st₀, t, T', L, E, ce, h0, X', hL, e1, e2, ⟨u, hp, hb, hF⟩, hce, hcv, hcl, st⟩
  · cases hv
    obtain ⟨k1, k2, k3⟩ := vx_keep h0 e1 hS hA hf hL hF
    obtain ⟨t2, a1, b1⟩ := kk r u t T'.heap (locs ++ L) e1.symm (by rw [← e2]; exact X'.warmed.alike) hp hb k1 k2 k3 T' rfl X'
    exact ⟨t2, st t2 a1, b1⟩
  · obtain ⟨k1, k2, k3⟩ := vx_keep h0 e1 hS hAX hf hL hF
    obtain ⟨t2, a1, b1⟩ := kx E ce q u t T'.heap (locs ++ L) e1.symm (by rw [← e2]; exact X'.warmed.alike) hp hb k1 k2 k3 (by rw [e1]; exact hce) hcv hcl T' rfl X'
    exact ⟨t2, st.trans a1, b1⟩
theorem vx_callv {S SX : Type} {post : S → Prop} {px : SX → Prop} {B : S → State → Prop} {BX : String → SX → State → Prop} {AX : Nat → Prop} (hr : vx_Run p l e R s m args below meth c H locs cells slots mc ms (F0 m pc ls st0) rest (va_Qv post B A1 a) (vx_X px BX AX) free) (hS : va_S A0 H0 H locs) (hA : ∀ q, q < H.size → A1 q → A0 q) (hf : ∀ q, free q → A0 q) (hAX : ∀ q, q < H.size → AX q → A0 q)
    (kx : ∀ (E : String) (ce : Cell) (q9 : Addr) (u : SX) (t : State) (H1 : Heap) (locs1 : List Loc), t.heap = H1 → s.vm.Alike t.vm → px u → BX E u t → H.size ≤ H1.size → (∀ q : Nat, q < H.size → ¬ AX q → H1[q]? = H[q]?) → va_S A0 H0 H1 locs1 → H1[q9]? = some ce → ce.vm = .none → s.vm.findClass E = some ce.cls → vx_W p l e R s m args below meth c H1 locs1 (cells + mc) (slots + ms) Q (F0 m pc ls rest) q9)
    (kk : ∀ (u : S) (t : State) (H1 : Heap) (locs1 : List Loc), t.heap = H1 → s.vm.Alike t.vm → post u → B u t → H.size ≤ H1.size → (∀ q : Nat, q < H.size → ¬ A1 q → H1[q]? = H[q]?) → va_S A0 H0 H1 locs1 → W p l e R s m args below meth c H1 locs1 (cells + mc) (slots + ms) Q (F0 m (pc + 3) ls (rest))) : W p l e R s m args below meth c H locs cells slots Q (F0 m pc ls st0) := by
  intro T hT X
  rcases hr T hT X with ⟨v, st₀, t, T', L, h0, X', hL, e1, e2, ⟨⟨u, hv, hp, hb⟩, hF⟩, st⟩ | ⟨q, st₀, t, T', L, E, ce, h0, X', hL, e1, e2, ⟨u, hp, hb, hF⟩, hce, hcv, hcl, st⟩
  · cases hv
    obtain ⟨k1, k2, k3⟩ := vx_keep h0 e1 hS hA hf hL hF
    obtain ⟨t2, a1, b1⟩ := kk u t T'.heap (locs ++ L) e1.symm (by rw [← e2]; exact X'.warmed.alike) hp hb k1 k2 k3 T' rfl X'
    exact ⟨t2, st t2 a1, b1⟩
  · obtain ⟨k1, k2, k3⟩ := vx_keep h0 e1 hS hAX hf hL hF
    obtain ⟨t2, a1, b1⟩ := kx E ce q u t T'.heap (locs ++ L) e1.symm (by rw [← e2]; exact X'.warmed.alike) hp hb k1 k2 k3 (by rw [e1]; exact hce) hcv hcl T' rfl X'
    exact ⟨t2, st.trans a1, b1⟩
/-- caught by the row x of this method's table; the rows ahead don't take it -/
theorem vx_catch {own name : String} {E : String} {ce : Cell} {q : Addr} (hown : s.vm.findClass own = some m.cls) (pre : List ExceptionTableEntry) (x : ExceptionTableEntry) (suf : List ExceptionTableEntry) (hsplit : c.exceptionTable.toList = pre ++ x :: suf)
    (hpass : ∀ z ∈ pre, covers z pc = false ∨ (z.catchType ≠ 0 ∧ ∃ nm : String, (Cond.classLink own z.catchType nm).before args s = true ∧ va_Nc E nm s)) (hx : covers x pc = true) (h0 : x.catchType ≠ 0)
    (hlink : (Cond.classLink own x.catchType name).before args s = true) (hcast : (Cond.castable E name).before args s = true) (hcell : H[q]? = some ce) (hv : ce.vm = .none) (hcl : s.vm.findClass E = some ce.cls)
    (kk : W p l e R s m args below meth c H locs cells slots Q (F0 m x.handlerPc ls [.ref q])) : vx_W p l e R s m args below meth c H locs cells slots Q (F0 m pc ls rest) q := by
  intro T hT X
  have hpl : e.platform.magicAccessors = ({} : Platform).magicAccessors := by rw [X.admits.platform]
  obtain ⟨c3, c4, hc3, hc4, hasg⟩ := Cond.castable_spec hcast
  cases Option.some.inj (hc3.symm.trans hcl)
  obtain ⟨c5, hc5, hcl5⟩ := Cond.classLink_spec hown hlink e.platform hpl
  cases Option.some.inj (hc4.symm.trans hc5)
  obtain ⟨vm', X', st⟩ := X.thenCaughtThrough q (g := F0 m pc ls rest) rfl (Steps.refl _) (by rw [hT]; exact hcell) (by rw [hv]; rfl) (by obtain ⟨k9, h9, -⟩ := Vm.findClass_spec hcl; exact ⟨k9, h9⟩) pre x suf hsplit
    (fun z hz => by
      rcases hpass z hz with h | ⟨hz0, nm, hl1, hn1⟩
      · exact Or.inl h
      · obtain ⟨c6, hc6, hcl6⟩ := Cond.classLink_spec hown hl1 e.platform hpl
        obtain ⟨a8, b8, h1, h2, h3⟩ := hn1
        cases Option.some.inj (h1.symm.trans hcl)
        cases Option.some.inj (h2.symm.trans hc6)
        exact Or.inr ⟨hz0, _, hcl6, h3⟩) hx (Or.inr ⟨h0, c4, hcl5, hasg⟩)
  obtain ⟨t, a1, b1⟩ := kk (T.setVm vm') hT X'
  exact ⟨t, st.trans a1, b1⟩
end Rows
section Ends
variable {p : Program} {l : Launch} {e : Env} {R : Room} {s : State} {m : MethodId} {args : Array Value} {below : List Frame} {meth : Method} {c : Code} {H : Heap} {locs : List Loc} {cells slots : Nat} {Q : State → Prop}
variable {mc ms : Nat} {free : Addr → Prop} {A0 A1 : Nat → Prop} {H0 : Heap} {a : Array Value} {ls : Array Slot} {st0 rest : List Value}
variable {Qc : Array Value → State → Outcome → State → Prop} {XC : String → State → State → Prop}
/-- what a body that may throw owes at its end -/
def vx_MQ (below : List Frame) (Qc : Array Value → State → Outcome → State → Prop) (XC : String → State → State → Prop) (a : Array Value) (s : State) (mc ms : Nat) (free : Addr → Prop) : State → Prop := fun t =>
  ∃ o, t.status = .running ∧ Ended t below o ∧ vx_Q Qc XC mc ms free a s o t
theorem vx_ret {g : JFrame} {mc ms : Nat} (k : W p l e R s m args below meth c H locs cells slots (MQ below Qc args s mc ms free) g) : W p l e R s m args below meth c H locs cells slots (vx_MQ below Qc XC args s mc ms free) g := by
  intro T hT X
  obtain ⟨t, a1, o, b1, b2, b3, b4⟩ := k T hT X
  exact ⟨t, a1, o, b1, b2, Or.inl ⟨b3, b4⟩⟩
/-- not caught here: it goes on to the caller -/
theorem vx_widen {g : JFrame} {q : Addr} {k n : Nat} (h1 : cells ≤ k) (h2 : slots ≤ n) (kk : vx_W p l e R s m args below meth c H locs k n Q g q) : vx_W p l e R s m args below meth c H locs cells slots Q g q := fun T hT X => kk T hT (stand_widen X h1 h2)
theorem vx_out {pc : Nat} {E : String} {ce : Cell} {q : Addr} {mc ms : Nat} (hout : ∀ x ∈ c.exceptionTable.toList, covers x pc = false) (hlocks : meth.locks = false) (hcell : H[q]? = some ce) (hv : ce.vm = .none) (hcl : s.vm.findClass E = some ce.cls)
    (hx : ∀ t : State, t.heap = H → s.vm.Alike t.vm → XC E s t) (hf : ∀ z ∈ locs, free z.base) (hc : cells ≤ mc) (hs : slots ≤ ms) :
    vx_W p l e R s m args below meth c H locs cells slots (vx_MQ below Qc XC args s mc ms free) (F0 m pc ls rest) q := by
  intro T hT X
  obtain ⟨st1, hrun, hend, hW, hsm⟩ := X.leaveThrown q (g := F0 m pc ls rest) rfl rfl rfl hout hlocks
  have hcell9 : (T.setFrames (.throwing q :: below)).heap[q]? = some ce := by
    show T.heap[q]? = some ce
    rw [hT]; exact hcell
  exact ⟨_, st1, .threw q, hrun, hend, Or.inr ⟨q, rfl, E, ce, locs, hx _ hT hW.alike, hcell9, hv, hcl, hW, hsm.mono hc hs, hf⟩⟩
theorem vx_frame {U : State} {k n : Nat} (h : s.sameButNew ({ U with vm := s.vm } : State) locs k n) : s.heap.size ≤ U.heap.size ∧ ∀ q : Nat, q < s.heap.size → (∀ z ∈ locs, z.base ≠ q) → U.heap[q]? = s.heap[q]? := by
  obtain ⟨-, h2, -, -, -, h6⟩ := h
  refine ⟨h2, fun q hq hz => ?_⟩
  obtain ⟨c9, e1, e2, e3, e4⟩ := h6 q _ (Array.getElem?_eq_getElem hq)
  have hs : c9.slots = (s.heap[q]).slots := Array.ext_getElem? fun i => e4 i fun hm => hz _ hm rfl
  have h9 : c9 = s.heap[q] := by
    rw [hs] at e2
    exact e2
  have e5 : U.heap[q]? = some c9 := e1
  rw [e5, h9, Array.getElem?_eq_getElem hq]
/-- the words of a throw but the four that speak of the heap -/
def vx_no (w : Cond) : Bool := decide (w ≠ .isRef (.static Bundle.tN "UNASSIGNED_STACK" Bundle.steD)) && decide (w ≠ .isRef (.static Bundle.tN "SUPPRESSED_SENTINEL" Bundle.listD)) && decide (w ≠ .laysStatic Bundle.tN "UNASSIGNED_STACK" Bundle.steD) && decide (w ≠ .laysStatic Bundle.tN "SUPPRESSED_SENTINEL" Bundle.listD)
def vx_at0 (own : String) (ic : Nat) (X : String) (names : List String) : List Cond := (Bundle.ownAtoms0 own ic X names).filter vx_no
def vx_atS (own : String) (ic : Nat) (X : String) (names : List String) : List Cond := (Bundle.ownAtoms own ic X names).filter vx_no
/-- a word that the tables alone decide, or a good one -/
def vx_ot (w : Cond) : Bool := w.onTables || goodWord w
theorem vx_ot_at {args a' : Array Value} {s U : State} {w : Cond} (hW : s.WarmedH U.vm) (hvm : s.vm = U.vm) (hg : vx_ot w = true) (h : w.before args s = true) : w.before a' U = true := by
  simp only [vx_ot, Bool.or_eq_true] at hg
  rcases hg with hg | hg
  · exact va_tabs hg hvm h
  · exact word_at hW (good_of_word hg) h
/-- a list's words: the good ones out of the method's own list, the others by premises of their own -/
theorem vx_hat {args : Array Value} {s : State} {L B : List Cond} (h1 : ∀ w ∈ L.filter goodWord, w.before args s = true) (h2 : ∀ w ∈ L.filter (fun w => !goodWord w), w ∈ B) (h3 : ∀ w ∈ B, w.before args s = true) : ∀ w ∈ L, w.before args s = true := by
  intro w hw
  by_cases g : goodWord w = true
  · exact h1 w (List.mem_filter.mpr ⟨hw, g⟩)
  · refine h3 w (h2 w (List.mem_filter.mpr ⟨hw, ?_⟩))
    show (!goodWord w) = true
    cases hgw : goodWord w
    · rfl
    · exact absurd hgw g
theorem vx_c {args : Array Value} {s : State} {w : Cond} {B : List Cond} (h : w.before args s = true) (t : ∀ w ∈ B, w.before args s = true) : ∀ w' ∈ w :: B, w'.before args s = true := fun w' h' => (List.mem_cons.mp h').elim (fun e => by rw [e]; exact h) (t w')
theorem vx_n {args : Array Value} {s : State} : ∀ w ∈ ([] : List Cond), w.before args s = true := fun _ h => nomatch h
theorem vx_own {args : Array Value} {s : State} {L : List Cond} (h1 : ∀ w ∈ L.filter vx_no, w.before args s = true)
    (hU : (Cond.isRef (.static Bundle.tN "UNASSIGNED_STACK" Bundle.steD)).before args s = true) (hN : (Cond.isRef (.static Bundle.tN "SUPPRESSED_SENTINEL" Bundle.listD)).before args s = true)
    (lU : (Cond.laysStatic Bundle.tN "UNASSIGNED_STACK" Bundle.steD).before args s = true) (lN : (Cond.laysStatic Bundle.tN "SUPPRESSED_SENTINEL" Bundle.listD).before args s = true) : ∀ w ∈ L, w.before args s = true := by
  intro w hw
  by_cases e1 : w = .isRef (.static Bundle.tN "UNASSIGNED_STACK" Bundle.steD)
  · rw [e1]; exact hU
  · by_cases e2 : w = .isRef (.static Bundle.tN "SUPPRESSED_SENTINEL" Bundle.listD)
    · rw [e2]; exact hN
    · by_cases e3 : w = .laysStatic Bundle.tN "UNASSIGNED_STACK" Bundle.steD
      · rw [e3]; exact lU
      · by_cases e4 : w = .laysStatic Bundle.tN "SUPPRESSED_SENTINEL" Bundle.listD
        · rw [e4]; exact lN
        · exact h1 w (List.mem_filter.mpr ⟨hw, by unfold vx_no; rw [decide_eq_true e1, decide_eq_true e2, decide_eq_true e3, decide_eq_true e4]; rfl⟩)
/-- where a static field lies, its class's statics cell in H -/
def vx_L (C n d : String) (A : Nat → Prop) (U : State) (H : Heap) : Prop := ∃ (c : ClassId) (k : Class) (i : Nat) (f : Field) (a : Nat) (cell : Cell), U.vm.findClass C = some c ∧ U.fieldFound? C n d = some (c, k, i, f) ∧ f.isStatic = true ∧ k.statics = some a ∧ H[a]? = some cell ∧ cell.vm.isStatics = true ∧ cell.cls = c ∧ f.slot < cell.slots.size ∧ k.staticTypes[f.slot]? = some f.type ∧ ¬ A a
theorem vx_L.moved {C n d : String} {A : Nat → Prop} {u U : State} {H : Heap} (hvm : u.vm.Alike U.vm) (h : vx_L C n d A u H) : vx_L C n d A U H := by
  obtain ⟨c, k, i, f, a, cell, h1, h2, h3, h4, h5, h6, h7, h8, h9, h10⟩ := h
  obtain ⟨k', hi', he⟩ := State.fieldFound?_setVm hvm h2
  exact ⟨c, k', i, f, a, cell, by rw [hvm.findClass]; exact h1, hi', h3, by rw [he]; exact h4, h5, h6, h7, h8, by rw [he]; exact h9, h10⟩
theorem vx_L.kept {C n d : String} {A : Nat → Prop} {U : State} {H H1 : Heap} (h : vx_L C n d A U H) (hq : ∀ a : Nat, a < H.size → ¬ A a → H1[a]? = H[a]?) : vx_L C n d A U H1 := by
  obtain ⟨c, k, i, f, a, cell, h1, h2, h3, h4, h5, h6, h7, h8, h9, h10⟩ := h
  exact ⟨c, k, i, f, a, cell, h1, h2, h3, h4, by rw [hq a (Array.getElem?_eq_some_iff.mp h5).1 h10]; exact h5, h6, h7, h8, h9, h10⟩
theorem vx_L.narrow {C n d : String} {A B : Nat → Prop} {U : State} {H : Heap} (h : vx_L C n d A U H) (hAB : ∀ q, B q → A q) : vx_L C n d B U H := by
  obtain ⟨c, k, i, f, a, cell, h1, h2, h3, h4, h5, h6, h7, h8, h9, h10⟩ := h
  exact ⟨c, k, i, f, a, cell, h1, h2, h3, h4, h5, h6, h7, h8, h9, fun z => h10 (hAB _ z)⟩
theorem vx_L.word {C n d : String} {A : Nat → Prop} {s : State} {args : Array Value} (h : vx_L C n d A s s.heap) : (Cond.laysStatic C n d).before args s = true := by
  obtain ⟨c, k, i, f, a, cell, h1, h2, h3, h4, h5, h6, h7, h8, h9, -⟩ := h
  show (Cond.laysStatic C n d).holds args s none s [] = true
  exact Cond.laysStatic_of h1 h2 h3 h4 h5 h6 h7 h8 h9
/-- .. and what it holds: null or some reference -/
def vx_Zq (C n d : String) (A : Nat → Prop) (U : State) (H : Heap) : Prop := va_Zq C n d A U H ∧ vx_L C n d A U H
theorem vx_Zq.moved {C n d : String} {A : Nat → Prop} {u U : State} {H : Heap} (hvm : u.vm.Alike U.vm) (h : vx_Zq C n d A u H) : vx_Zq C n d A U H := ⟨va_Zq.moved hvm h.1, vx_L.moved hvm h.2⟩
theorem vx_Zq.kept {C n d : String} {A : Nat → Prop} {U : State} {H H1 : Heap} (h : vx_Zq C n d A U H) (hq : ∀ a : Nat, a < H.size → ¬ A a → H1[a]? = H[a]?) : vx_Zq C n d A U H1 := ⟨va_Zq.kept h.1 hq, vx_L.kept h.2 hq⟩
theorem vx_Zq.narrow {C n d : String} {A B : Nat → Prop} {U : State} {H : Heap} (h : vx_Zq C n d A U H) (hAB : ∀ q, B q → A q) : vx_Zq C n d B U H := ⟨va_Zq.narrow h.1 hAB, vx_L.narrow h.2 hAB⟩
theorem vx_Zqof {args : Array Value} {s : State} {C n d : String} {A : Nat → Prop} (hl : (Cond.laysStatic C n d).before args s = true) (hini : (Cond.initialized C).before args s = true) (h : (Cond.isRef (.static C n d)).before args s = true) (hA : ∀ a : Nat, a < s.heap.size → ¬ A a) : vx_Zq C n d A s s.heap := by
  refine ⟨va_Zqof hl hini h hA, ?_⟩
  obtain ⟨c, k, i, f, a, cell, h1, h2, h3, h4, h5, h6, h7, h8, h9⟩ := Cond.laysStatic_spec hl
  exact ⟨c, k, i, f, a, cell, h1, h2, h3, h4, h5, h6, h7, h8, h9, hA a (Array.getElem?_eq_some_iff.mp h5).1⟩
theorem vx_isRef {C n d : String} {v : Value} {A : Nat → Prop} {s : State} {args : Array Value} (h : va_Z C n d v A s s.heap) (hv : v.isRef = true) : (Cond.isRef (.static C n d)).before args s = true := by
  obtain ⟨cf, kf, fi, f, a, cell, h1, h2, h3, h4, h5, h6, h7, -⟩ := h
  have he : (Term.static C n d).eval args s none [] s = some v := by
    simp [Term.eval, State.fieldNamed?, h1, h2, h4, h5, h6, h7]
  simp only [Cond.before, Cond.holds, Cond.value, he]
  cases v <;> simp_all [Value.isRef]
theorem vx_isRefq {C n d : String} {A : Nat → Prop} {s : State} {args : Array Value} (h : va_Zq C n d A s s.heap) : (Cond.isRef (.static C n d)).before args s = true := by
  rcases h with h | ⟨t, h⟩
  · exact vx_isRef h rfl
  · exact vx_isRef h rfl
/-- the same frame, seen from here: as if the method were called anew in this heap -/
theorem vx_rebase {T : State} (X : Stand p l e R s m args below meth c T locs cells slots) {R' : Room} (hf : R'.frames ≤ R.frames) (hl : R'.locals ≤ R.locals) (hc : cells + R'.cells ≤ R.cells) (hs : slots + R'.slots ≤ R.slots) :
    Stand p l e R' ((T.setVm s.vm).setFrames (.invoking m args :: below)) m args below meth c T [] 0 0 := by
  have htop : (T.setVm s.vm).topJava?.isSome := X.here.top
  have hF : ((T.setVm s.vm).setFrames (.invoking m args :: below)).frames = .invoking m args :: below := State.frames_setFrames _ (State.cur_lt_of_top htop)
  obtain ⟨g₀, hg0⟩ := Option.isSome_iff_exists.mp htop
  obtain ⟨r, hr⟩ := State.topJava?_eq_some.mp hg0
  have hl9 : e.platform.stackLimits (T.setVm s.vm).me = e.platform.stackLimits s.me := X.limits
  have hb9 : (T.setVm s.vm).me.stackBytes = s.me.stackBytes := X.bytes
  refine ⟨X.admits, X.cas, X.clock, hF, ?_, X.hears, X.method, X.code, X.here, X.tail, X.warmed, ?_, ?_, ?_⟩
  · have h := X.room
    have hU : ((T.setVm s.vm).setFrames (.invoking m args :: below)).localsInUse = s.localsInUse := by
      rw [State.localsInUse_invoking hF (meth := meth) (c := c) X.method X.code, State.localsInUse_invoking X.frames X.method X.code]
    simp only [State.hasRoom, Bool.and_eq_true, decide_eq_true_eq] at h ⊢
    obtain ⟨⟨⟨⟨h1, h2, h3, h4, h5, h6⟩, h7⟩, h8⟩, h9⟩ := h
    rw [X.frames, List.length_cons] at h2 h3
    have q1 := X.heapSize
    have q2 := X.used
    simp only [hF, hU, List.length_cons, State.stackLimits_setFrames, State.stackBytes_setFrames, hl9, hb9]
    refine ⟨⟨⟨⟨by omega, by omega, by omega, by omega, by omega, h6⟩, ?_⟩, ?_⟩, X.book⟩
    · show T.heap.size + R'.cells ≤ e.platform.maxCells
      omega
    · show T.slotsUsed + R'.slots ≤ e.platform.maxSlots
      omega
  · rw [State.stackLimits_setFrames]; rfl
  · rw [State.stackBytes_setFrames]; rfl
  · refine ⟨?_, Nat.le_refl _, Nat.le_refl _, ?_, ?_, fun a c9 h9 => ⟨c9, h9, rfl, rfl, fun _ _ => rfl⟩⟩
    · obtain ⟨t, ht, -⟩ := State.frames_cons hr
      show T.setVm s.vm = { ((T.setVm s.vm).setFrames (.invoking m args :: below)).setFrames (T.setVm s.vm).frames with heap := T.heap, slotsUsed := T.slotsUsed }
      rw [State.setFrames_setFrames, State.setFrames_self ht]
      rfl
    · show T.slotsUsed = T.slotsUsed + ((T.heap.toList.drop T.heap.size).map (·.slots.size)).sum
      rw [List.drop_eq_nil_of_le (Nat.le_of_eq Array.length_toList)]
      rfl
    · show ((T.heap.toList.drop T.heap.size).map (·.slots.size)).sum ≤ 0
      rw [List.drop_eq_nil_of_le (Nat.le_of_eq Array.length_toList)]
      exact Nat.le_refl _
/-- 'throw new E()': new; dup; invokespecial; athrow -/
theorem vx_throw0 {cc : ByteArray} {pc : Nat} (hexec : p.tables.exec = Jvm.exec) (hb : c.code = cc) (hl : l.stackTraces = false) {own cls : String} {names : List String} {ik ic mc ms : Nat} {A : Nat → Prop}
    (hown : s.vm.findClass own = some m.cls) (hcls : Bundle.fit cls = true) (hnames : ∀ n ∈ names, Bundle.fit n = true)
    (hk : (Cond.classLink own ik cls).before args s = true) (hini : (Cond.initialized cls).before args s = true) (hat : ∀ w ∈ vx_at0 own ic cls names, w.before args s = true)
    (hgood : ∀ w ∈ Cond.classLink own ik cls :: Cond.initialized cls :: vx_at0 own ic cls names, vx_ot w = true)
    (hU : vx_Zq Bundle.tN "UNASSIGNED_STACK" Bundle.steD A s s.heap) (hN : vx_Zq Bundle.tN "SUPPRESSED_SENTINEL" Bundle.listD A s s.heap) (hS : va_S A s.heap H locs) (hsize : ls.size = c.maxLocals)
    (d0 : decode cc pc = .ok (.new ik, 3)) (d3 : decode cc (pc + 3) = .ok (.dup, 1)) (d4 : decode cc (pc + 4) = .ok (.invokespecial ic, 3)) (d7 : decode cc (pc + 7) = .ok (.athrow, 1))
    (hout : ∀ x ∈ c.exceptionTable.toList, covers x (pc + 7) = false)
    (hRframes : names.length + 3 < R.frames) (hRlocals : (rest.map fun v => v.category).sum + (13 * (names.length + 1) + 42) ≤ R.locals) (hRcells : cells + 1 ≤ R.cells) (hRslots : slots + 6 ≤ R.slots) (hlocks : meth.locks = false)
    (hx : ∀ t : State, s.vm.Alike t.vm → H.size ≤ t.heap.size → (∀ q : Nat, q < H.size → t.heap[q]? = H[q]?) → XC cls s t)
    (hf : ∀ z ∈ locs, free z.base) (hc : cells + 1 ≤ mc) (hs : slots + 6 ≤ ms) :
    W p l e R s m args below meth c H locs cells slots (vx_MQ below Qc XC args s mc ms free) (F0 m pc ls rest) := by
  intro T hT X
  have htr : e.platform.stackTraces = false := (show e.platform.stackTraces = l.stackTraces by rw [X.admits.platform]).trans hl
  have Y := vx_rebase X (R' := { frames := R.frames, locals := R.locals, cells := 1, slots := 6 }) (Nat.le_refl _) (Nat.le_refl _) hRcells hRslots
  obtain ⟨s', hA⟩ : ∃ z, z = (T.setVm s.vm).setFrames (.invoking m args :: below) := ⟨_, rfl⟩
  rw [← hA] at Y
  have hvm : s'.vm = s.vm := by rw [hA]; rfl
  have hhp : s'.heap = H := by rw [hA]; exact hT
  have hW0 : s.WarmedH s'.vm := by rw [hvm]; exact State.WarmedH.refl s
  have hat' : ∀ w ∈ vx_at0 own ic cls names, w.before args s' = true := fun w hw => vx_ot_at hW0 hvm.symm (hgood w (List.mem_cons_of_mem _ (List.mem_cons_of_mem _ hw))) (hat w hw)
  have hk' : (Cond.classLink own ik cls).before args s' = true := vx_ot_at hW0 hvm.symm (hgood _ List.mem_cons_self) hk
  have hini' : (Cond.initialized cls).before args s' = true := vx_ot_at hW0 hvm.symm (hgood _ (List.mem_cons_of_mem _ List.mem_cons_self)) hini
  have hU' : vx_Zq Bundle.tN "UNASSIGNED_STACK" Bundle.steD A s' s'.heap := by rw [hhp]; exact vx_Zq.moved hW0.alike (hU.kept hS.2.1)
  have hN' : vx_Zq Bundle.tN "SUPPRESSED_SENTINEL" Bundle.listD A s' s'.heap := by rw [hhp]; exact vx_Zq.moved hW0.alike (hN.kept hS.2.1)
  have h : ∀ w ∈ Bundle.ownAtoms0 own ic cls names, w.before args s' = true := vx_own hat' (vx_isRefq hU'.1) (vx_isRefq hN'.1) hU'.2.word hN'.2.word
  have hown' : s'.vm.findClass own = some m.cls := by rw [hvm]; exact hown
  have hins : (Cond.instantiable cls 6).before args s' = true := h _ (by simp [Bundle.ownAtoms0])
  obtain ⟨vm₁, cX, kX, hfX, hkX, -, -, X₁, st1⟩ := Y.newCold hexec (own := own) (C := cls) (index := ik) (n := 6) hown' hk' hins hini'
    (g := F0 m pc ls rest) rfl (by rw [hb]; exact d0) (Nat.le_refl _) (Nat.le_refl _)
  generalize hT1 : (T.setVm vm₁).pushCell { cls := cX, slots := kX.instanceTypes.map defaultValue, vm := .none } = T1 at X₁ st1
  have hcat : (Value.ref T.heap.size).category = 1 := rfl
  have hcellA : T1.heap[T.heap.size]? = some (freshCell cX kX) := by rw [← hT1]; exact State.heap_pushCell_size _ _
  have d3' : decode c.code (pc + 3) = .ok (.dup, 1) := by rw [hb]; exact d3
  obtain ⟨U, hsteps, hrun, hend, hW, hsame, ce, hce, hO⟩ := X₁.ctorThrow0 hexec htr (own := own) (cls := cls) (names := names) (ic := ic) hown' hcls hnames h (fun x hx => nomatch hx) hfX hkX hcellA (by rw [hhp, hT]; exact Nat.le_refl _)
    (g := { method := m, pc := pc + 4, locals := ls, stack := .ref T.heap.size :: .ref T.heap.size :: rest, locked := none }) rfl hsize rfl rfl (rest := rest) rfl
    (by rw [hb]; exact d4) (by rw [hb]; exact d7) hout hRframes (by simp only [List.map_cons, List.sum_cons, hcat]; omega) hlocks
  obtain ⟨f1, f2⟩ := vx_frame hsame
  rw [hhp] at f1 f2
  have hWs : s.WarmedH U.vm := State.WarmedH.trans hW0 hW
  have hcl : s.vm.findClass cls = some ce.cls := by
    have h9 := hO.cls
    rw [hvm] at h9
    exact h9
  have hall : s.sameButNew ({ U with vm := s.vm } : State) locs mc ms := by
    subst hA
    obtain ⟨e1, e2⟩ := hsame
    rw [State.setFrames_setFrames] at e1
    have h2 : (T.setVm s.vm).sameButNew ({ U with vm := s.vm } : State) [] (0 + 1) (0 + 6) := ⟨e1, e2⟩
    have h3 := X.same.trans h2
    rw [List.append_nil] at h3
    exact h3.mono hc hs
  refine ⟨U, ?_, .threw T.heap.size, hrun, hend, Or.inr ⟨T.heap.size, rfl, cls, ce, locs, hx U hWs.alike f1 (fun q hq => f2 q hq (fun z hz => nomatch hz)), hce, hO.vm, hcl, hWs, hall, hf⟩⟩
  refine st1 _ ?_
  show Steps p.tables e below (T1.setTop { method := m, pc := pc + 3, locals := ls, stack := .ref T.heap.size :: rest, locked := none }) _
  jvm_step X₁.here [X₁.here.top, hexec, d3', Value.category]
  exact hsteps
/-- 'throw new E("text")': new; dup; ldc; invokespecial; athrow -/
theorem vx_throwS {cc : ByteArray} {pc : Nat} (hexec : p.tables.exec = Jvm.exec) (hb : c.code = cc) (hl : l.stackTraces = false) {own cls text : String} {names : List String} {ik is ic mc ms sa : Nat} {A : Nat → Prop}
    (hown : s.vm.findClass own = some m.cls) (hcls : Bundle.fit cls = true) (hnames : ∀ n ∈ names, Bundle.fit n = true)
    (hk : (Cond.classLink own ik cls).before args s = true) (hini : (Cond.initialized cls).before args s = true) (hstr : vk_R own is text sa s) (hat : ∀ w ∈ vx_atS own ic cls names, w.before args s = true)
    (hgood : ∀ w ∈ Cond.classLink own ik cls :: Cond.initialized cls :: vx_atS own ic cls names, vx_ot w = true)
    (hU : vx_Zq Bundle.tN "UNASSIGNED_STACK" Bundle.steD A s s.heap) (hN : vx_Zq Bundle.tN "SUPPRESSED_SENTINEL" Bundle.listD A s s.heap) (hS : va_S A s.heap H locs) (hsize : ls.size = c.maxLocals)
    (d0 : decode cc pc = .ok (.new ik, 3)) (d3 : decode cc (pc + 3) = .ok (.dup, 1)) (d4 : decode cc (pc + 4) = .ok (.ldc is, 2)) (d6 : decode cc (pc + 6) = .ok (.invokespecial ic, 3)) (d9 : decode cc (pc + 9) = .ok (.athrow, 1))
    (hout : ∀ x ∈ c.exceptionTable.toList, covers x (pc + 9) = false)
    (hRframes : names.length + 3 < R.frames) (hRlocals : (rest.map fun v => v.category).sum + (13 * (names.length + 1) + 43) ≤ R.locals) (hRcells : cells + 1 ≤ R.cells) (hRslots : slots + 6 ≤ R.slots) (hlocks : meth.locks = false)
    (hx : ∀ t : State, s.vm.Alike t.vm → H.size ≤ t.heap.size → (∀ q : Nat, q < H.size → t.heap[q]? = H[q]?) → XC cls s t)
    (hf : ∀ z ∈ locs, free z.base) (hc : cells + 1 ≤ mc) (hs : slots + 6 ≤ ms) :
    W p l e R s m args below meth c H locs cells slots (vx_MQ below Qc XC args s mc ms free) (F0 m pc ls rest) := by
  intro T hT X
  have htr : e.platform.stackTraces = false := (show e.platform.stackTraces = l.stackTraces by rw [X.admits.platform]).trans hl
  have Y := vx_rebase X (R' := { frames := R.frames, locals := R.locals, cells := 1, slots := 6 }) (Nat.le_refl _) (Nat.le_refl _) hRcells hRslots
  obtain ⟨s', hA⟩ : ∃ z, z = (T.setVm s.vm).setFrames (.invoking m args :: below) := ⟨_, rfl⟩
  rw [← hA] at Y
  have hvm : s'.vm = s.vm := by rw [hA]; rfl
  have hhp : s'.heap = H := by rw [hA]; exact hT
  have hW0 : s.WarmedH s'.vm := by rw [hvm]; exact State.WarmedH.refl s
  have hat' : ∀ w ∈ vx_atS own ic cls names, w.before args s' = true := fun w hw => vx_ot_at hW0 hvm.symm (hgood w (List.mem_cons_of_mem _ (List.mem_cons_of_mem _ hw))) (hat w hw)
  have hk' : (Cond.classLink own ik cls).before args s' = true := vx_ot_at hW0 hvm.symm (hgood _ List.mem_cons_self) hk
  have hini' : (Cond.initialized cls).before args s' = true := vx_ot_at hW0 hvm.symm (hgood _ (List.mem_cons_of_mem _ List.mem_cons_self)) hini
  have hU' : vx_Zq Bundle.tN "UNASSIGNED_STACK" Bundle.steD A s' s'.heap := by rw [hhp]; exact vx_Zq.moved hW0.alike (hU.kept hS.2.1)
  have hN' : vx_Zq Bundle.tN "SUPPRESSED_SENTINEL" Bundle.listD A s' s'.heap := by rw [hhp]; exact vx_Zq.moved hW0.alike (hN.kept hS.2.1)
  have h : ∀ w ∈ Bundle.ownAtoms own ic cls names, w.before args s' = true := vx_own hat' (vx_isRefq hU'.1) (vx_isRefq hN'.1) hU'.2.word hN'.2.word
  have hown' : s'.vm.findClass own = some m.cls := by rw [hvm]; exact hown
  have hins : (Cond.instantiable cls 6).before args s' = true := h _ (by simp [Bundle.ownAtoms])
  obtain ⟨vm₁, cX, kX, hfX, hkX, -, -, X₁, st1⟩ := Y.newCold hexec (own := own) (C := cls) (index := ik) (n := 6) hown' hk' hins hini'
    (g := F0 m pc ls rest) rfl (by rw [hb]; exact d0) (Nat.le_refl _) (Nat.le_refl _)
  generalize hT1 : (T.setVm vm₁).pushCell { cls := cX, slots := kX.instanceTypes.map defaultValue, vm := .none } = T1 at X₁ st1
  have hcat : (Value.ref T.heap.size).category = 1 := rfl
  have hcellA : T1.heap[T.heap.size]? = some (freshCell cX kX) := by rw [← hT1]; exact State.heap_pushCell_size _ _
  have d3' : decode c.code (pc + 3) = .ok (.dup, 1) := by rw [hb]; exact d3
  have d4' : decode c.code (pc + 4) = .ok (.ldc is, 2) := by rw [hb]; exact d4
  have hstr' : vk_R own is text sa s' := vk_R.warm hW0 hstr
  obtain ⟨U, hsteps, hrun, hend, hW, hsame, ce, hce, hO⟩ := X₁.ctorThrowS hexec htr (own := own) (cls := cls) (names := names) (ic := ic) hown' hcls hnames h (fun x hx => nomatch hx) hfX hkX hcellA (by rw [hhp, hT]; exact Nat.le_refl _) (msg := .ref sa) rfl
    (g := { method := m, pc := pc + 6, locals := ls, stack := .ref sa :: .ref T.heap.size :: .ref T.heap.size :: rest, locked := none }) rfl hsize rfl rfl (rest := rest) rfl
    (by rw [hb]; exact d6) (by rw [hb]; exact d9) hout hRframes (by simp only [List.map_cons, List.sum_cons, hcat]; omega) hlocks
  obtain ⟨f1, f2⟩ := vx_frame hsame
  rw [hhp] at f1 f2
  have hWs : s.WarmedH U.vm := State.WarmedH.trans hW0 hW
  have hcl : s.vm.findClass cls = some ce.cls := by
    have h9 := hO.cls
    rw [hvm] at h9
    exact h9
  have hall : s.sameButNew ({ U with vm := s.vm } : State) locs mc ms := by
    subst hA
    obtain ⟨e1, e2⟩ := hsame
    rw [State.setFrames_setFrames] at e1
    have h2 : (T.setVm s.vm).sameButNew ({ U with vm := s.vm } : State) [] (0 + 1) (0 + 6) := ⟨e1, e2⟩
    have h3 := X.same.trans h2
    rw [List.append_nil] at h3
    exact h3.mono hc hs
  refine ⟨U, ?_, .threw T.heap.size, hrun, hend, Or.inr ⟨T.heap.size, rfl, cls, ce, locs, hx U hWs.alike f1 (fun q hq => f2 q hq (fun z hz => nomatch hz)), hce, hO.vm, hcl, hWs, hall, hf⟩⟩
  refine st1 _ ?_
  show Steps p.tables e below (T1.setTop { method := m, pc := pc + 3, locals := ls, stack := .ref T.heap.size :: rest, locked := none }) _
  jvm_step X₁.here [X₁.here.top, hexec, d3', Value.category]
  exact X₁.ldcString hexec (own := own) (text := text) (index := is) (a := sa) hown' hstr'.1 hstr'.2
    (g := { method := m, pc := pc + 4, locals := ls, stack := .ref T.heap.size :: .ref T.heap.size :: rest, locked := none }) rfl d4' _ hsteps
/-- 'throw new E("text")', the text by a wide index -/
theorem vx_throwSW {cc : ByteArray} {pc : Nat} (hexec : p.tables.exec = Jvm.exec) (hb : c.code = cc) (hl : l.stackTraces = false) {own cls text : String} {names : List String} {ik is ic mc ms sa : Nat} {A : Nat → Prop}
    (hown : s.vm.findClass own = some m.cls) (hcls : Bundle.fit cls = true) (hnames : ∀ n ∈ names, Bundle.fit n = true)
    (hk : (Cond.classLink own ik cls).before args s = true) (hini : (Cond.initialized cls).before args s = true) (hstr : vk_R own is text sa s) (hat : ∀ w ∈ vx_atS own ic cls names, w.before args s = true)
    (hgood : ∀ w ∈ Cond.classLink own ik cls :: Cond.initialized cls :: vx_atS own ic cls names, vx_ot w = true)
    (hU : vx_Zq Bundle.tN "UNASSIGNED_STACK" Bundle.steD A s s.heap) (hN : vx_Zq Bundle.tN "SUPPRESSED_SENTINEL" Bundle.listD A s s.heap) (hS : va_S A s.heap H locs) (hsize : ls.size = c.maxLocals)
    (d0 : decode cc pc = .ok (.new ik, 3)) (d3 : decode cc (pc + 3) = .ok (.dup, 1)) (d4 : decode cc (pc + 4) = .ok (.ldc_w is, 3)) (d7 : decode cc (pc + 7) = .ok (.invokespecial ic, 3)) (d10 : decode cc (pc + 10) = .ok (.athrow, 1))
    (hout : ∀ x ∈ c.exceptionTable.toList, covers x (pc + 10) = false)
    (hRframes : names.length + 3 < R.frames) (hRlocals : (rest.map fun v => v.category).sum + (13 * (names.length + 1) + 43) ≤ R.locals) (hRcells : cells + 1 ≤ R.cells) (hRslots : slots + 6 ≤ R.slots) (hlocks : meth.locks = false)
    (hx : ∀ t : State, s.vm.Alike t.vm → H.size ≤ t.heap.size → (∀ q : Nat, q < H.size → t.heap[q]? = H[q]?) → XC cls s t)
    (hf : ∀ z ∈ locs, free z.base) (hc : cells + 1 ≤ mc) (hs : slots + 6 ≤ ms) :
    W p l e R s m args below meth c H locs cells slots (vx_MQ below Qc XC args s mc ms free) (F0 m pc ls rest) := by
  intro T hT X
  have htr : e.platform.stackTraces = false := (show e.platform.stackTraces = l.stackTraces by rw [X.admits.platform]).trans hl
  have Y := vx_rebase X (R' := { frames := R.frames, locals := R.locals, cells := 1, slots := 6 }) (Nat.le_refl _) (Nat.le_refl _) hRcells hRslots
  obtain ⟨s', hA⟩ : ∃ z, z = (T.setVm s.vm).setFrames (.invoking m args :: below) := ⟨_, rfl⟩
  rw [← hA] at Y
  have hvm : s'.vm = s.vm := by rw [hA]; rfl
  have hhp : s'.heap = H := by rw [hA]; exact hT
  have hW0 : s.WarmedH s'.vm := by rw [hvm]; exact State.WarmedH.refl s
  have hat' : ∀ w ∈ vx_atS own ic cls names, w.before args s' = true := fun w hw => vx_ot_at hW0 hvm.symm (hgood w (List.mem_cons_of_mem _ (List.mem_cons_of_mem _ hw))) (hat w hw)
  have hk' : (Cond.classLink own ik cls).before args s' = true := vx_ot_at hW0 hvm.symm (hgood _ List.mem_cons_self) hk
  have hini' : (Cond.initialized cls).before args s' = true := vx_ot_at hW0 hvm.symm (hgood _ (List.mem_cons_of_mem _ List.mem_cons_self)) hini
  have hU' : vx_Zq Bundle.tN "UNASSIGNED_STACK" Bundle.steD A s' s'.heap := by rw [hhp]; exact vx_Zq.moved hW0.alike (hU.kept hS.2.1)
  have hN' : vx_Zq Bundle.tN "SUPPRESSED_SENTINEL" Bundle.listD A s' s'.heap := by rw [hhp]; exact vx_Zq.moved hW0.alike (hN.kept hS.2.1)
  have h : ∀ w ∈ Bundle.ownAtoms own ic cls names, w.before args s' = true := vx_own hat' (vx_isRefq hU'.1) (vx_isRefq hN'.1) hU'.2.word hN'.2.word
  have hown' : s'.vm.findClass own = some m.cls := by rw [hvm]; exact hown
  have hins : (Cond.instantiable cls 6).before args s' = true := h _ (by simp [Bundle.ownAtoms])
  obtain ⟨vm₁, cX, kX, hfX, hkX, -, -, X₁, st1⟩ := Y.newCold hexec (own := own) (C := cls) (index := ik) (n := 6) hown' hk' hins hini'
    (g := F0 m pc ls rest) rfl (by rw [hb]; exact d0) (Nat.le_refl _) (Nat.le_refl _)
  generalize hT1 : (T.setVm vm₁).pushCell { cls := cX, slots := kX.instanceTypes.map defaultValue, vm := .none } = T1 at X₁ st1
  have hcat : (Value.ref T.heap.size).category = 1 := rfl
  have hcellA : T1.heap[T.heap.size]? = some (freshCell cX kX) := by rw [← hT1]; exact State.heap_pushCell_size _ _
  have d3' : decode c.code (pc + 3) = .ok (.dup, 1) := by rw [hb]; exact d3
  have d4' : decode c.code (pc + 4) = .ok (.ldc_w is, 3) := by rw [hb]; exact d4
  have hstr' : vk_R own is text sa s' := vk_R.warm hW0 hstr
  obtain ⟨U, hsteps, hrun, hend, hW, hsame, ce, hce, hO⟩ := X₁.ctorThrowS hexec htr (own := own) (cls := cls) (names := names) (ic := ic) hown' hcls hnames h (fun x hx => nomatch hx) hfX hkX hcellA (by rw [hhp, hT]; exact Nat.le_refl _) (msg := .ref sa) rfl
    (g := { method := m, pc := pc + 7, locals := ls, stack := .ref sa :: .ref T.heap.size :: .ref T.heap.size :: rest, locked := none }) rfl hsize rfl rfl (rest := rest) rfl
    (by rw [hb]; exact d7) (by rw [hb]; exact d10) hout hRframes (by simp only [List.map_cons, List.sum_cons, hcat]; omega) hlocks
  obtain ⟨f1, f2⟩ := vx_frame hsame
  rw [hhp] at f1 f2
  have hWs : s.WarmedH U.vm := State.WarmedH.trans hW0 hW
  have hcl : s.vm.findClass cls = some ce.cls := by
    have h9 := hO.cls
    rw [hvm] at h9
    exact h9
  have hall : s.sameButNew ({ U with vm := s.vm } : State) locs mc ms := by
    subst hA
    obtain ⟨e1, e2⟩ := hsame
    rw [State.setFrames_setFrames] at e1
    have h2 : (T.setVm s.vm).sameButNew ({ U with vm := s.vm } : State) [] (0 + 1) (0 + 6) := ⟨e1, e2⟩
    have h3 := X.same.trans h2
    rw [List.append_nil] at h3
    exact h3.mono hc hs
  refine ⟨U, ?_, .threw T.heap.size, hrun, hend, Or.inr ⟨T.heap.size, rfl, cls, ce, locs, hx U hWs.alike f1 (fun q hq => f2 q hq (fun z hz => nomatch hz)), hce, hO.vm, hcl, hWs, hall, hf⟩⟩
  refine st1 _ ?_
  show Steps p.tables e below (T1.setTop { method := m, pc := pc + 3, locals := ls, stack := .ref T.heap.size :: rest, locked := none }) _
  jvm_step X₁.here [X₁.here.top, hexec, d3', Value.category]
  exact X₁.ldcStringW hexec (own := own) (text := text) (index := is) (a := sa) hown' hstr'.1 hstr'.2
    (g := { method := m, pc := pc + 4, locals := ls, stack := .ref T.heap.size :: .ref T.heap.size :: rest, locked := none }) rfl d4' _ hsteps
end Ends
section Bodies
variable {l : Launch}
theorem vx_ofW {y : MethodName} {ws ws' : List Cond} {rm : Room} {Pc : Array Value → State → Prop} {Qc : Array Value → State → Outcome → State → Prop} {XC : String → State → State → Prop} {mc ms : Nat} {free : Addr → Prop} {cc : ByteArray} {maxL : Nat} {ret : Option FieldType}
    (hy : plainName y.cls = true) (hw : ws = Cond.code y cc maxL ret :: ws')
    (body : ∀ p e s m args below meth c s₁, BodyLoose p l y (headSpec ws rm) cc maxL ret e s m args below meth c s₁ → c.maxLocals = maxL → (∀ x ∈ c.exceptionTable.toList, False) → Pc args s →
      W p l e (headSpec ws rm).room s m args below meth c s.heap [] 0 0 (vx_MQ below Qc XC args s mc ms free) (entryFrame m args maxL)) : vx_Met l y ws rm Pc Qc XC mc ms free := by
  refine MetFree.of_bodyS (code := cc) (maxLocals := maxL) (ret := ret) hy ?_ ?_
  · intro args s m h hn
    obtain ⟨meth, c, h1, h2, h3, h4, h5, h6, -, -⟩ := Cond.code_spec hn (atoms_spec (ws := ws) h _ (by rw [hw]; exact List.mem_cons_self))
    exact ⟨meth, c, h1, h2, h3, h4, h5, h6⟩
  · intro p e s m args below meth c s₁ B hml hP _
    have hh0 : s₁.heap = s.heap := by rw [B.state]; rfl
    have ht : ∀ x ∈ c.exceptionTable.toList, False := by
      obtain ⟨meth9, c9, h1, h2, -, -, -, -, h7, -⟩ := Cond.code_spec B.named (atoms_spec (ws := ws) B.pre _ (by rw [hw]; exact List.mem_cons_self))
      cases Option.some.inj (h1.symm.trans B.method)
      cases Option.some.inj (h2.symm.trans (Stand.of_body B).code)
      intro x hx
      rw [Array.isEmpty_iff.mp h7] at hx
      cases hx
    obtain ⟨t, a1, o, b1, b2, b3⟩ := body p e s m args below meth c s₁ B hml ht hP s₁ hh0 (Stand.of_body B)
    exact ⟨t, o, a1, b1, b2, b3⟩
/-- the table of a body with handlers -/
theorem vx_table {p : Program} {x y : MethodName} {S : Spec} {cc bytes : ByteArray} {maxL maxL' : Nat} {ret ret' : Option FieldType} {e : Env} {s s₁ : State} {m : MethodId} {args : Array Value} {below : List Frame} {meth : Method} {c : Code} {hh : List (Nat × Nat × Nat × Nat)}
    (B : BodyLoose p l y S cc maxL ret e s m args below meth c s₁) (h : (Cond.codeWith y bytes maxL' ret' hh).before args s = true) : c.exceptionTable.toList = tableOf hh := by
  obtain ⟨m9, meth9, c9, hn9, h1, h2, -, -, h6, -⟩ := Cond.codeWith_spec h
  cases Option.some.inj (hn9.symm.trans B.named)
  cases Option.some.inj (h1.symm.trans B.method)
  cases Option.some.inj (h2.symm.trans (Stand.of_body B).code)
  rw [← h6, table_eq]
end Bodies
end VXA
/-! ===== END ===== -/
/-! ===== BEGIN a static call of a method with an exception table ===== -/
section VXS
variable {p : Program} {l : Launch} {e : Env} {R : Room} {s : State} {m : MethodId} {args : Array Value} {below : List Frame} {meth : Method} {c : Code} {T : State} {H : Heap} {locs : List Loc} {cells slots : Nat}
abbrev vx_CSW (R : Room) (s : State) (args : Array Value) (own : String) (index : Nat) (y : MethodName) (bytes : ByteArray) (maxL : Nat) (ret : Option FieldType) (hh : List (Nat × Nat × Nat × Nat)) (ws : List Cond) (rm : Room) (mc ms n : Nat) : Prop :=
  (rm.cells = mc ∧ rm.slots = ms ∧ rm.frames + 1 ≤ R.frames ∧ 8 + (maxL + 11) + rm.locals ≤ R.locals ∧ (∀ w ∈ ws, ∀ (a' : Array Value) (U : State), s.WarmedH U.vm → w.before a' U = true) ∧ Cond.codeWith y bytes maxL ret hh ∈ ws) ∧
  (Cond.codeWith y bytes maxL ret hh).before args s = true ∧ (Cond.initialized y.cls).before args s = true ∧ (y.cls ≠ "java/lang/invoke/MethodHandle" ∧ y.cls ≠ "java/lang/invoke/VarHandle") ∧
  (∀ sig, parseMethodDescriptor y.desc = some sig → n = sig.parameters.length) ∧ (Cond.methodLink own index y).before args s = true ∧ (Cond.static y).before args s = true
theorem vx_cwSW {own : String} {index maxL mc ms : Nat} {y : MethodName} {bytes : ByteArray} {ret : Option FieldType} {hh : List (Nat × Nat × Nat × Nat)} {Ts ws ws' : List Cond} {rm : Room} (n : Nat) (ht : ∀ w ∈ Ts, w.before args s = true) (hT : GoodIn Ts (va_wsS own index y ws)) (hw : ws = Cond.codeWith y bytes maxL ret hh :: ws') (hrc : rm.cells = mc) (hrs : rm.slots = ms)
    (hd : y.cls ≠ "java/lang/invoke/MethodHandle" ∧ y.cls ≠ "java/lang/invoke/VarHandle" ∧ (parseMethodDescriptor y.desc).map (fun d => d.parameters.length) = some n) (hR : rm.frames + 1 ≤ R.frames ∧ 8 + (maxL + 11) + rm.locals ≤ R.locals) :
    vx_CSW R s args own index y bytes maxL ret hh ws rm mc ms n := by
  have ok : ∀ w ∈ va_wsS own index y ws, w.before args s = true := fun w h => ht w (hT w h).1
  have hG : GoodIn Ts ws := fun w h => hT w (by unfold va_wsS; exact List.mem_append_right _ h)
  have hc : Cond.codeWith y bytes maxL ret hh ∈ ws := by rw [hw]; exact List.mem_cons_self
  refine ⟨⟨hrc, hrs, hR.1, hR.2, pay_in ht hG, hc⟩, ht _ (hG _ hc).1, ok _ (by simp [va_wsS]), ⟨hd.1, hd.2.1⟩, fun sig h => ?_, ok _ (by simp [va_wsS]), ok _ (by simp [va_wsS])⟩
  have h2 := hd.2.2
  rw [h] at h2
  exact (Option.some.inj h2).symm
theorem vx_callSW (X : Stand p l e R s m args below meth c T locs cells slots) (hexec : p.tables.exec = Jvm.exec) {own : String} {index : Nat} {y : MethodName} {bytes : ByteArray} {maxL : Nat} {ret : Option FieldType} {hh : List (Nat × Nat × Nat × Nat)}
    (hown : s.vm.findClass own = some m.cls) (hlink : (Cond.methodLink own index y).before args s = true) (hstat : (Cond.static y).before args s = true) (hinit : (Cond.initialized y.cls).before args s = true)
    (hcode : (Cond.codeWith y bytes maxL ret hh).before args s = true) (hy : y.cls ≠ "java/lang/invoke/MethodHandle" ∧ y.cls ≠ "java/lang/invoke/VarHandle")
    {W9 : Nat} {Pre : Pt → Array Value → Prop} {Post : Pt → Array Value → Option Value → Pt → Prop} (hK : Back l R p e below s args y 3 W9 Pre Post)
    {g : JFrame} (hg : g.method = m) (hsize : g.locals.size = c.maxLocals) {argsL rest : List Value} (hlen : ∀ sig, parseMethodDescriptor y.desc = some sig → argsL.length = sig.parameters.length)
    (hstack : g.stack = argsL.reverse ++ rest) (hW : 2 * g.monitorRoom + (rest.map fun v => v.category).sum ≤ W9) (hdg : decode c.code g.pc = .ok (.invokestatic index, 3))
    (hpre : ∀ vm₁, s.WarmedH vm₁ → Pre ⟨T.setVm vm₁, locs, cells, slots⟩ argsL.toArray) :
    ∃ (v : Option Value) (vm₁ : Vm) (B : Pt), s.WarmedH vm₁ ∧ Stand p l e R s m args below meth c B.U B.locs B.cells B.slots ∧ Post ⟨T.setVm vm₁, locs, cells, slots⟩ argsL.toArray v B ∧
      ∀ target, Steps p.tables e below (B.U.setTop { g with pc := g.pc + 3, stack := v.toList ++ rest }) target → Steps p.tables e below (T.setTop g) target := by
  obtain ⟨mk, methM, cM, hnamed, hmethM, -, -, -, -, -, -, hsigM⟩ := Cond.codeWith_spec hcode
  have hstatic : methM.isStatic = true := Cond.static_spec hnamed hmethM hstat
  obtain ⟨kP, hkP, -⟩ := className_of_methodNamed hnamed
  have hinitP : kP.init = .initialized := Cond.initialized_spec (findClass_of_methodNamed hnamed) hkP hinit
  obtain ⟨vm₁, X₁, hstep₁⟩ := X.invokestatic hexec hown hlink hnamed hmethM hstatic hkP hinitP hy (g := g) hg (argsL := argsL) (rest := rest) (hlen _ hsigM) hstack hdg
  obtain ⟨v, B, X', hpost, hsteps⟩ := hK m meth c ⟨T.setVm vm₁, locs, cells, slots⟩ { g with stack := rest } (.invokestatic index) mk argsL.toArray X₁ hg hsize hdg hW (X₁.named hnamed) (hpre vm₁ X₁.warmed)
  exact ⟨v, vm₁, B, X₁.warmed, X', hpost, fun target h => hstep₁ _ fun acts => by rw [doInvoke_state]; exact hsteps.trans h⟩
theorem vx_runSW {y : MethodName} {bytes cc : ByteArray} {maxL nL mc ms n index : Nat} {ret : Option FieldType} {hh : List (Nat × Nat × Nat × Nat)} {ws : List Cond} {rm : Room} {Pc : Array Value → State → Prop} {Qc : Array Value → State → Outcome → State → Prop} {free : Addr → Prop} {Ts : List Cond} {own : String} {As rest : List Value} {g : JFrame}
    (S : CallFix p m c cc nL s args Ts own) (hM : Met l y ws rm Pc Qc mc ms free) (cw : vx_CSW R s args own index y bytes maxL ret hh ws rm mc ms n) (hp : PreS s H Pc As)
    (hg : g.method = m) (hn : As.length = n) (hsize : g.locals.size = nL) (hstack : g.stack = As.reverse ++ rest) (hW : 2 * g.monitorRoom + (rest.map fun v => v.category).sum ≤ 8) (hdg : decode cc g.pc = .ok (.invokestatic index, 3)) (hf : cells + mc ≤ R.cells ∧ slots + ms ≤ R.slots) :
    va_Run p l e R s m args below meth c H locs cells slots mc ms g rest (Qc As.toArray) (free) := by
  obtain ⟨⟨hrc, hrs, hfr, hlo, hws, hcw⟩, hcode, hini, hy, hlen, hl, hstt⟩ := cw
  have hK : Back l R p e below s args y 3 8 (PreOf R mc ms Pc) (PostOf Qc mc ms free) := va_backW (hh := hh) (bytes := bytes) (maxL := maxL) (ret := ret) hM hp.1 hrc hrs hfr hlo hws hcw (fun a' U hW => word_at hW (Or.inl (by first | rfl | simp [Cond.onTables, Cond.keeps, Cond.steady])) hini)
  obtain ⟨hx, hb, hml, ho, -⟩ := S
  intro T hT X
  obtain ⟨v, vm₁, ⟨U', l2, c2, s2⟩, hW₁, X', ⟨g', mk, t, L, e1, e2, hq, h1, hL, h2, h3⟩, st⟩ := vx_callSW X hx (hh := hh) (bytes := bytes) (maxL := maxL) (ret := ret) ho hl hstt hini hcode hy hK hg (hsize.trans hml.symm) (argsL := As) (rest := rest) (fun sig h => hn.trans (hlen sig h)) hstack hW (by rw [hb]; exact hdg)
    (fun vm₁ hW₁ => ⟨hf.1, hf.2, hp.2 (T.setVm vm₁) hT hW₁⟩)
  dsimp only [Pt.U, Pt.locs, Pt.cells, Pt.slots] at X' e1 e2 h1 h2 h3 st
  subst h1; subst h2; subst h3
  exact ⟨v, (T.setVm vm₁).calling g' mk As.toArray, t, U', L, hT, X', hL, e1, e2, hq, st⟩
/-- not caught here, past rows that name other classes: it goes on to the caller -/
theorem vx_outP {p : Program} {l : Launch} {e : Env} {R : Room} {s : State} {m : MethodId} {args : Array Value} {below : List Frame} {meth : Method} {c : Code} {H : Heap} {locs : List Loc} {cells slots : Nat} {free : Addr → Prop} {ls : Array Slot} {rest : List Value} {Qc : Array Value → State → Outcome → State → Prop} {XC : String → State → State → Prop}
    {pc : Nat} {own E : String} {ce : Cell} {q : Addr} {mc ms : Nat} (hown : s.vm.findClass own = some m.cls) (hlocks : meth.locks = false)
    (hpass : ∀ z ∈ c.exceptionTable.toList, covers z pc = false ∨ (z.catchType ≠ 0 ∧ ∃ nm : String, (Cond.classLink own z.catchType nm).before args s = true ∧ va_Nc E nm s)) (hcell : H[q]? = some ce) (hv : ce.vm = .none) (hcl : s.vm.findClass E = some ce.cls)
    (hx : ∀ t : State, t.heap = H → s.vm.Alike t.vm → XC E s t) (hf : ∀ z ∈ locs, free z.base) (hc : cells ≤ mc) (hs : slots ≤ ms) :
    vx_W p l e R s m args below meth c H locs cells slots (vx_MQ below Qc XC args s mc ms free) (F0 m pc ls rest) q := by
  intro T hT X
  have hpl : e.platform.magicAccessors = ({} : Platform).magicAccessors := by rw [X.admits.platform]
  obtain ⟨vm', hW', X', st⟩ := X.outThrough hlocks q (g := F0 m pc ls rest) rfl rfl rfl (cell := ce) (by rw [hT]; exact hcell) (by rw [hv]; rfl)
    (by obtain ⟨k9, h9, -⟩ := Vm.findClass_spec hcl; exact ⟨k9, h9⟩) (fun z hz => by
      rcases hpass z hz with h | ⟨hz0, nm, hl1, hn1⟩
      · exact Or.inl h
      · obtain ⟨c6, hc6, hcl6⟩ := Cond.classLink_spec hown hl1 e.platform hpl
        obtain ⟨a8, b8, h1, h2, h3⟩ := hn1
        cases Option.some.inj (h1.symm.trans hcl)
        cases Option.some.inj (h2.symm.trans hc6)
        exact Or.inr ⟨hz0, _, hcl6, h3⟩)
  obtain ⟨g₀, hfr⟩ := X'.frames_eq
  have hcell9 : ((T.setVm vm').setFrames (.throwing q :: below)).heap[q]? = some ce := by
    show T.heap[q]? = some ce
    rw [hT]; exact hcell
  have hend : Ended ((T.setVm vm').setFrames (.throwing q :: below)) below (.threw q) := State.frames_setFrames _ (State.cur_lt_of_frames hfr)
  refine ⟨(T.setVm vm').setFrames (.throwing q :: below), ?_, .threw q, X'.here.running, hend, Or.inr ⟨q, rfl, E, ce, locs, hx _ hT (X'.ends _).1.alike, hcell9, hv, hcl, (X'.ends _).1, (X'.ends _).2.mono hc hs, hf⟩⟩
  rw [X.pushThrowing_eq]
  exact st
/-- a thing of a world lies in the heap -/
theorem vx_lt {D : va_G} {cl : List vw_C} {ws : va_W} {H1 : Heap} (h : va_P D cl ws H1) {k : Nat} {q : Nat × va_E} (hk : ws[k]? = some q) : q.1 < H1.size := (h k q hk).lt
end VXS
/-! ===== END ===== -/
/-! ===== BEGIN methods with a table of their own: called by a name, returning or throwing ===== -/
section VXH
/-! vx_backW, vx_callVX, vx_callSX, vx_callVW, vx_runVW, vx_runVX, vx_runSX, vx_ofWH follow the same proofs as their sisters above (Free/Laws.lean, Shelf42/LK1.lean); vx_outP calls Shelf42/NT130.lean (outThrough). -/
section
variable {l : Launch} {R : Room} {p : Program} {e : Env} {below : List Frame} {s : State} {sargs : Array Value} {y : MethodName} {len W9 : Nat}
theorem vx_backW {ws : List Cond} {rm : Room} {Pc : Array Value → State → Prop} {Qc : Array Value → State → Outcome → State → Prop} {XC : String → State → State → Prop} {mc ms : Nat} {free : Addr → Prop} {bytes : ByteArray} {maxL : Nat} {ret : Option FieldType} {hh : List (Nat × Nat × Nat × Nat)}
    (hM : vx_Met l y ws rm Pc Qc XC mc ms free) (hblind : FrameBlind Pc) (hrc : rm.cells = mc) (hrs : rm.slots = ms)
    (hframes : rm.frames + 1 ≤ R.frames) (hlocals : W9 + (maxL + 11) + rm.locals ≤ R.locals)
    (hws : ∀ w ∈ ws, ∀ a' U, s.WarmedH U.vm → w.before a' U = true) (hcode : Cond.codeWith y bytes maxL ret hh ∈ ws) (hinit : ∀ a' U, s.WarmedH U.vm → (Cond.initialized y.cls).before a' U = true) :
    vx_Back l R p e below s sargs y len W9 (PreOf R mc ms Pc) (PostOf Qc mc ms free) (vx_Post XC mc ms free) := by
  intro m meth c A g ig mk a X hg hsize hdg hW hn hp
  have h1 : (headSpec ws rm).pre.before a A.U = true := atoms_intro fun w hw => hws w hw _ _ X.warmed
  have h2 : (Cond.codeWith y bytes maxL ret hh).before a A.U = true := hws _ hcode _ _ X.warmed
  have h3 : (Cond.initialized y.cls).before a A.U = true := hinit _ _ X.warmed
  have h4 : A.cells + (headSpec ws rm).room.cells ≤ R.cells := by rw [show (headSpec ws rm).room.cells = mc from hrc]; exact hp.1
  have h5 : A.slots + (headSpec ws rm).room.slots ≤ R.slots := by rw [show (headSpec ws rm).room.slots = ms from hrs]; exact hp.2.1
  have hPc : Pc a (A.U.calling g mk a) := hblind _ _ _ _ hp.2.2
  obtain ⟨U, Ls, c0, s0⟩ := A
  dsimp only [Pt.U, Pt.locs, Pt.cells, Pt.slots] at h1 h2 h3 h4 h5 X hn hPc ⊢
  obtain ⟨m9, methY, cY, hn9, hmY, hcY, -, hlY, -⟩ := Cond.codeWith_spec h2
  cases Option.some.inj (hn9.symm.trans hn)
  obtain ⟨kY, hkY, -⟩ := className_of_methodNamed hn
  have hinitY : kY.init = .initialized := Cond.initialized_spec (findClass_of_methodNamed hn) hkY h3
  have h : At U g.method c below := by rw [hg]; exact X.here
  have hlocals9 : W9 + (maxL + 11) + (headSpec ws rm).room.locals ≤ R.locals := hlocals
  have happ : (headSpec ws rm).appliesLoose y e.platform (U.calling g mk a) = true :=
    Spec.appliesLoose_calling (g := g) h hdg hn hkY hinitY
      (X.room_calling (g := g) (R' := (headSpec ws rm).room) hsize hmY hcY hframes (by rw [hlY]; omega) h4 h5) h1
  obtain ⟨mid, hmid⟩ := h.above
  have hfr : (U.setTop g).frames = (.java g :: mid) ++ below := by rw [State.frames_setTop' g h.top, hmid]; rfl
  obtain ⟨o, s₂, hsteps, -, hend, hq⟩ := Steps.callFree hM p X.admits X.cas X.clock (acts := []) hfr happ hPc trivial
  have hq' : vx_Q Qc XC mc ms free a (U.calling g mk a) o s₂ := hq
  rw [State.frames_setTop' g h.top] at hend
  obtain ⟨g₀, hg0⟩ := Option.isSome_iff_exists.mp h.top
  obtain ⟨r, hr⟩ := State.topJava?_eq_some.mp hg0
  have hr' : (({ U with heap := s₂.heap, slotsUsed := s₂.slotsUsed } : State).setVm s₂.vm).frames = .java g₀ :: r := hr
  rcases hq' with ⟨hqc, L, hfe, hL⟩ | ⟨q, rfl, E, ce, L, hx, hce, hcv, hcl, hW₂, hsm, hL⟩
  · obtain ⟨⟨v, rfl⟩, hW₂, e2, q2, q3, q4, q5, q6⟩ := id hfe
    have e3 : s₂ = ({ (U.calling g mk a).setFrames s₂.frames with heap := s₂.heap, slotsUsed := s₂.slotsUsed } : State).setVm s₂.vm := by
      have : s₂ = ({ s₂ with vm := (U.calling g mk a).vm } : State).setVm s₂.vm := rfl
      rw [e2] at this
      exact this
    obtain ⟨c₂, i₂, len₂, hc₂, hd₂, hf₂⟩ := hend
    have hW' : U.WarmedH s₂.vm := hW₂
    have hcc : c₂ = c := by
      have h1 : s₂.code? g.method = U.code? g.method := by
        rw [State.code?_eq, State.code?_eq, hW'.alike.method?]
      exact Option.some.inj (hc₂.symm.trans (h1.trans h.code))
    subst hcc
    have hlen : len₂ = len := by rw [hdg] at hd₂; cases hd₂; rfl
    subst hlen
    have hs₂ : s₂ = (({ U with heap := s₂.heap, slotsUsed := s₂.slotsUsed } : State).setVm s₂.vm).setTop { g with pc := g.pc + len₂, stack := v.toList ++ g.stack } := by
      refine e3.trans ?_
      rw [hf₂, State.calling_eq h.top, State.setFrames_setFrames, State.setTop_of_frames _ hr', hr]
      rfl
    have hsame : U.sameButNew ({ U with heap := s₂.heap, slotsUsed := s₂.slotsUsed } : State) L mc ms := by
      refine ⟨?_, q2, q3, q4, q5, q6⟩
      obtain ⟨t, ht, -⟩ := State.frames_cons hr
      show ({ U with heap := s₂.heap, slotsUsed := s₂.slotsUsed } : State) = { U.setFrames U.frames with heap := s₂.heap, slotsUsed := s₂.slotsUsed }
      rw [State.setFrames_self ht]
    subst hg
    refine Or.inl ⟨v, ⟨(({ U with heap := s₂.heap, slotsUsed := s₂.slotsUsed } : State).setVm s₂.vm), Ls ++ L, c0 + mc, s0 + ms⟩,
      ⟨X.admits, X.cas, X.clock, X.frames, X.room, X.hears, X.method, X.code, (X.here.setHeapUsed s₂.heap s₂.slotsUsed).setVm hW'.alike, X.tail, State.WarmedH.trans X.warmed hW', X.limits, X.bytes, X.same.trans (hsame.setVm s.vm)⟩,
      ⟨g, mk, s₂, L, rfl, rfl, hqc, rfl, hL, rfl, rfl⟩, ?_⟩
    show Steps p.tables e below _ ((({ U with heap := s₂.heap, slotsUsed := s₂.slotsUsed } : State).setVm s₂.vm).setTop { g with pc := g.pc + len₂, stack := v.toList ++ g.stack })
    rw [← hs₂]
    exact hsteps
  · obtain ⟨e2, q2, q3, q4, q5, q6⟩ := id hsm
    have e3 : s₂ = ({ (U.calling g mk a).setFrames s₂.frames with heap := s₂.heap, slotsUsed := s₂.slotsUsed } : State).setVm s₂.vm := by
      have : s₂ = ({ s₂ with vm := (U.calling g mk a).vm } : State).setVm s₂.vm := rfl
      rw [e2] at this
      exact this
    have hf₂ : s₂.frames = .throwing q :: .java g :: U.frames.tail := hend
    have hW' : U.WarmedH s₂.vm := hW₂
    have hs₂ : s₂ = ((({ U with heap := s₂.heap, slotsUsed := s₂.slotsUsed } : State).setVm s₂.vm).setTop g).pushFrame (.throwing q) := by
      refine e3.trans ?_
      rw [hf₂, State.calling_eq h.top, State.setFrames_setFrames, State.pushFrame, State.frames_setTop _ hr', State.setTop_of_frames _ hr', State.setFrames_setFrames, hr]
      rfl
    have hsame : U.sameButNew ({ U with heap := s₂.heap, slotsUsed := s₂.slotsUsed } : State) L mc ms := by
      refine ⟨?_, q2, q3, q4, q5, q6⟩
      obtain ⟨t, ht, -⟩ := State.frames_cons hr
      show ({ U with heap := s₂.heap, slotsUsed := s₂.slotsUsed } : State) = { U.setFrames U.frames with heap := s₂.heap, slotsUsed := s₂.slotsUsed }
      rw [State.setFrames_self ht]
    subst hg
    refine Or.inr ⟨q, ⟨(({ U with heap := s₂.heap, slotsUsed := s₂.slotsUsed } : State).setVm s₂.vm), Ls ++ L, c0 + mc, s0 + ms⟩,
      ⟨X.admits, X.cas, X.clock, X.frames, X.room, X.hears, X.method, X.code, (X.here.setHeapUsed s₂.heap s₂.slotsUsed).setVm hW'.alike, X.tail, State.WarmedH.trans X.warmed hW', X.limits, X.bytes, X.same.trans (hsame.setVm s.vm)⟩,
      ⟨g, mk, s₂, L, E, ce, rfl, rfl, hx, hce, hcv, hcl, rfl, hL, rfl, rfl⟩, ?_⟩
    show Steps p.tables e below _ (((({ U with heap := s₂.heap, slotsUsed := s₂.slotsUsed } : State).setVm s₂.vm).setTop g).pushFrame (.throwing q))
    rw [← hs₂]
    exact hsteps
end
variable {p : Program} {l : Launch} {e : Env} {R : Room} {s : State} {m : MethodId} {args : Array Value} {below : List Frame} {meth : Method} {c : Code} {T : State} {H : Heap} {locs : List Loc} {cells slots : Nat}
theorem vx_callVX (X : Stand p l e R s m args below meth c T locs cells slots) (hexec : p.tables.exec = Jvm.exec) {own C : String} {index : Nat} {y : MethodName} {bytes : ByteArray} {maxL : Nat} {ret : Option FieldType} {hh : List (Nat × Nat × Nat × Nat)}
    (hown : s.vm.findClass own = some m.cls) (hlink : (Cond.methodLink own index y).before args s = true) (hinst : (Cond.instanceMethod y).before args s = true) (hsel : (Cond.selects C y y).before args s = true)
    (hcode : (Cond.codeWith y bytes maxL ret hh).before args s = true) (hy : y.cls ≠ "java/lang/invoke/MethodHandle" ∧ y.cls ≠ "java/lang/invoke/VarHandle")
    {W9 : Nat} {Pre : Pt → Array Value → Prop} {Post : Pt → Array Value → Option Value → Pt → Prop} {PostX : Pt → Array Value → Addr → Pt → Prop} (hK : vx_Back l R p e below s args y 3 W9 Pre Post PostX)
    {b : Addr} {cellB : Cell} (hcell : T.heap[b]? = some cellB) (hobj : cellB.vm.isStatics = false) (hcls : s.vm.findClass C = some cellB.cls)
    {g : JFrame} (hg : g.method = m) (hsize : g.locals.size = c.maxLocals) {argsL rest : List Value} (hlen : ∀ sig, parseMethodDescriptor y.desc = some sig → argsL.length = sig.parameters.length)
    (hstack : g.stack = argsL.reverse ++ .ref b :: rest) (hW : 2 * g.monitorRoom + (rest.map fun v => v.category).sum ≤ W9) (hdg : decode c.code g.pc = .ok (.invokevirtual index, 3))
    (hpre : ∀ vm₁, s.WarmedH vm₁ → Pre ⟨T.setVm vm₁, locs, cells, slots⟩ (Value.ref b :: argsL).toArray) :
    (∃ (v : Option Value) (vm₁ : Vm) (B : Pt), s.WarmedH vm₁ ∧ Stand p l e R s m args below meth c B.U B.locs B.cells B.slots ∧ Post ⟨T.setVm vm₁, locs, cells, slots⟩ (Value.ref b :: argsL).toArray v B ∧
      ∀ target, Steps p.tables e below (B.U.setTop { g with pc := g.pc + 3, stack := v.toList ++ rest }) target → Steps p.tables e below (T.setTop g) target) ∨
    (∃ (q : Addr) (vm₁ : Vm) (B : Pt), s.WarmedH vm₁ ∧ Stand p l e R s m args below meth c B.U B.locs B.cells B.slots ∧ PostX ⟨T.setVm vm₁, locs, cells, slots⟩ (Value.ref b :: argsL).toArray q B ∧
      Steps p.tables e below (T.setTop g) ((B.U.setTop { g with stack := rest }).pushFrame (.throwing q))) := by
  obtain ⟨mk, methM, hnamed, hmethM, hstM, habM⟩ := Cond.instanceMethod_spec hinst
  obtain ⟨m8, methM', cM, hn8, hmethM', -, -, -, -, -, -, hsigM⟩ := Cond.codeWith_spec hcode
  cases Option.some.inj (hn8.symm.trans hnamed)
  cases hmethM.symm.trans hmethM'
  obtain ⟨c2, r2, m2, q1, q2, q3, q4, kP, hkP, hkPi⟩ := Cond.selects_spec hsel
  cases hcls.symm.trans q1
  cases (State.methodFound?_of_named hnamed hy).symm.trans q2
  cases hnamed.symm.trans q3
  have hselP : selectMethod e.platform s.vm cellB.cls mk = .method mk := by rw [Launch.admits_selectMethod X.admits]; exact q4
  obtain ⟨vm₁, X₁, hstep₁⟩ := X.invokevirtual hexec hown hlink hnamed hmethM hstM hkP hkPi hy (a := b) (cell := cellB) hcell
    (fun z h => by rw [h] at hobj; cases hobj) hselP hmethM habM hkP hkPi (g := g) hg (argsL := argsL) (rest := rest) (hlen _ hsigM) hstack hdg
  rcases hK m meth c ⟨T.setVm vm₁, locs, cells, slots⟩ { g with stack := rest } (.invokevirtual index) mk (Value.ref b :: argsL).toArray X₁ hg hsize hdg hW (X₁.named hnamed) (hpre vm₁ X₁.warmed) with ⟨v, B, X', hpost, hsteps⟩ | ⟨q, B, X', hpost, hsteps⟩
  · exact Or.inl ⟨v, vm₁, B, X₁.warmed, X', hpost, fun target h => hstep₁ _ fun acts => by rw [doInvoke_state]; exact hsteps.trans h⟩
  · exact Or.inr ⟨q, vm₁, B, X₁.warmed, X', hpost, hstep₁ _ fun acts => by rw [doInvoke_state]; exact hsteps⟩
theorem vx_callSX (X : Stand p l e R s m args below meth c T locs cells slots) (hexec : p.tables.exec = Jvm.exec) {own : String} {index : Nat} {y : MethodName} {bytes : ByteArray} {maxL : Nat} {ret : Option FieldType} {hh : List (Nat × Nat × Nat × Nat)}
    (hown : s.vm.findClass own = some m.cls) (hlink : (Cond.methodLink own index y).before args s = true) (hstat : (Cond.static y).before args s = true) (hinit : (Cond.initialized y.cls).before args s = true)
    (hcode : (Cond.codeWith y bytes maxL ret hh).before args s = true) (hy : y.cls ≠ "java/lang/invoke/MethodHandle" ∧ y.cls ≠ "java/lang/invoke/VarHandle")
    {W9 : Nat} {Pre : Pt → Array Value → Prop} {Post : Pt → Array Value → Option Value → Pt → Prop} {PostX : Pt → Array Value → Addr → Pt → Prop} (hK : vx_Back l R p e below s args y 3 W9 Pre Post PostX)
    {g : JFrame} (hg : g.method = m) (hsize : g.locals.size = c.maxLocals) {argsL rest : List Value} (hlen : ∀ sig, parseMethodDescriptor y.desc = some sig → argsL.length = sig.parameters.length)
    (hstack : g.stack = argsL.reverse ++ rest) (hW : 2 * g.monitorRoom + (rest.map fun v => v.category).sum ≤ W9) (hdg : decode c.code g.pc = .ok (.invokestatic index, 3))
    (hpre : ∀ vm₁, s.WarmedH vm₁ → Pre ⟨T.setVm vm₁, locs, cells, slots⟩ argsL.toArray) :
    (∃ (v : Option Value) (vm₁ : Vm) (B : Pt), s.WarmedH vm₁ ∧ Stand p l e R s m args below meth c B.U B.locs B.cells B.slots ∧ Post ⟨T.setVm vm₁, locs, cells, slots⟩ argsL.toArray v B ∧
      ∀ target, Steps p.tables e below (B.U.setTop { g with pc := g.pc + 3, stack := v.toList ++ rest }) target → Steps p.tables e below (T.setTop g) target) ∨
    (∃ (q : Addr) (vm₁ : Vm) (B : Pt), s.WarmedH vm₁ ∧ Stand p l e R s m args below meth c B.U B.locs B.cells B.slots ∧ PostX ⟨T.setVm vm₁, locs, cells, slots⟩ argsL.toArray q B ∧
      Steps p.tables e below (T.setTop g) ((B.U.setTop { g with stack := rest }).pushFrame (.throwing q))) := by
  obtain ⟨mk, methM, cM, hnamed, hmethM, -, -, -, -, -, -, hsigM⟩ := Cond.codeWith_spec hcode
  have hstatic : methM.isStatic = true := Cond.static_spec hnamed hmethM hstat
  obtain ⟨kP, hkP, -⟩ := className_of_methodNamed hnamed
  have hinitP : kP.init = .initialized := Cond.initialized_spec (findClass_of_methodNamed hnamed) hkP hinit
  obtain ⟨vm₁, X₁, hstep₁⟩ := X.invokestatic hexec hown hlink hnamed hmethM hstatic hkP hinitP hy (g := g) hg (argsL := argsL) (rest := rest) (hlen _ hsigM) hstack hdg
  rcases hK m meth c ⟨T.setVm vm₁, locs, cells, slots⟩ { g with stack := rest } (.invokestatic index) mk argsL.toArray X₁ hg hsize hdg hW (X₁.named hnamed) (hpre vm₁ X₁.warmed) with ⟨v, B, X', hpost, hsteps⟩ | ⟨q, B, X', hpost, hsteps⟩
  · exact Or.inl ⟨v, vm₁, B, X₁.warmed, X', hpost, fun target h => hstep₁ _ fun acts => by rw [doInvoke_state]; exact hsteps.trans h⟩
  · exact Or.inr ⟨q, vm₁, B, X₁.warmed, X', hpost, hstep₁ _ fun acts => by rw [doInvoke_state]; exact hsteps⟩
theorem vx_callVW (X : Stand p l e R s m args below meth c T locs cells slots) (hexec : p.tables.exec = Jvm.exec) {own C : String} {index : Nat} {y : MethodName} {bytes : ByteArray} {maxL : Nat} {ret : Option FieldType} {hh : List (Nat × Nat × Nat × Nat)}
    (hown : s.vm.findClass own = some m.cls) (hlink : (Cond.methodLink own index y).before args s = true) (hinst : (Cond.instanceMethod y).before args s = true) (hsel : (Cond.selects C y y).before args s = true)
    (hcode : (Cond.codeWith y bytes maxL ret hh).before args s = true) (hy : y.cls ≠ "java/lang/invoke/MethodHandle" ∧ y.cls ≠ "java/lang/invoke/VarHandle")
    {W9 : Nat} {Pre : Pt → Array Value → Prop} {Post : Pt → Array Value → Option Value → Pt → Prop} (hK : Back l R p e below s args y 3 W9 Pre Post)
    {b : Addr} {cellB : Cell} (hcell : T.heap[b]? = some cellB) (hobj : cellB.vm.isStatics = false) (hcls : s.vm.findClass C = some cellB.cls)
    {g : JFrame} (hg : g.method = m) (hsize : g.locals.size = c.maxLocals) {argsL rest : List Value} (hlen : ∀ sig, parseMethodDescriptor y.desc = some sig → argsL.length = sig.parameters.length)
    (hstack : g.stack = argsL.reverse ++ .ref b :: rest) (hW : 2 * g.monitorRoom + (rest.map fun v => v.category).sum ≤ W9) (hdg : decode c.code g.pc = .ok (.invokevirtual index, 3))
    (hpre : ∀ vm₁, s.WarmedH vm₁ → Pre ⟨T.setVm vm₁, locs, cells, slots⟩ (Value.ref b :: argsL).toArray) :
    ∃ (v : Option Value) (vm₁ : Vm) (B : Pt), s.WarmedH vm₁ ∧ Stand p l e R s m args below meth c B.U B.locs B.cells B.slots ∧ Post ⟨T.setVm vm₁, locs, cells, slots⟩ (Value.ref b :: argsL).toArray v B ∧
      ∀ target, Steps p.tables e below (B.U.setTop { g with pc := g.pc + 3, stack := v.toList ++ rest }) target → Steps p.tables e below (T.setTop g) target := by
  obtain ⟨mk, methM, hnamed, hmethM, hstM, habM⟩ := Cond.instanceMethod_spec hinst
  obtain ⟨m8, methM', cM, hn8, hmethM', -, -, -, -, -, -, hsigM⟩ := Cond.codeWith_spec hcode
  cases Option.some.inj (hn8.symm.trans hnamed)
  cases hmethM.symm.trans hmethM'
  obtain ⟨c2, r2, m2, q1, q2, q3, q4, kP, hkP, hkPi⟩ := Cond.selects_spec hsel
  cases hcls.symm.trans q1
  cases (State.methodFound?_of_named hnamed hy).symm.trans q2
  cases hnamed.symm.trans q3
  have hselP : selectMethod e.platform s.vm cellB.cls mk = .method mk := by rw [Launch.admits_selectMethod X.admits]; exact q4
  obtain ⟨vm₁, X₁, hstep₁⟩ := X.invokevirtual hexec hown hlink hnamed hmethM hstM hkP hkPi hy (a := b) (cell := cellB) hcell
    (fun z h => by rw [h] at hobj; cases hobj) hselP hmethM habM hkP hkPi (g := g) hg (argsL := argsL) (rest := rest) (hlen _ hsigM) hstack hdg
  obtain ⟨v, B, X', hpost, hsteps⟩ := hK m meth c ⟨T.setVm vm₁, locs, cells, slots⟩ { g with stack := rest } (.invokevirtual index) mk (Value.ref b :: argsL).toArray X₁ hg hsize hdg hW (X₁.named hnamed) (hpre vm₁ X₁.warmed)
  exact ⟨v, vm₁, B, X₁.warmed, X', hpost, fun target h => hstep₁ _ fun acts => by rw [doInvoke_state]; exact hsteps.trans h⟩
abbrev vx_CVW (R : Room) (s : State) (args : Array Value) (own C : String) (index : Nat) (y : MethodName) (bytes : ByteArray) (maxL : Nat) (ret : Option FieldType) (hh : List (Nat × Nat × Nat × Nat)) (ws : List Cond) (rm : Room) (mc ms n : Nat) : Prop :=
  (rm.cells = mc ∧ rm.slots = ms ∧ rm.frames + 1 ≤ R.frames ∧ 8 + (maxL + 11) + rm.locals ≤ R.locals ∧ (∀ w ∈ ws, ∀ (a' : Array Value) (U : State), s.WarmedH U.vm → w.before a' U = true) ∧ Cond.codeWith y bytes maxL ret hh ∈ ws) ∧
  (Cond.codeWith y bytes maxL ret hh).before args s = true ∧ (Cond.initialized y.cls).before args s = true ∧ (y.cls ≠ "java/lang/invoke/MethodHandle" ∧ y.cls ≠ "java/lang/invoke/VarHandle") ∧
  (∀ sig, parseMethodDescriptor y.desc = some sig → n = sig.parameters.length) ∧ (Cond.methodLink own index y).before args s = true ∧ (Cond.instanceMethod y).before args s = true ∧ (Cond.selects C y y).before args s = true
theorem vx_cwVW {own C : String} {index maxL mc ms : Nat} {y : MethodName} {bytes : ByteArray} {ret : Option FieldType} {hh : List (Nat × Nat × Nat × Nat)} {Ts ws ws' : List Cond} {rm : Room} (n : Nat) (ht : ∀ w ∈ Ts, w.before args s = true) (hT : GoodIn Ts (wsV own index C y ws)) (hw : ws = Cond.codeWith y bytes maxL ret hh :: ws') (hrc : rm.cells = mc) (hrs : rm.slots = ms)
    (hd : y.cls = C ∧ y.cls ≠ "java/lang/invoke/MethodHandle" ∧ y.cls ≠ "java/lang/invoke/VarHandle" ∧ (parseMethodDescriptor y.desc).map (fun d => d.parameters.length) = some n) (hR : rm.frames + 1 ≤ R.frames ∧ 8 + (maxL + 11) + rm.locals ≤ R.locals) :
    vx_CVW R s args own C index y bytes maxL ret hh ws rm mc ms n := by
  obtain ⟨hC, hd⟩ := hd
  subst hC
  have ok : ∀ w ∈ wsV own index y.cls y ws, w.before args s = true := fun w h => ht w (hT w h).1
  have hG : GoodIn Ts ws := fun w h => hT w (by unfold wsV; exact List.mem_append_right _ h)
  have hc : Cond.codeWith y bytes maxL ret hh ∈ ws := by rw [hw]; exact List.mem_cons_self
  refine ⟨⟨hrc, hrs, hR.1, hR.2, pay_in ht hG, hc⟩, ht _ (hG _ hc).1, ok _ (by simp [wsV]), ⟨hd.1, hd.2.1⟩, fun sig h => ?_, ok _ (by simp [wsV]), ok _ (by simp [wsV]), ok _ (by simp [wsV])⟩
  have h2 := hd.2.2
  rw [h] at h2
  exact (Option.some.inj h2).symm
theorem vx_runVW {y : MethodName} {bytes cc : ByteArray} {maxL nL mc ms n index : Nat} {ret : Option FieldType} {hh : List (Nat × Nat × Nat × Nat)} {ws : List Cond} {rm : Room} {Pc : Array Value → State → Prop} {Qc : Array Value → State → Outcome → State → Prop} {free : Addr → Prop} {Ts : List Cond} {own C : String} {b : Addr} {As rest : List Value} {g : JFrame}
    (S : CallFix p m c cc nL s args Ts own) (hM : Met l y ws rm Pc Qc mc ms free) (cw : vx_CVW R s args own C index y bytes maxL ret hh ws rm mc ms n) (hp : PreV s H C b Pc As)
    (hg : g.method = m) (hn : As.length = n) (hsize : g.locals.size = nL) (hstack : g.stack = As.reverse ++ .ref b :: rest) (hW : 2 * g.monitorRoom + (rest.map fun v => v.category).sum ≤ 8) (hdg : decode cc g.pc = .ok (.invokevirtual index, 3)) (hf : cells + mc ≤ R.cells ∧ slots + ms ≤ R.slots) :
    va_Run p l e R s m args below meth c H locs cells slots mc ms g rest (Qc (Value.ref b :: As).toArray) free := by
  obtain ⟨⟨hrc, hrs, hfr, hlo, hws, hcw⟩, hcode, hini, hy, hlen, hl, hin, hse⟩ := cw
  have hK : Back l R p e below s args y 3 8 (PreOf R mc ms Pc) (PostOf Qc mc ms free) := va_backW (hh := hh) (bytes := bytes) (maxL := maxL) (ret := ret) hM hp.1 hrc hrs hfr hlo hws hcw (fun a' U hW => word_at hW (Or.inl (by first | rfl | simp [Cond.onTables, Cond.keeps, Cond.steady])) hini)
  obtain ⟨hx, hb, hml, ho, -⟩ := S
  obtain ⟨-, ⟨cellB, hcB, hoB, hclB⟩, hPc⟩ := hp
  intro T hT X
  obtain ⟨v, vm₁, ⟨U', l2, c2, s2⟩, hW₁, X', ⟨g', mk, t, L, e1, e2, hq, h1, hL, h2, h3⟩, st⟩ := vx_callVW X hx (C := C) (hh := hh) (bytes := bytes) (maxL := maxL) (ret := ret) ho hl hin hse hcode hy hK (by rw [hT]; exact hcB) hoB hclB hg (hsize.trans hml.symm) (argsL := As) (rest := rest) (fun sig h => hn.trans (hlen sig h)) hstack hW (by rw [hb]; exact hdg)
    (fun vm₁ hW₁ => ⟨hf.1, hf.2, hPc (T.setVm vm₁) hT hW₁⟩)
  dsimp only [Pt.U, Pt.locs, Pt.cells, Pt.slots] at X' e1 e2 h1 h2 h3 st
  subst h1; subst h2; subst h3
  exact ⟨v, (T.setVm vm₁).calling g' mk (Value.ref b :: As).toArray, t, U', L, hT, X', hL, e1, e2, hq, st⟩
section
variable {y : MethodName} {bytes cc : ByteArray} {maxL nL mc ms n index : Nat} {ret : Option FieldType} {ws : List Cond} {rm : Room} {Pc : Array Value → State → Prop} {Qc : Array Value → State → Outcome → State → Prop} {XC : String → State → State → Prop} {free : Addr → Prop} {Ts : List Cond} {own C : String} {b : Addr} {As rest : List Value} {g : JFrame}
theorem vx_runVX {hh : List (Nat × Nat × Nat × Nat)} (S : CallFix p m c cc nL s args Ts own) (hM : vx_Met l y ws rm Pc Qc XC mc ms free) (cw : vx_CVW R s args own C index y bytes maxL ret hh ws rm mc ms n) (hp : PreV s H C b Pc As)
    (hg : g.method = m) (hn : As.length = n) (hsize : g.locals.size = nL) (hstack : g.stack = As.reverse ++ .ref b :: rest) (hW : 2 * g.monitorRoom + (rest.map fun v => v.category).sum ≤ 8) (hdg : decode cc g.pc = .ok (.invokevirtual index, 3)) (hf : cells + mc ≤ R.cells ∧ slots + ms ≤ R.slots) :
    vx_Run p l e R s m args below meth c H locs cells slots mc ms g rest (Qc (Value.ref b :: As).toArray) XC free := by
  obtain ⟨⟨hrc, hrs, hfr, hlo, hws, hcw⟩, hcode, hini, hy, hlen, hl, hin, hse⟩ := cw
  have hK : vx_Back l R p e below s args y 3 8 (PreOf R mc ms Pc) (PostOf Qc mc ms free) (vx_Post XC mc ms free) := vx_backW (hh := hh) (bytes := bytes) (maxL := maxL) (ret := ret) hM hp.1 hrc hrs hfr hlo hws hcw (fun a' U hW => word_at hW (Or.inl (by first | rfl | simp [Cond.onTables, Cond.keeps, Cond.steady])) hini)
  obtain ⟨hx, hb, hml, ho, -⟩ := S
  obtain ⟨-, ⟨cellB, hcB, hoB, hclB⟩, hPc⟩ := hp
  intro T hT X
  rcases vx_callVX X hx (C := C) (hh := hh) (bytes := bytes) (maxL := maxL) (ret := ret) ho hl hin hse hcode hy hK (by rw [hT]; exact hcB) hoB hclB hg (hsize.trans hml.symm) (argsL := As) (rest := rest) (fun sig h => hn.trans (hlen sig h)) hstack hW (by rw [hb]; exact hdg)
    (fun vm₁ hW₁ => ⟨hf.1, hf.2, hPc (T.setVm vm₁) hT hW₁⟩) with ⟨v, vm₁, ⟨U', l2, c2, s2⟩, hW₁, X', ⟨g', mk, t, L, e1, e2, hq, h1, hL, h2, h3⟩, st⟩ | ⟨q, vm₁, ⟨U', l2, c2, s2⟩, hW₁, X', ⟨g', mk, t, L, E, ce, e1, e2, hq, hce, hcv, hcl, h1, hL, h2, h3⟩, st⟩
  · dsimp only [Pt.U, Pt.locs, Pt.cells, Pt.slots] at X' e1 e2 h1 h2 h3 st
    subst h1; subst h2; subst h3
    exact Or.inl ⟨v, (T.setVm vm₁).calling g' mk (Value.ref b :: As).toArray, t, U', L, hT, X', hL, e1, e2, hq, st⟩
  · dsimp only [Pt.U, Pt.locs, Pt.cells, Pt.slots] at X' e1 e2 h1 h2 h3 st hcl
    subst h1; subst h2; subst h3
    exact Or.inr ⟨q, (T.setVm vm₁).calling g' mk (Value.ref b :: As).toArray, t, U', L, E, ce, hT, X', hL, e1, e2, hq, hce, hcv, vx_cls hW₁ hcl, st⟩
theorem vx_runSX {hh : List (Nat × Nat × Nat × Nat)} (S : CallFix p m c cc nL s args Ts own) (hM : vx_Met l y ws rm Pc Qc XC mc ms free) (cw : vx_CSW R s args own index y bytes maxL ret hh ws rm mc ms n) (hp : PreS s H Pc As)
    (hg : g.method = m) (hn : As.length = n) (hsize : g.locals.size = nL) (hstack : g.stack = As.reverse ++ rest) (hW : 2 * g.monitorRoom + (rest.map fun v => v.category).sum ≤ 8) (hdg : decode cc g.pc = .ok (.invokestatic index, 3)) (hf : cells + mc ≤ R.cells ∧ slots + ms ≤ R.slots) :
    vx_Run p l e R s m args below meth c H locs cells slots mc ms g rest (Qc As.toArray) XC free := by
  obtain ⟨⟨hrc, hrs, hfr, hlo, hws, hcw⟩, hcode, hini, hy, hlen, hl, hstt⟩ := cw
  have hK : vx_Back l R p e below s args y 3 8 (PreOf R mc ms Pc) (PostOf Qc mc ms free) (vx_Post XC mc ms free) := vx_backW (hh := hh) (bytes := bytes) (maxL := maxL) (ret := ret) hM hp.1 hrc hrs hfr hlo hws hcw (fun a' U hW => word_at hW (Or.inl (by first | rfl | simp [Cond.onTables, Cond.keeps, Cond.steady])) hini)
  obtain ⟨hx, hb, hml, ho, -⟩ := S
  intro T hT X
  rcases vx_callSX X hx (hh := hh) (bytes := bytes) (maxL := maxL) (ret := ret) ho hl hstt hini hcode hy hK hg (hsize.trans hml.symm) (argsL := As) (rest := rest) (fun sig h => hn.trans (hlen sig h)) hstack hW (by rw [hb]; exact hdg)
    (fun vm₁ hW₁ => ⟨hf.1, hf.2, hp.2 (T.setVm vm₁) hT hW₁⟩) with ⟨v, vm₁, ⟨U', l2, c2, s2⟩, hW₁, X', ⟨g', mk, t, L, e1, e2, hq, h1, hL, h2, h3⟩, st⟩ | ⟨q, vm₁, ⟨U', l2, c2, s2⟩, hW₁, X', ⟨g', mk, t, L, E, ce, e1, e2, hq, hce, hcv, hcl, h1, hL, h2, h3⟩, st⟩
  · dsimp only [Pt.U, Pt.locs, Pt.cells, Pt.slots] at X' e1 e2 h1 h2 h3 st
    subst h1; subst h2; subst h3
    exact Or.inl ⟨v, (T.setVm vm₁).calling g' mk As.toArray, t, U', L, hT, X', hL, e1, e2, hq, st⟩
  · dsimp only [Pt.U, Pt.locs, Pt.cells, Pt.slots] at X' e1 e2 h1 h2 h3 st hcl
    subst h1; subst h2; subst h3
    exact Or.inr ⟨q, (T.setVm vm₁).calling g' mk As.toArray, t, U', L, E, ce, hT, X', hL, e1, e2, hq, hce, hcv, vx_cls hW₁ hcl, st⟩
end
end VXH
theorem vx_ofWH {l : Launch} {y : MethodName} {ws ws' : List Cond} {rm : Room} {Pc : Array Value → State → Prop} {Qc : Array Value → State → Outcome → State → Prop} {XC : String → State → State → Prop} {mc ms : Nat} {free : Addr → Prop} {cc : ByteArray} {maxL : Nat} {ret : Option FieldType} {hh : List (Nat × Nat × Nat × Nat)}
    (hy : plainName y.cls = true) (hw : ws = Cond.codeWith y cc maxL ret hh :: ws')
    (body : ∀ p e s m args below meth c s₁, BodyLoose p l y (headSpec ws rm) cc maxL ret e s m args below meth c s₁ → c.maxLocals = maxL → Pc args s →
      W p l e (headSpec ws rm).room s m args below meth c s.heap [] 0 0 (vx_MQ below Qc XC args s mc ms free) (entryFrame m args maxL)) : vx_Met l y ws rm Pc Qc XC mc ms free := by
  refine MetFree.of_bodyS (code := cc) (maxLocals := maxL) (ret := ret) hy ?_ ?_
  · intro args s m h hn
    obtain ⟨m9, meth, c, hn9, h1, h2, h3, h4, -, h5, h6, -⟩ := Cond.codeWith_spec (atoms_spec (ws := ws) h _ (by rw [hw]; exact List.mem_cons_self))
    cases hn.symm.trans hn9
    exact ⟨meth, c, h1, h2, h3, h4, h5, h6⟩
  · intro p e s m args below meth c s₁ B hml hP _
    have hh0 : s₁.heap = s.heap := by rw [B.state]; rfl
    obtain ⟨t, a1, o, b1, b2, b3⟩ := body p e s m args below meth c s₁ B hml hP s₁ hh0 (Stand.of_body B)
    exact ⟨t, o, a1, b1, b2, b3⟩
/-! ===== END ===== -/
end
section
/-! ===== BEGIN printed: names, fields, word lists, decode rows ===== -/
def RX0 : String := "HarbourPilotline$Conference"
def TX0 : u_T := fun k => match k with
  | 0 => ("HarbourPilotline$Conference", "ship", "LHarbourPilotline$Ship;", true)
  | 1 => ("HarbourPilotline$Conference", "wish", "I", true)
  | 2 => ("HarbourPilotline$Conference", "shipIn", "Z", false)
  | 3 => ("HarbourPilotline$Conference", "towerIn", "Z", false)
  | 4 => ("HarbourPilotline$Conference", "pilot", "LHarbourPilotline$Pilot;", false)
  | 5 => ("HarbourPilotline$Conference", "state", "I", false)
  | _ => ("HarbourPilotline$Conference", "slot", "I", false)
def tyX0 : Nat → FieldType := fun k => match k with
  | 0 => .object "HarbourPilotline$Ship"
  | 1 => .int
  | 2 => .boolean
  | 3 => .boolean
  | 4 => .object "HarbourPilotline$Pilot"
  | 5 => .int
  | _ => .int
abbrev wsX00 : List Cond := u_ws RX0 TX0 7
theorem nmX0 : ∀ a, a < 7 → ∀ b, b < 7 → a ≠ b → (TX0 a).2.1 ≠ (TX0 b).2.1 := by decide +kernel
theorem tyX0_ok : ∀ k, k < 7 → parseFieldDescriptor (TX0 k).2.2.1 = some (tyX0 k) := by decide +kernel
abbrev cX0_init : ByteArray := prog_2_method_1_code
def yX0_init : MethodName := ⟨RX0, "<init>", "(LHarbourPilotline$Ship;I)V"⟩
abbrev cX0_hasIn : ByteArray := prog_2_method_2_code
def yX0_hasIn : MethodName := ⟨RX0, "hasIn", "(I)Z"⟩
abbrev cX0_howManyIn : ByteArray := prog_2_method_3_code
def yX0_howManyIn : MethodName := ⟨RX0, "howManyIn", "()I"⟩
abbrev cX0_letIn : ByteArray := prog_2_method_4_code
def yX0_letIn : MethodName := ⟨RX0, "letIn", "(ILHarbourPilotline$Pilot;)V"⟩
abbrev cX0_letOut : ByteArray := prog_2_method_5_code
def yX0_letOut : MethodName := ⟨RX0, "letOut", "(I)V"⟩
def RX1 : String := "HarbourPilotline$Pilot"
def TX1 : u_T := fun k => match k with
  | 0 => ("HarbourPilotline$Pilot", "number", "I", true)
  | 1 => ("HarbourPilotline$Pilot", "licence", "I", true)
  | 2 => ("HarbourPilotline$Pilot", "rate", "I", true)
  | 3 => ("HarbourPilotline$Pilot", "movesDone", "I", false)
  | _ => ("HarbourPilotline$Pilot", "minutesDone", "I", false)
def tyX1 : Nat → FieldType := fun k => match k with
  | 0 => .int
  | 1 => .int
  | 2 => .int
  | 3 => .int
  | _ => .int
abbrev wsX10 : List Cond := u_ws RX1 TX1 5
theorem nmX1 : ∀ a, a < 5 → ∀ b, b < 5 → a ≠ b → (TX1 a).2.1 ≠ (TX1 b).2.1 := by decide +kernel
theorem tyX1_ok : ∀ k, k < 5 → parseFieldDescriptor (TX1 k).2.2.1 = some (tyX1 k) := by decide +kernel
abbrev cX1_init : ByteArray := prog_3_method_1_code
def yX1_init : MethodName := ⟨RX1, "<init>", "(III)V"⟩
def RX2 : String := "HarbourPilotline$Ship"
def TX2 : u_T := fun k => match k with
  | 0 => ("HarbourPilotline$Ship", "number", "I", true)
  | 1 => ("HarbourPilotline$Ship", "draught", "I", true)
  | 2 => ("HarbourPilotline$Ship", "tons", "I", true)
  | 3 => ("HarbourPilotline$Ship", "minutes", "I", true)
  | 4 => ("HarbourPilotline$Ship", "tugs", "I", true)
  | _ => ("HarbourPilotline$Ship", "owes", "I", false)
def tyX2 : Nat → FieldType := fun k => match k with
  | 0 => .int
  | 1 => .int
  | 2 => .int
  | 3 => .int
  | 4 => .int
  | _ => .int
abbrev wsX20 : List Cond := u_ws RX2 TX2 6
theorem nmX2 : ∀ a, a < 6 → ∀ b, b < 6 → a ≠ b → (TX2 a).2.1 ≠ (TX2 b).2.1 := by decide +kernel
theorem tyX2_ok : ∀ k, k < 6 → parseFieldDescriptor (TX2 k).2.2.1 = some (tyX2 k) := by decide +kernel
abbrev cX2_init : ByteArray := prog_4_method_1_code
def yX2_init : MethodName := ⟨RX2, "<init>", "(IIIII)V"⟩
abbrev cX2_minutesWithRest : ByteArray := prog_4_method_2_code
def yX2_minutesWithRest : MethodName := ⟨RX2, "minutesWithRest", "()I"⟩
def RX3 : String := "HarbourPilotline$Tide"
def TX3 : u_T := fun k => match k with
  | 0 => ("HarbourPilotline$Tide", "depth", "I", false)
  | _ => ("HarbourPilotline$Tide", "rise", "I", false)
def tyX3 : Nat → FieldType := fun k => match k with
  | 0 => .int
  | _ => .int
abbrev wsX30 : List Cond := u_ws RX3 TX3 2
theorem nmX3 : ∀ a, a < 2 → ∀ b, b < 2 → a ≠ b → (TX3 a).2.1 ≠ (TX3 b).2.1 := by decide +kernel
theorem tyX3_ok : ∀ k, k < 2 → parseFieldDescriptor (TX3 k).2.2.1 = some (tyX3 k) := by decide +kernel
abbrev cX3_init : ByteArray := prog_5_method_1_code
def yX3_init : MethodName := ⟨RX3, "<init>", "()V"⟩
abbrev cX3_aboveDepth : ByteArray := prog_5_method_2_code
def yX3_aboveDepth : MethodName := ⟨RX3, "aboveDepth", "(I)I"⟩
abbrev cX3_pastShallows : ByteArray := prog_5_method_3_code
def yX3_pastShallows : MethodName := ⟨RX3, "pastShallows", "(LHarbourPilotline$Ship;I)I"⟩
def RX4 : String := "HarbourPilotline"
def TX4 : u_T := fun k => match k with
  | 0 => ("HarbourPilotline", "tide", "LHarbourPilotline$Tide;", true)
  | 1 => ("HarbourPilotline", "ships", "Ljava/util/ArrayList;", true)
  | 2 => ("HarbourPilotline", "pilots", "Ljava/util/ArrayList;", true)
  | 3 => ("HarbourPilotline", "conferences", "Ljava/util/ArrayList;", true)
  | 4 => ("HarbourPilotline", "tugs", "I", false)
  | 5 => ("HarbourPilotline", "now", "I", false)
  | _ => ("HarbourPilotline", "toldByDrops", "I", false)
def tyX4 : Nat → FieldType := fun k => match k with
  | 0 => .object "HarbourPilotline$Tide"
  | 1 => .object "java/util/ArrayList"
  | 2 => .object "java/util/ArrayList"
  | 3 => .object "java/util/ArrayList"
  | 4 => .int
  | 5 => .int
  | _ => .int
abbrev wsX40 : List Cond := u_ws RX4 TX4 7
theorem nmX4 : ∀ a, a < 7 → ∀ b, b < 7 → a ≠ b → (TX4 a).2.1 ≠ (TX4 b).2.1 := by decide +kernel
theorem tyX4_ok : ∀ k, k < 7 → parseFieldDescriptor (TX4 k).2.2.1 = some (tyX4 k) := by decide +kernel
abbrev cX4_init : ByteArray := prog_1_method_1_code
def yX4_init : MethodName := ⟨RX4, "<init>", "()V"⟩
abbrev cX4_tide : ByteArray := prog_1_method_2_code
def yX4_tide : MethodName := ⟨RX4, "tide", "(II)V"⟩
abbrev cX4_tugs : ByteArray := prog_1_method_3_code
def yX4_tugs : MethodName := ⟨RX4, "tugs", "(I)I"⟩
abbrev cX4_ship : ByteArray := prog_1_method_4_code
def yX4_ship : MethodName := ⟨RX4, "ship", "(IIII)I"⟩
abbrev cX4_pilot : ByteArray := prog_1_method_5_code
def yX4_pilot : MethodName := ⟨RX4, "pilot", "(II)I"⟩
abbrev cX4_call : ByteArray := prog_1_method_6_code
def yX4_call : MethodName := ⟨RX4, "call", "(II)I"⟩
abbrev cX4_join : ByteArray := prog_1_method_7_code
def yX4_join : MethodName := ⟨RX4, "join", "(III)I"⟩
abbrev cX4_again : ByteArray := prog_1_method_8_code
def yX4_again : MethodName := ⟨RX4, "again", "(I)I"⟩
abbrev cX4_drop : ByteArray := prog_1_method_9_code
def yX4_drop : MethodName := ⟨RX4, "drop", "(II)I"⟩
abbrev cX4_pass : ByteArray := prog_1_method_10_code
def yX4_pass : MethodName := ⟨RX4, "pass", "(I)I"⟩
abbrev cX4_minute : ByteArray := prog_1_method_11_code
def yX4_minute : MethodName := ⟨RX4, "minute", "()I"⟩
abbrev cX4_level : ByteArray := prog_1_method_12_code
def yX4_level : MethodName := ⟨RX4, "level", "(I)I"⟩
abbrev cX4_window : ByteArray := prog_1_method_13_code
def yX4_window : MethodName := ⟨RX4, "window", "(II)I"⟩
abbrev cX4_ofConference : ByteArray := prog_1_method_14_code
def yX4_ofConference : MethodName := ⟨RX4, "ofConference", "(II)I"⟩
abbrev cX4_why : ByteArray := prog_1_method_15_code
def yX4_why : MethodName := ⟨RX4, "why", "(II)I"⟩
abbrev cX4_rested : ByteArray := prog_1_method_16_code
def yX4_rested : MethodName := ⟨RX4, "rested", "(I)I"⟩
abbrev cX4_restedAnew : ByteArray := prog_1_method_17_code
def yX4_restedAnew : MethodName := ⟨RX4, "restedAnew", "(I)I"⟩
abbrev cX4_bill : ByteArray := prog_1_method_18_code
def yX4_bill : MethodName := ⟨RX4, "bill", "(I)I"⟩
abbrev cX4_ofPilot : ByteArray := prog_1_method_19_code
def yX4_ofPilot : MethodName := ⟨RX4, "ofPilot", "(II)I"⟩
abbrev cX4_count : ByteArray := prog_1_method_20_code
def yX4_count : MethodName := ⟨RX4, "count", "(I)I"⟩
abbrev cX4_demandWithin : ByteArray := prog_1_method_21_code
def yX4_demandWithin : MethodName := ⟨RX4, "demandWithin", "(III)V"⟩
abbrev cX4_demandRoom : ByteArray := prog_1_method_22_code
def yX4_demandRoom : MethodName := ⟨RX4, "demandRoom", "(II)V"⟩
abbrev cX4_demandWho : ByteArray := prog_1_method_23_code
def yX4_demandWho : MethodName := ⟨RX4, "demandWho", "(I)V"⟩
abbrev cX4_shipAt : ByteArray := prog_1_method_24_code
def yX4_shipAt : MethodName := ⟨RX4, "shipAt", "(I)LHarbourPilotline$Ship;"⟩
abbrev cX4_pilotAt : ByteArray := prog_1_method_25_code
def yX4_pilotAt : MethodName := ⟨RX4, "pilotAt", "(I)LHarbourPilotline$Pilot;"⟩
abbrev cX4_conferenceAt : ByteArray := prog_1_method_26_code
def yX4_conferenceAt : MethodName := ⟨RX4, "conferenceAt", "(I)LHarbourPilotline$Conference;"⟩
abbrev cX4_lookAnew : ByteArray := prog_1_method_27_code
def yX4_lookAnew : MethodName := ⟨RX4, "lookAnew", "()I"⟩
abbrev cX4_lookForSlot : ByteArray := prog_1_method_28_code
def yX4_lookForSlot : MethodName := ⟨RX4, "lookForSlot", "(LHarbourPilotline$Conference;)V"⟩
abbrev cX4_earliestSlot : ByteArray := prog_1_method_29_code
def yX4_earliestSlot : MethodName := ⟨RX4, "earliestSlot", "(LHarbourPilotline$Conference;)I"⟩
abbrev cX4_pastRests : ByteArray := prog_1_method_30_code
def yX4_pastRests : MethodName := ⟨RX4, "pastRests", "(LHarbourPilotline$Conference;I)I"⟩
abbrev cX4_pastTugs : ByteArray := prog_1_method_31_code
def yX4_pastTugs : MethodName := ⟨RX4, "pastTugs", "(LHarbourPilotline$Conference;I)I"⟩
abbrev cX4_pastChannel : ByteArray := prog_1_method_32_code
def yX4_pastChannel : MethodName := ⟨RX4, "pastChannel", "(LHarbourPilotline$Conference;I)I"⟩
abbrev cX4_tugsOfOthers : ByteArray := prog_1_method_33_code
def yX4_tugsOfOthers : MethodName := ⟨RX4, "tugsOfOthers", "(LHarbourPilotline$Conference;II)I"⟩
abbrev cX4_becomesDone : ByteArray := prog_1_method_34_code
def yX4_becomesDone : MethodName := ⟨RX4, "becomesDone", "(LHarbourPilotline$Conference;)Z"⟩
abbrev cX4_restedBehindSlots : ByteArray := prog_1_method_35_code
def yX4_restedBehindSlots : MethodName := ⟨RX4, "restedBehindSlots", "(LHarbourPilotline$Pilot;)I"⟩
abbrev cX4_isAboard : ByteArray := prog_1_method_36_code
def yX4_isAboard : MethodName := ⟨RX4, "isAboard", "(LHarbourPilotline$Pilot;)Z"⟩
abbrev cX4_howManyAre : ByteArray := prog_1_method_37_code
def yX4_howManyAre : MethodName := ⟨RX4, "howManyAre", "(I)I"⟩
abbrev cX4_allBills : ByteArray := prog_1_method_38_code
def yX4_allBills : MethodName := ⟨RX4, "allBills", "()I"⟩
def RX5 : String := "HarbourPilotlineModel"
def TX5 : u_T := fun k => match k with
  | 0 => ("HarbourPilotlineModel", "thrown", "I", false)
  | 1 => ("HarbourPilotlineModel", "now", "I", false)
  | 2 => ("HarbourPilotlineModel", "depth", "I", false)
  | 3 => ("HarbourPilotlineModel", "rise", "I", false)
  | 4 => ("HarbourPilotlineModel", "tugs", "I", false)
  | 5 => ("HarbourPilotlineModel", "ships", "I", false)
  | 6 => ("HarbourPilotlineModel", "draught", "[I", true)
  | 7 => ("HarbourPilotlineModel", "tons", "[I", true)
  | 8 => ("HarbourPilotlineModel", "takes", "[I", true)
  | 9 => ("HarbourPilotlineModel", "needs", "[I", true)
  | 10 => ("HarbourPilotlineModel", "owes", "[I", true)
  | 11 => ("HarbourPilotlineModel", "pilots", "I", false)
  | 12 => ("HarbourPilotlineModel", "licence", "[I", true)
  | 13 => ("HarbourPilotlineModel", "rate", "[I", true)
  | 14 => ("HarbourPilotlineModel", "conferences", "I", false)
  | 15 => ("HarbourPilotlineModel", "ship", "[I", true)
  | 16 => ("HarbourPilotlineModel", "wish", "[I", true)
  | 17 => ("HarbourPilotlineModel", "in", "[I", true)
  | 18 => ("HarbourPilotlineModel", "pilot", "[I", true)
  | 19 => ("HarbourPilotlineModel", "state", "[I", true)
  | 20 => ("HarbourPilotlineModel", "slot", "[I", true)
  | _ => ("HarbourPilotlineModel", "moved", "I", false)
def tyX5 : Nat → FieldType := fun k => match k with
  | 0 => .int
  | 1 => .int
  | 2 => .int
  | 3 => .int
  | 4 => .int
  | 5 => .int
  | 6 => .array .int
  | 7 => .array .int
  | 8 => .array .int
  | 9 => .array .int
  | 10 => .array .int
  | 11 => .int
  | 12 => .array .int
  | 13 => .array .int
  | 14 => .int
  | 15 => .array .int
  | 16 => .array .int
  | 17 => .array .int
  | 18 => .array .int
  | 19 => .array .int
  | 20 => .array .int
  | _ => .int
abbrev wsX50 : List Cond := u_ws RX5 TX5 22
theorem nmX5 : ∀ a, a < 22 → ∀ b, b < 22 → a ≠ b → (TX5 a).2.1 ≠ (TX5 b).2.1 := by decide +kernel
theorem tyX5_ok : ∀ k, k < 22 → parseFieldDescriptor (TX5 k).2.2.1 = some (tyX5 k) := by decide +kernel
abbrev cX5_init : ByteArray := prog_7_method_1_code
def yX5_init : MethodName := ⟨RX5, "<init>", "()V"⟩
abbrev cX5_thrown : ByteArray := prog_7_method_2_code
def yX5_thrown : MethodName := ⟨RX5, "thrown", "()I"⟩
abbrev cX5_in : ByteArray := prog_7_method_3_code
def yX5_in : MethodName := ⟨RX5, "in", "(III)Z"⟩
abbrev cX5_isShip : ByteArray := prog_7_method_4_code
def yX5_isShip : MethodName := ⟨RX5, "isShip", "(I)Z"⟩
abbrev cX5_isPilot : ByteArray := prog_7_method_5_code
def yX5_isPilot : MethodName := ⟨RX5, "isPilot", "(I)Z"⟩
abbrev cX5_isConference : ByteArray := prog_7_method_6_code
def yX5_isConference : MethodName := ⟨RX5, "isConference", "(I)Z"⟩
abbrev cX5_tide : ByteArray := prog_7_method_7_code
def yX5_tide : MethodName := ⟨RX5, "tide", "(II)V"⟩
abbrev cX5_tugs : ByteArray := prog_7_method_8_code
def yX5_tugs : MethodName := ⟨RX5, "tugs", "(I)I"⟩
abbrev cX5_ship : ByteArray := prog_7_method_9_code
def yX5_ship : MethodName := ⟨RX5, "ship", "(IIII)I"⟩
abbrev cX5_pilot : ByteArray := prog_7_method_10_code
def yX5_pilot : MethodName := ⟨RX5, "pilot", "(II)I"⟩
abbrev cX5_levelAt : ByteArray := prog_7_method_11_code
def yX5_levelAt : MethodName := ⟨RX5, "levelAt", "(I)I"⟩
abbrev cX5_tideDoes : ByteArray := prog_7_method_12_code
def yX5_tideDoes : MethodName := ⟨RX5, "tideDoes", "(II)Z"⟩
abbrev cX5_over : ByteArray := prog_7_method_13_code
def yX5_over : MethodName := ⟨RX5, "over", "(I)I"⟩
abbrev cX5_rest : ByteArray := prog_7_method_14_code
def yX5_rest : MethodName := ⟨RX5, "rest", "(I)I"⟩
abbrev cX5_hasSlot : ByteArray := prog_7_method_15_code
def yX5_hasSlot : MethodName := ⟨RX5, "hasSlot", "(I)Z"⟩
abbrev cX5_pilotDoes : ByteArray := prog_7_method_16_code
def yX5_pilotDoes : MethodName := ⟨RX5, "pilotDoes", "(II)Z"⟩
abbrev cX5_tugsIn : ByteArray := prog_7_method_17_code
def yX5_tugsIn : MethodName := ⟨RX5, "tugsIn", "(II)I"⟩
abbrev cX5_tugsDo : ByteArray := prog_7_method_18_code
def yX5_tugsDo : MethodName := ⟨RX5, "tugsDo", "(II)Z"⟩
abbrev cX5_channelDoes : ByteArray := prog_7_method_19_code
def yX5_channelDoes : MethodName := ⟨RX5, "channelDoes", "(II)Z"⟩
abbrev cX5_looks : ByteArray := prog_7_method_20_code
def yX5_looks : MethodName := ⟨RX5, "looks", "(I)V"⟩
abbrev cX5_call : ByteArray := prog_7_method_21_code
def yX5_call : MethodName := ⟨RX5, "call", "(II)I"⟩
abbrev cX5_isIn : ByteArray := prog_7_method_22_code
def yX5_isIn : MethodName := ⟨RX5, "isIn", "(II)Z"⟩
abbrev cX5_join : ByteArray := prog_7_method_23_code
def yX5_join : MethodName := ⟨RX5, "join", "(III)I"⟩
abbrev cX5_again : ByteArray := prog_7_method_24_code
def yX5_again : MethodName := ⟨RX5, "again", "(I)I"⟩
abbrev cX5_looksAnew : ByteArray := prog_7_method_25_code
def yX5_looksAnew : MethodName := ⟨RX5, "looksAnew", "(I)Z"⟩
abbrev cX5_drop : ByteArray := prog_7_method_26_code
def yX5_drop : MethodName := ⟨RX5, "drop", "(II)I"⟩
abbrev cX5_passesOne : ByteArray := prog_7_method_27_code
def yX5_passesOne : MethodName := ⟨RX5, "passesOne", "()I"⟩
abbrev cX5_billOf : ByteArray := prog_7_method_28_code
def yX5_billOf : MethodName := ⟨RX5, "billOf", "(I)I"⟩
abbrev cX5_pass : ByteArray := prog_7_method_29_code
def yX5_pass : MethodName := ⟨RX5, "pass", "(I)I"⟩
abbrev cX5_minute : ByteArray := prog_7_method_30_code
def yX5_minute : MethodName := ⟨RX5, "minute", "()I"⟩
abbrev cX5_level : ByteArray := prog_7_method_31_code
def yX5_level : MethodName := ⟨RX5, "level", "(I)I"⟩
abbrev cX5_window : ByteArray := prog_7_method_32_code
def yX5_window : MethodName := ⟨RX5, "window", "(II)I"⟩
abbrev cX5_many : ByteArray := prog_7_method_33_code
def yX5_many : MethodName := ⟨RX5, "many", "(I)I"⟩
abbrev cX5_ofConference : ByteArray := prog_7_method_34_code
def yX5_ofConference : MethodName := ⟨RX5, "ofConference", "(II)I"⟩
abbrev cX5_why : ByteArray := prog_7_method_35_code
def yX5_why : MethodName := ⟨RX5, "why", "(II)I"⟩
abbrev cX5_rested : ByteArray := prog_7_method_36_code
def yX5_rested : MethodName := ⟨RX5, "rested", "(I)I"⟩
abbrev cX5_restedAnew : ByteArray := prog_7_method_37_code
def yX5_restedAnew : MethodName := ⟨RX5, "restedAnew", "(I)I"⟩
abbrev cX5_bill : ByteArray := prog_7_method_38_code
def yX5_bill : MethodName := ⟨RX5, "bill", "(I)I"⟩
abbrev cX5_ofPilot : ByteArray := prog_7_method_39_code
def yX5_ofPilot : MethodName := ⟨RX5, "ofPilot", "(II)I"⟩
abbrev cX5_bills : ByteArray := prog_7_method_40_code
def yX5_bills : MethodName := ⟨RX5, "bills", "()I"⟩
abbrev cX5_count : ByteArray := prog_7_method_41_code
def yX5_count : MethodName := ⟨RX5, "count", "(I)I"⟩
def RJx145de : String := "java/io/Serializable"
def TJx145de : u_T := fun k => match k with
  | _ => ("", "", "", false)
def tyJx145de : Nat → FieldType := fun k => match k with
  | _ => .int
abbrev wsJx145de0 : List Cond := u_ws RJx145de TJx145de 0
theorem nmJx145de : ∀ a, a < 0 → ∀ b, b < 0 → a ≠ b → (TJx145de a).2.1 ≠ (TJx145de b).2.1 := by decide +kernel
theorem tyJx145de_ok : ∀ k, k < 0 → parseFieldDescriptor (TJx145de k).2.2.1 = some (tyJx145de k) := by decide +kernel
def RJx8e188 : String := "java/lang/Cloneable"
def TJx8e188 : u_T := fun k => match k with
  | _ => ("", "", "", false)
def tyJx8e188 : Nat → FieldType := fun k => match k with
  | _ => .int
abbrev wsJx8e1880 : List Cond := u_ws RJx8e188 TJx8e188 0
theorem nmJx8e188 : ∀ a, a < 0 → ∀ b, b < 0 → a ≠ b → (TJx8e188 a).2.1 ≠ (TJx8e188 b).2.1 := by decide +kernel
theorem tyJx8e188_ok : ∀ k, k < 0 → parseFieldDescriptor (TJx8e188 k).2.2.1 = some (tyJx8e188 k) := by decide +kernel
def RJxab1ab : String := "java/lang/Iterable"
def TJxab1ab : u_T := fun k => match k with
  | _ => ("", "", "", false)
def tyJxab1ab : Nat → FieldType := fun k => match k with
  | _ => .int
abbrev wsJxab1ab0 : List Cond := u_ws RJxab1ab TJxab1ab 0
theorem nmJxab1ab : ∀ a, a < 0 → ∀ b, b < 0 → a ≠ b → (TJxab1ab a).2.1 ≠ (TJxab1ab b).2.1 := by decide +kernel
theorem tyJxab1ab_ok : ∀ k, k < 0 → parseFieldDescriptor (TJxab1ab k).2.2.1 = some (tyJxab1ab k) := by decide +kernel
def RJ9 : String := "java/lang/Math"
def TJ9 : u_T := fun k => match k with
  | _ => ("", "", "", false)
def tyJ9 : Nat → FieldType := fun k => match k with
  | _ => .int
abbrev wsJ90 : List Cond := u_ws RJ9 TJ9 0
theorem nmJ9 : ∀ a, a < 0 → ∀ b, b < 0 → a ≠ b → (TJ9 a).2.1 ≠ (TJ9 b).2.1 := by decide +kernel
theorem tyJ9_ok : ∀ k, k < 0 → parseFieldDescriptor (TJ9 k).2.2.1 = some (tyJ9 k) := by decide +kernel
abbrev cJ9_abs_0f7a4 : ByteArray := prog_15_method_59_code
def yJ9_abs_0f7a4 : MethodName := ⟨RJ9, "abs", "(I)I"⟩
abbrev cJ9_max_7cf53 : ByteArray := prog_15_method_65_code
def yJ9_max_7cf53 : MethodName := ⟨RJ9, "max", "(II)I"⟩
abbrev cJ9_min_7cf53 : ByteArray := prog_15_method_69_code
def yJ9_min_7cf53 : MethodName := ⟨RJ9, "min", "(II)I"⟩
def RJ0 : String := "java/lang/String"
def TJ0 : u_T := fun k => match k with
  | _ => ("", "", "", false)
def tyJ0 : Nat → FieldType := fun k => match k with
  | _ => .int
abbrev wsJ00 : List Cond := u_ws RJ0 TJ0 0
theorem nmJ0 : ∀ a, a < 0 → ∀ b, b < 0 → a ≠ b → (TJ0 a).2.1 ≠ (TJ0 b).2.1 := by decide +kernel
theorem tyJ0_ok : ∀ k, k < 0 → parseFieldDescriptor (TJ0 k).2.2.1 = some (tyJ0 k) := by decide +kernel
def RJ10 : String := "java/lang/System"
def TJ10 : u_T := fun k => match k with
  | _ => ("", "", "", false)
def tyJ10 : Nat → FieldType := fun k => match k with
  | _ => .int
abbrev wsJ100 : List Cond := u_ws RJ10 TJ10 0
theorem nmJ10 : ∀ a, a < 0 → ∀ b, b < 0 → a ≠ b → (TJ10 a).2.1 ≠ (TJ10 b).2.1 := by decide +kernel
theorem tyJ10_ok : ∀ k, k < 0 → parseFieldDescriptor (TJ10 k).2.2.1 = some (tyJ10 k) := by decide +kernel
def RJxa1e45 : String := "java/util/AbstractCollection"
def TJxa1e45 : u_T := fun k => match k with
  | _ => ("", "", "", false)
def tyJxa1e45 : Nat → FieldType := fun k => match k with
  | _ => .int
abbrev wsJxa1e450 : List Cond := u_ws RJxa1e45 TJxa1e45 0
theorem nmJxa1e45 : ∀ a, a < 0 → ∀ b, b < 0 → a ≠ b → (TJxa1e45 a).2.1 ≠ (TJxa1e45 b).2.1 := by decide +kernel
theorem tyJxa1e45_ok : ∀ k, k < 0 → parseFieldDescriptor (TJxa1e45 k).2.2.1 = some (tyJxa1e45 k) := by decide +kernel
abbrev cJxa1e45_init_da8c8 : ByteArray := prog_20_method_1_code
def yJxa1e45_init_da8c8 : MethodName := ⟨RJxa1e45, "<init>", "()V"⟩
def RJxc12de : String := "java/util/AbstractList"
def TJxc12de : u_T := fun k => match k with
  | _ => ("", "", "", false)
def tyJxc12de : Nat → FieldType := fun k => match k with
  | _ => .int
abbrev wsJxc12de0 : List Cond := u_ws RJxc12de TJxc12de 0
theorem nmJxc12de : ∀ a, a < 0 → ∀ b, b < 0 → a ≠ b → (TJxc12de a).2.1 ≠ (TJxc12de b).2.1 := by decide +kernel
theorem tyJxc12de_ok : ∀ k, k < 0 → parseFieldDescriptor (TJxc12de k).2.2.1 = some (tyJxc12de k) := by decide +kernel
abbrev cJxc12de_init_da8c8 : ByteArray := prog_21_method_1_code
def yJxc12de_init_da8c8 : MethodName := ⟨RJxc12de, "<init>", "()V"⟩
def RJx4a65c : String := "java/util/ArrayList"
def TJx4a65c : u_T := fun k => match k with
  | 0 => ("java/util/AbstractList", "modCount", "I", false)
  | 1 => ("java/util/ArrayList", "elementData", "[Ljava/lang/Object;", false)
  | _ => ("java/util/ArrayList", "size", "I", false)
def tyJx4a65c : Nat → FieldType := fun k => match k with
  | 0 => .int
  | 1 => .array (.object "java/lang/Object")
  | _ => .int
abbrev wsJx4a65c0 : List Cond := u_ws RJx4a65c TJx4a65c 3
theorem nmJx4a65c : ∀ a, a < 3 → ∀ b, b < 3 → a ≠ b → (TJx4a65c a).2.1 ≠ (TJx4a65c b).2.1 := by decide +kernel
theorem tyJx4a65c_ok : ∀ k, k < 3 → parseFieldDescriptor (TJx4a65c k).2.2.1 = some (tyJx4a65c k) := by decide +kernel
abbrev cJx4a65c_init_da8c8 : ByteArray := prog_22_method_2_code
def yJx4a65c_init_da8c8 : MethodName := ⟨RJx4a65c, "<init>", "()V"⟩
abbrev cJx4a65c_grow_92f84 : ByteArray := prog_22_method_6_code
def yJx4a65c_grow_92f84 : MethodName := ⟨RJx4a65c, "grow", "(I)[Ljava/lang/Object;"⟩
abbrev cJx4a65c_grow_d5877 : ByteArray := prog_22_method_7_code
def yJx4a65c_grow_d5877 : MethodName := ⟨RJx4a65c, "grow", "()[Ljava/lang/Object;"⟩
abbrev cJx4a65c_size_8abf5 : ByteArray := prog_22_method_8_code
def yJx4a65c_size_8abf5 : MethodName := ⟨RJx4a65c, "size", "()I"⟩
abbrev cJx4a65c_elementData_915e3 : ByteArray := prog_22_method_18_code
def yJx4a65c_elementData_915e3 : MethodName := ⟨RJx4a65c, "elementData", "(I)Ljava/lang/Object;"⟩
abbrev cJx4a65c_get_915e3 : ByteArray := prog_22_method_20_code
def yJx4a65c_get_915e3 : MethodName := ⟨RJx4a65c, "get", "(I)Ljava/lang/Object;"⟩
abbrev cJx4a65c_add_72be8 : ByteArray := prog_22_method_24_code
def yJx4a65c_add_72be8 : MethodName := ⟨RJx4a65c, "add", "(Ljava/lang/Object;[Ljava/lang/Object;I)V"⟩
abbrev cJx4a65c_add_9ea2d : ByteArray := prog_22_method_25_code
def yJx4a65c_add_9ea2d : MethodName := ⟨RJx4a65c, "add", "(Ljava/lang/Object;)Z"⟩
def RJ7 : String := "java/util/Arrays"
def TJ7 : u_T := fun k => match k with
  | _ => ("", "", "", false)
def tyJ7 : Nat → FieldType := fun k => match k with
  | _ => .int
abbrev wsJ70 : List Cond := u_ws RJ7 TJ7 0
theorem nmJ7 : ∀ a, a < 0 → ∀ b, b < 0 → a ≠ b → (TJ7 a).2.1 ≠ (TJ7 b).2.1 := by decide +kernel
theorem tyJ7_ok : ∀ k, k < 0 → parseFieldDescriptor (TJ7 k).2.2.1 = some (tyJ7 k) := by decide +kernel
abbrev cJ7_copyOf_1904c : ByteArray := prog_23_method_119_code
def yJ7_copyOf_1904c : MethodName := ⟨RJ7, "copyOf", "([Ljava/lang/Object;I)[Ljava/lang/Object;"⟩
abbrev cJ7_copyOf_6403c : ByteArray := prog_23_method_120_code
def yJ7_copyOf_6403c : MethodName := ⟨RJ7, "copyOf", "([Ljava/lang/Object;ILjava/lang/Class;)[Ljava/lang/Object;"⟩
def RJx5ef63 : String := "java/util/Collection"
def TJx5ef63 : u_T := fun k => match k with
  | _ => ("", "", "", false)
def tyJx5ef63 : Nat → FieldType := fun k => match k with
  | _ => .int
abbrev wsJx5ef630 : List Cond := u_ws RJx5ef63 TJx5ef63 0
theorem nmJx5ef63 : ∀ a, a < 0 → ∀ b, b < 0 → a ≠ b → (TJx5ef63 a).2.1 ≠ (TJx5ef63 b).2.1 := by decide +kernel
theorem tyJx5ef63_ok : ∀ k, k < 0 → parseFieldDescriptor (TJx5ef63 k).2.2.1 = some (tyJx5ef63 k) := by decide +kernel
def RJxbd725 : String := "java/util/List"
def TJxbd725 : u_T := fun k => match k with
  | _ => ("", "", "", false)
def tyJxbd725 : Nat → FieldType := fun k => match k with
  | _ => .int
abbrev wsJxbd7250 : List Cond := u_ws RJxbd725 TJxbd725 0
theorem nmJxbd725 : ∀ a, a < 0 → ∀ b, b < 0 → a ≠ b → (TJxbd725 a).2.1 ≠ (TJxbd725 b).2.1 := by decide +kernel
theorem tyJxbd725_ok : ∀ k, k < 0 → parseFieldDescriptor (TJxbd725 k).2.2.1 = some (tyJxbd725 k) := by decide +kernel
def RJ15 : String := "java/util/Objects"
def TJ15 : u_T := fun k => match k with
  | _ => ("", "", "", false)
def tyJ15 : Nat → FieldType := fun k => match k with
  | _ => .int
abbrev wsJ150 : List Cond := u_ws RJ15 TJ15 0
theorem nmJ15 : ∀ a, a < 0 → ∀ b, b < 0 → a ≠ b → (TJ15 a).2.1 ≠ (TJ15 b).2.1 := by decide +kernel
theorem tyJ15_ok : ∀ k, k < 0 → parseFieldDescriptor (TJ15 k).2.2.1 = some (tyJ15 k) := by decide +kernel
abbrev cJ15_checkIndex_7cf53 : ByteArray := prog_26_method_17_code
def yJ15_checkIndex_7cf53 : MethodName := ⟨RJ15, "checkIndex", "(II)I"⟩
def RJxf0a74 : String := "java/util/RandomAccess"
def TJxf0a74 : u_T := fun k => match k with
  | _ => ("", "", "", false)
def tyJxf0a74 : Nat → FieldType := fun k => match k with
  | _ => .int
abbrev wsJxf0a740 : List Cond := u_ws RJxf0a74 TJxf0a74 0
theorem nmJxf0a74 : ∀ a, a < 0 → ∀ b, b < 0 → a ≠ b → (TJxf0a74 a).2.1 ≠ (TJxf0a74 b).2.1 := by decide +kernel
theorem tyJxf0a74_ok : ∀ k, k < 0 → parseFieldDescriptor (TJxf0a74 k).2.2.1 = some (tyJxf0a74 k) := by decide +kernel
def RJxa66e6 : String := "java/util/SequencedCollection"
def TJxa66e6 : u_T := fun k => match k with
  | _ => ("", "", "", false)
def tyJxa66e6 : Nat → FieldType := fun k => match k with
  | _ => .int
abbrev wsJxa66e60 : List Cond := u_ws RJxa66e6 TJxa66e6 0
theorem nmJxa66e6 : ∀ a, a < 0 → ∀ b, b < 0 → a ≠ b → (TJxa66e6 a).2.1 ≠ (TJxa66e6 b).2.1 := by decide +kernel
theorem tyJxa66e6_ok : ∀ k, k < 0 → parseFieldDescriptor (TJxa66e6 k).2.2.1 = some (tyJxa66e6 k) := by decide +kernel
def RJ8 : String := "jdk/internal/util/ArraysSupport"
def TJ8 : u_T := fun k => match k with
  | _ => ("", "", "", false)
def tyJ8 : Nat → FieldType := fun k => match k with
  | _ => .int
abbrev wsJ80 : List Cond := u_ws RJ8 TJ8 0
theorem nmJ8 : ∀ a, a < 0 → ∀ b, b < 0 → a ≠ b → (TJ8 a).2.1 ≠ (TJ8 b).2.1 := by decide +kernel
theorem tyJ8_ok : ∀ k, k < 0 → parseFieldDescriptor (TJ8 k).2.2.1 = some (tyJ8 k) := by decide +kernel
abbrev cJ8_newLength_cabcc : ByteArray := prog_29_method_27_code
def yJ8_newLength_cabcc : MethodName := ⟨RJ8, "newLength", "(III)I"⟩
abbrev cJ8_hugeLength_7cf53 : ByteArray := prog_29_method_28_code
def yJ8_hugeLength_7cf53 : MethodName := ⟨RJ8, "hugeLength", "(II)I"⟩
def RJ3 : String := "jdk/internal/util/Preconditions"
def TJ3 : u_T := fun k => match k with
  | _ => ("", "", "", false)
def tyJ3 : Nat → FieldType := fun k => match k with
  | _ => .int
abbrev wsJ30 : List Cond := u_ws RJ3 TJ3 0
theorem nmJ3 : ∀ a, a < 0 → ∀ b, b < 0 → a ≠ b → (TJ3 a).2.1 ≠ (TJ3 b).2.1 := by decide +kernel
theorem tyJ3_ok : ∀ k, k < 0 → parseFieldDescriptor (TJ3 k).2.2.1 = some (tyJ3 k) := by decide +kernel
abbrev cJ3_checkIndex_8e157 : ByteArray := prog_30_method_11_code
def yJ3_checkIndex_8e157 : MethodName := ⟨RJ3, "checkIndex", "(IILjava/util/function/BiFunction;)I"⟩
def RL : String := "HarbourPilotlineLaw"
abbrev cL_tide : ByteArray := method_3_code
def yL_tide : MethodName := ⟨RL, "tide", "(LHarbourPilotline;II)I"⟩
abbrev cL_tugs : ByteArray := method_4_code
def yL_tugs : MethodName := ⟨RL, "tugs", "(LHarbourPilotline;I[J)I"⟩
abbrev cL_ship : ByteArray := method_5_code
def yL_ship : MethodName := ⟨RL, "ship", "(LHarbourPilotline;IIII[J)I"⟩
abbrev cL_pilot : ByteArray := method_6_code
def yL_pilot : MethodName := ⟨RL, "pilot", "(LHarbourPilotline;II[J)I"⟩
abbrev cL_call : ByteArray := method_7_code
def yL_call : MethodName := ⟨RL, "call", "(LHarbourPilotline;II[J)I"⟩
abbrev cL_join : ByteArray := method_8_code
def yL_join : MethodName := ⟨RL, "join", "(LHarbourPilotline;III[J)I"⟩
abbrev cL_again : ByteArray := method_9_code
def yL_again : MethodName := ⟨RL, "again", "(LHarbourPilotline;I[J)I"⟩
abbrev cL_drop : ByteArray := method_10_code
def yL_drop : MethodName := ⟨RL, "drop", "(LHarbourPilotline;II[J)I"⟩
abbrev cL_pass : ByteArray := method_11_code
def yL_pass : MethodName := ⟨RL, "pass", "(LHarbourPilotline;I[J)I"⟩
abbrev cL_level : ByteArray := method_12_code
def yL_level : MethodName := ⟨RL, "level", "(LHarbourPilotline;I[J)I"⟩
abbrev cL_window : ByteArray := method_13_code
def yL_window : MethodName := ⟨RL, "window", "(LHarbourPilotline;II[J)I"⟩
abbrev cL_ofConference : ByteArray := method_14_code
def yL_ofConference : MethodName := ⟨RL, "ofConference", "(LHarbourPilotline;II[J)I"⟩
abbrev cL_why : ByteArray := method_15_code
def yL_why : MethodName := ⟨RL, "why", "(LHarbourPilotline;II[J)I"⟩
abbrev cL_rested : ByteArray := method_16_code
def yL_rested : MethodName := ⟨RL, "rested", "(LHarbourPilotline;I[J)I"⟩
abbrev cL_restedAnew : ByteArray := method_17_code
def yL_restedAnew : MethodName := ⟨RL, "restedAnew", "(LHarbourPilotline;I[J)I"⟩
abbrev cL_bill : ByteArray := method_18_code
def yL_bill : MethodName := ⟨RL, "bill", "(LHarbourPilotline;I[J)I"⟩
abbrev cL_ofPilot : ByteArray := method_19_code
def yL_ofPilot : MethodName := ⟨RL, "ofPilot", "(LHarbourPilotline;II[J)I"⟩
abbrev cL_count : ByteArray := method_20_code
def yL_count : MethodName := ⟨RL, "count", "(LHarbourPilotline;I[J)I"⟩
abbrev cL_law : ByteArray := code
def yL_law : MethodName := ⟨RL, "law", "([I)Z"⟩
def wsX0_init : List Cond := .code yX0_init cX0_init 3 none :: ([.methodLink RX0 3 objectInit, .instanceMethod objectInit, .code objectInit ⟨#[0xb1]⟩ 1 none, .fieldLink RX0 9 "HarbourPilotline$Conference" "state" "I", .fieldLink RX0 15 "HarbourPilotline$Conference" "slot" "I", .fieldLink RX0 18 "HarbourPilotline$Conference" "ship" "LHarbourPilotline$Ship;", .fieldLink RX0 22 "HarbourPilotline$Conference" "wish" "I"] ++ wsX00)
def wsX0_hasIn : List Cond := .code yX0_hasIn cX0_hasIn 2 (some .boolean) :: ([.fieldLink RX0 25 "HarbourPilotline$Conference" "shipIn" "Z", .fieldLink RX0 29 "HarbourPilotline$Conference" "towerIn" "Z", .fieldLink RX0 32 "HarbourPilotline$Conference" "pilot" "LHarbourPilotline$Pilot;"] ++ wsX00)
def wsX0_howManyIn : List Cond := .code yX0_howManyIn cX0_howManyIn 1 (some .int) :: ([.fieldLink RX0 25 "HarbourPilotline$Conference" "shipIn" "Z", .fieldLink RX0 29 "HarbourPilotline$Conference" "towerIn" "Z", .fieldLink RX0 32 "HarbourPilotline$Conference" "pilot" "LHarbourPilotline$Pilot;"] ++ wsX00)
def wsX0_letIn : List Cond := .code yX0_letIn cX0_letIn 3 none :: ([.fieldLink RX0 25 "HarbourPilotline$Conference" "shipIn" "Z", .fieldLink RX0 29 "HarbourPilotline$Conference" "towerIn" "Z", .fieldLink RX0 32 "HarbourPilotline$Conference" "pilot" "LHarbourPilotline$Pilot;"] ++ wsX00)
def wsX0_letOut : List Cond := .code yX0_letOut cX0_letOut 2 none :: ([.fieldLink RX0 25 "HarbourPilotline$Conference" "shipIn" "Z", .fieldLink RX0 29 "HarbourPilotline$Conference" "towerIn" "Z", .fieldLink RX0 32 "HarbourPilotline$Conference" "pilot" "LHarbourPilotline$Pilot;", .fieldLink RX0 9 "HarbourPilotline$Conference" "state" "I", .fieldLink RX0 15 "HarbourPilotline$Conference" "slot" "I"] ++ wsX00)
def wsX1_init : List Cond := .code yX1_init cX1_init 4 none :: ([.methodLink RX1 1 objectInit, .instanceMethod objectInit, .code objectInit ⟨#[0xb1]⟩ 1 none, .fieldLink RX1 7 "HarbourPilotline$Pilot" "number" "I", .fieldLink RX1 13 "HarbourPilotline$Pilot" "licence" "I", .fieldLink RX1 16 "HarbourPilotline$Pilot" "rate" "I"] ++ wsX10)
def wsX2_init : List Cond := .code yX2_init cX2_init 6 none :: ([.methodLink RX2 1 objectInit, .instanceMethod objectInit, .code objectInit ⟨#[0xb1]⟩ 1 none, .fieldLink RX2 7 "HarbourPilotline$Ship" "number" "I", .fieldLink RX2 13 "HarbourPilotline$Ship" "draught" "I", .fieldLink RX2 16 "HarbourPilotline$Ship" "tons" "I", .fieldLink RX2 19 "HarbourPilotline$Ship" "minutes" "I", .fieldLink RX2 22 "HarbourPilotline$Ship" "tugs" "I"] ++ wsX20)
def wsX2_minutesWithRest : List Cond := .code yX2_minutesWithRest cX2_minutesWithRest 1 (some .int) :: ([.fieldLink RX2 19 "HarbourPilotline$Ship" "minutes" "I", .methodLink RX2 25 Lib.Math.max.name, .static Lib.Math.max.name, .initialized "java/lang/Math", .code Lib.Math.max.name Lib.Math.max.code 2 (some .int)] ++ wsX20)
def wsX3_init : List Cond := .code yX3_init cX3_init 1 none :: ([.methodLink RX3 1 objectInit, .instanceMethod objectInit, .code objectInit ⟨#[0xb1]⟩ 1 none, .fieldLink RX3 7 "HarbourPilotline$Tide" "depth" "I", .fieldLink RX3 13 "HarbourPilotline$Tide" "rise" "I"] ++ wsX30)
def wsX3_aboveDepth : List Cond := .code yX3_aboveDepth cX3_aboveDepth 3 (some .int) :: ([.methodLink RX3 16 Lib.Math.min.name, .static Lib.Math.min.name, .initialized "java/lang/Math", .code Lib.Math.min.name Lib.Math.min.code 2 (some .int), .fieldLink RX3 13 "HarbourPilotline$Tide" "rise" "I"] ++ wsX30)
def wsX3_pastShallows : List Cond := .code yX3_pastShallows cX3_pastShallows 5 (some .int) :: ([.fieldLink RX3 22 "HarbourPilotline$Ship" "draught" "I", .fieldLink RX3 27 "HarbourPilotline$Ship" "minutes" "I", .fieldLink RX3 7 "HarbourPilotline$Tide" "depth" "I", .methodLink RX3 30 yX3_aboveDepth, .instanceMethod yX3_aboveDepth, .selects RX3 yX3_aboveDepth yX3_aboveDepth, .initialized RX3, .code yX3_aboveDepth cX3_aboveDepth 3 (some .int), .methodLink RX3 16 Lib.Math.min.name, .static Lib.Math.min.name, .initialized "java/lang/Math", .code Lib.Math.min.name Lib.Math.min.code 2 (some .int), .fieldLink RX3 13 "HarbourPilotline$Tide" "rise" "I"] ++ wsX20 ++ wsX30)
def wsJxa1e45_init_da8c8 : List Cond := .code yJxa1e45_init_da8c8 cJxa1e45_init_da8c8 1 none :: ([.methodLink RJxa1e45 1 objectInit, .instanceMethod objectInit, .code objectInit ⟨#[0xb1]⟩ 1 none])
def wsJxc12de_init_da8c8 : List Cond := .code yJxc12de_init_da8c8 cJxc12de_init_da8c8 1 none :: ([.fieldLink RJxc12de 7 "java/util/AbstractList" "modCount" "I", .methodLink RJxc12de 1 yJxa1e45_init_da8c8, .instanceMethod yJxa1e45_init_da8c8, .initialized RJxa1e45, .code yJxa1e45_init_da8c8 cJxa1e45_init_da8c8 1 none, .methodLink RJxa1e45 1 objectInit, .instanceMethod objectInit, .code objectInit ⟨#[0xb1]⟩ 1 none] ++ wsJx4a65c0)
def wsJx4a65c_init_da8c8 : List Cond := .code yJx4a65c_init_da8c8 cJx4a65c_init_da8c8 1 none :: ([.fieldLink RJx4a65c 39 "java/util/ArrayList" "DEFAULTCAPACITY_EMPTY_ELEMENTDATA" "[Ljava/lang/Object;", .fieldLink RJx4a65c 9 "java/util/ArrayList" "elementData" "[Ljava/lang/Object;", .methodLink RJx4a65c 1 yJxc12de_init_da8c8, .instanceMethod yJxc12de_init_da8c8, .initialized RJxc12de, .code yJxc12de_init_da8c8 cJxc12de_init_da8c8 1 none, .fieldLink RJxc12de 7 "java/util/AbstractList" "modCount" "I", .methodLink RJxc12de 1 yJxa1e45_init_da8c8, .instanceMethod yJxa1e45_init_da8c8, .initialized RJxa1e45, .code yJxa1e45_init_da8c8 cJxa1e45_init_da8c8 1 none, .methodLink RJxa1e45 1 objectInit, .instanceMethod objectInit, .code objectInit ⟨#[0xb1]⟩ 1 none] ++ wsJx4a65c0)
def wsX4_init_r1 : List Cond := [Cond.methodLink RX4 1 objectInit, Cond.instanceMethod objectInit, Cond.code objectInit ⟨#[0xb1]⟩ 1 none, Cond.classLink RX4 7 RX3, Cond.instantiable RX3 2, Cond.initialized RX3, Cond.fieldLink RX4 10 "HarbourPilotline" "tide" "LHarbourPilotline$Tide;", Cond.classLink RX4 16 RJx4a65c, Cond.instantiable RJx4a65c 3, Cond.initialized RJx4a65c, Cond.fieldLink RX4 19 "HarbourPilotline" "ships" "Ljava/util/ArrayList;", Cond.fieldLink RX4 23 "HarbourPilotline" "pilots" "Ljava/util/ArrayList;", Cond.fieldLink RX4 26 "HarbourPilotline" "conferences" "Ljava/util/ArrayList;", Cond.fieldLink RX4 29 "HarbourPilotline" "tugs" "I", Cond.instanceMethod yX3_init, Cond.code yX3_init cX3_init 1 none, Cond.methodLink RX3 1 objectInit, Cond.fieldLink RX3 7 "HarbourPilotline$Tide" "depth" "I", Cond.fieldLink RX3 13 "HarbourPilotline$Tide" "rise" "I", Cond.methodLink RX4 18 yJx4a65c_init_da8c8, Cond.instanceMethod yJx4a65c_init_da8c8, Cond.code yJx4a65c_init_da8c8 cJx4a65c_init_da8c8 1 none, Cond.fieldLink RJx4a65c 39 "java/util/ArrayList" "DEFAULTCAPACITY_EMPTY_ELEMENTDATA" "[Ljava/lang/Object;", Cond.fieldLink RJx4a65c 9 "java/util/ArrayList" "elementData" "[Ljava/lang/Object;"]
def wsX4_init_r2 : List Cond := [Cond.methodLink RJx4a65c 1 yJxc12de_init_da8c8, Cond.instanceMethod yJxc12de_init_da8c8, Cond.initialized RJxc12de, Cond.code yJxc12de_init_da8c8 cJxc12de_init_da8c8 1 none, Cond.fieldLink RJxc12de 7 "java/util/AbstractList" "modCount" "I", Cond.methodLink RJxc12de 1 yJxa1e45_init_da8c8, Cond.instanceMethod yJxa1e45_init_da8c8, Cond.initialized RJxa1e45, Cond.code yJxa1e45_init_da8c8 cJxa1e45_init_da8c8 1 none, Cond.methodLink RJxa1e45 1 objectInit]
def wsX4_init : List Cond := .code yX4_init cX4_init 1 none :: ((wsX4_init_r1 ++ wsX4_init_r2) ++ wsX30 ++ wsX40 ++ wsJx4a65c0)
def wsX4_demandWithin : List Cond := .code yX4_demandWithin cX4_demandWithin 3 none :: ([.classLink RX4 222 "java/lang/IllegalArgumentException", .initialized "java/lang/IllegalArgumentException"] ++ (vx_atS RX4 226 "java/lang/IllegalArgumentException" ["java/lang/RuntimeException", "java/lang/Exception"]).filter goodWord)
def wsX4_tide : List Cond := .code yX4_tide cX4_tide 3 none :: ([.fieldLink RX4 10 "HarbourPilotline" "tide" "LHarbourPilotline$Tide;", .fieldLink RX4 37 "HarbourPilotline$Tide" "depth" "I", .fieldLink RX4 40 "HarbourPilotline$Tide" "rise" "I", .methodLink RX4 33 yX4_demandWithin, .static yX4_demandWithin, .initialized RX4, .code yX4_demandWithin cX4_demandWithin 3 none, .classLink RX4 222 "java/lang/IllegalArgumentException", .initialized "java/lang/IllegalArgumentException"] ++ wsX40 ++ wsX30 ++ (vx_atS RX4 226 "java/lang/IllegalArgumentException" ["java/lang/RuntimeException", "java/lang/Exception"]).filter goodWord)
def wsX4_tugs : List Cond := .code yX4_tugs cX4_tugs 3 (some .int) :: ([.fieldLink RX4 29 "HarbourPilotline" "tugs" "I", .methodLink RX4 33 yX4_demandWithin, .static yX4_demandWithin, .initialized RX4, .code yX4_demandWithin cX4_demandWithin 3 none, .classLink RX4 222 "java/lang/IllegalArgumentException", .initialized "java/lang/IllegalArgumentException"] ++ wsX40 ++ (vx_atS RX4 226 "java/lang/IllegalArgumentException" ["java/lang/RuntimeException", "java/lang/Exception"]).filter goodWord)
def wsJx4a65c_size_8abf5 : List Cond := .code yJx4a65c_size_8abf5 cJx4a65c_size_8abf5 1 (some .int) :: ([.fieldLink RJx4a65c 48 "java/util/ArrayList" "size" "I"] ++ wsJx4a65c0)
def wsX4_demandRoom : List Cond := .code yX4_demandRoom cX4_demandRoom 2 none :: ([.classLink RX4 92 "java/lang/IllegalStateException", .initialized "java/lang/IllegalStateException"] ++ (vx_atS RX4 96 "java/lang/IllegalStateException" ["java/lang/RuntimeException", "java/lang/Exception"]).filter goodWord)
def wsJ8_hugeLength_7cf53 : List Cond := .code yJ8_hugeLength_7cf53 cJ8_hugeLength_7cf53 3 (some .int) :: ([.constant RJ8 200 (2147483639)])
def wsJ8_newLength_cabcc : List Cond := .code yJ8_newLength_cabcc cJ8_newLength_cabcc 4 (some .int) :: ([.methodLink RJ8 194 Lib.Math.max.name, .static Lib.Math.max.name, .initialized "java/lang/Math", .code Lib.Math.max.name Lib.Math.max.code 2 (some .int), .constant RJ8 200 (2147483639), .methodLink RJ8 201 yJ8_hugeLength_7cf53, .static yJ8_hugeLength_7cf53, .initialized RJ8, .code yJ8_hugeLength_7cf53 cJ8_hugeLength_7cf53 3 (some .int)])
def wsJ7_copyOf_6403c : List Cond := .code yJ7_copyOf_6403c cJ7_copyOf_6403c 4 (some (.array (.object "java/lang/Object"))) :: ([.classLink RJ7 110 "[Ljava/lang/Object;", .classLink RJ7 2 "java/lang/Object", .methodLink RJ7 304 Lib.Math.min.name, .static Lib.Math.min.name, .initialized "java/lang/Math", .code Lib.Math.min.name Lib.Math.min.code 2 (some .int), .methodLink RJ7 150 arraycopyName, .native arraycopyName, .static arraycopyName, .initialized "java/lang/System"])
def wsJ7_copyOf_1904c : List Cond := .code yJ7_copyOf_1904c cJ7_copyOf_1904c 2 (some (.array (.object "java/lang/Object"))) :: ([.methodLink RJ7 86 ⟨"java/lang/Object", "getClass", "()Ljava/lang/Class;"⟩, .selects "[Ljava/lang/Object;" ⟨"java/lang/Object", "getClass", "()Ljava/lang/Class;"⟩ ⟨"java/lang/Object", "getClass", "()Ljava/lang/Class;"⟩, .instanceMethod ⟨"java/lang/Object", "getClass", "()Ljava/lang/Class;"⟩, .native ⟨"java/lang/Object", "getClass", "()Ljava/lang/Class;"⟩, .methodLink RJ7 300 yJ7_copyOf_6403c, .static yJ7_copyOf_6403c, .initialized RJ7, .code yJ7_copyOf_6403c cJ7_copyOf_6403c 4 (some (.array (.object "java/lang/Object"))), .classLink RJ7 110 "[Ljava/lang/Object;", .classLink RJ7 2 "java/lang/Object", .methodLink RJ7 304 Lib.Math.min.name, .static Lib.Math.min.name, .initialized "java/lang/Math", .code Lib.Math.min.name Lib.Math.min.code 2 (some .int), .methodLink RJ7 150 arraycopyName, .native arraycopyName, .static arraycopyName, .initialized "java/lang/System"])
def wsJx4a65c_grow_92f84_r1 : List Cond := [Cond.fieldLink RJx4a65c 9 "java/util/ArrayList" "elementData" "[Ljava/lang/Object;", Cond.fieldLink RJx4a65c 39 "java/util/ArrayList" "DEFAULTCAPACITY_EMPTY_ELEMENTDATA" "[Ljava/lang/Object;", Cond.methodLink RJx4a65c 79 Lib.Math.max.name, Cond.static Lib.Math.max.name, Cond.initialized "java/lang/Math", Cond.code Lib.Math.max.name Lib.Math.max.code 2 (some .int), Cond.classLink RJx4a65c 7 "java/lang/Object", Cond.methodLink RJx4a65c 73 yJ8_newLength_cabcc, Cond.static yJ8_newLength_cabcc, Cond.initialized RJ8, Cond.code yJ8_newLength_cabcc cJ8_newLength_cabcc 4 (some .int), Cond.methodLink RJ8 194 Lib.Math.max.name, Cond.constant RJ8 200 (2147483639), Cond.methodLink RJ8 201 yJ8_hugeLength_7cf53, Cond.static yJ8_hugeLength_7cf53, Cond.code yJ8_hugeLength_7cf53 cJ8_hugeLength_7cf53 3 (some .int), Cond.methodLink RJx4a65c 66 yJ7_copyOf_1904c, Cond.static yJ7_copyOf_1904c, Cond.initialized RJ7, Cond.code yJ7_copyOf_1904c cJ7_copyOf_1904c 2 (some (.array (.object "java/lang/Object"))), Cond.methodLink RJ7 86 ⟨"java/lang/Object", "getClass", "()Ljava/lang/Class;"⟩, Cond.selects "[Ljava/lang/Object;" ⟨"java/lang/Object", "getClass", "()Ljava/lang/Class;"⟩ ⟨"java/lang/Object", "getClass", "()Ljava/lang/Class;"⟩, Cond.instanceMethod ⟨"java/lang/Object", "getClass", "()Ljava/lang/Class;"⟩, Cond.native ⟨"java/lang/Object", "getClass", "()Ljava/lang/Class;"⟩]
def wsJx4a65c_grow_92f84_r2 : List Cond := [Cond.methodLink RJ7 300 yJ7_copyOf_6403c, Cond.static yJ7_copyOf_6403c, Cond.code yJ7_copyOf_6403c cJ7_copyOf_6403c 4 (some (.array (.object "java/lang/Object"))), Cond.classLink RJ7 110 "[Ljava/lang/Object;", Cond.classLink RJ7 2 "java/lang/Object", Cond.methodLink RJ7 304 Lib.Math.min.name, Cond.static Lib.Math.min.name, Cond.code Lib.Math.min.name Lib.Math.min.code 2 (some .int), Cond.methodLink RJ7 150 arraycopyName, Cond.native arraycopyName, Cond.static arraycopyName, Cond.initialized "java/lang/System"]
def wsJx4a65c_grow_92f84 : List Cond := .code yJx4a65c_grow_92f84 cJx4a65c_grow_92f84 4 (some (.array (.object "java/lang/Object"))) :: ((wsJx4a65c_grow_92f84_r1 ++ wsJx4a65c_grow_92f84_r2) ++ wsJx4a65c0)
def wsJx4a65c_grow_d5877_r1 : List Cond := [Cond.fieldLink RJx4a65c 48 "java/util/ArrayList" "size" "I", Cond.methodLink RJx4a65c 69 yJx4a65c_grow_92f84, Cond.instanceMethod yJx4a65c_grow_92f84, Cond.selects RJx4a65c yJx4a65c_grow_92f84 yJx4a65c_grow_92f84, Cond.initialized RJx4a65c, Cond.code yJx4a65c_grow_92f84 cJx4a65c_grow_92f84 4 (some (.array (.object "java/lang/Object"))), Cond.fieldLink RJx4a65c 9 "java/util/ArrayList" "elementData" "[Ljava/lang/Object;", Cond.fieldLink RJx4a65c 39 "java/util/ArrayList" "DEFAULTCAPACITY_EMPTY_ELEMENTDATA" "[Ljava/lang/Object;", Cond.methodLink RJx4a65c 79 Lib.Math.max.name, Cond.static Lib.Math.max.name, Cond.initialized "java/lang/Math", Cond.code Lib.Math.max.name Lib.Math.max.code 2 (some .int), Cond.classLink RJx4a65c 7 "java/lang/Object", Cond.methodLink RJx4a65c 73 yJ8_newLength_cabcc, Cond.static yJ8_newLength_cabcc, Cond.initialized RJ8, Cond.code yJ8_newLength_cabcc cJ8_newLength_cabcc 4 (some .int), Cond.methodLink RJ8 194 Lib.Math.max.name, Cond.constant RJ8 200 (2147483639), Cond.methodLink RJ8 201 yJ8_hugeLength_7cf53, Cond.static yJ8_hugeLength_7cf53, Cond.code yJ8_hugeLength_7cf53 cJ8_hugeLength_7cf53 3 (some .int), Cond.methodLink RJx4a65c 66 yJ7_copyOf_1904c, Cond.static yJ7_copyOf_1904c]
def wsJx4a65c_grow_d5877_r2 : List Cond := [Cond.initialized RJ7, Cond.code yJ7_copyOf_1904c cJ7_copyOf_1904c 2 (some (.array (.object "java/lang/Object"))), Cond.methodLink RJ7 86 ⟨"java/lang/Object", "getClass", "()Ljava/lang/Class;"⟩, Cond.selects "[Ljava/lang/Object;" ⟨"java/lang/Object", "getClass", "()Ljava/lang/Class;"⟩ ⟨"java/lang/Object", "getClass", "()Ljava/lang/Class;"⟩, Cond.instanceMethod ⟨"java/lang/Object", "getClass", "()Ljava/lang/Class;"⟩, Cond.native ⟨"java/lang/Object", "getClass", "()Ljava/lang/Class;"⟩, Cond.methodLink RJ7 300 yJ7_copyOf_6403c, Cond.static yJ7_copyOf_6403c, Cond.code yJ7_copyOf_6403c cJ7_copyOf_6403c 4 (some (.array (.object "java/lang/Object"))), Cond.classLink RJ7 110 "[Ljava/lang/Object;", Cond.classLink RJ7 2 "java/lang/Object", Cond.methodLink RJ7 304 Lib.Math.min.name, Cond.static Lib.Math.min.name, Cond.code Lib.Math.min.name Lib.Math.min.code 2 (some .int), Cond.methodLink RJ7 150 arraycopyName, Cond.native arraycopyName, Cond.static arraycopyName, Cond.initialized "java/lang/System"]
def wsJx4a65c_grow_d5877 : List Cond := .code yJx4a65c_grow_d5877 cJx4a65c_grow_d5877 1 (some (.array (.object "java/lang/Object"))) :: ((wsJx4a65c_grow_d5877_r1 ++ wsJx4a65c_grow_d5877_r2) ++ wsJx4a65c0)
def wsJx4a65c_add_72be8_r1 : List Cond := [Cond.fieldLink RJx4a65c 48 "java/util/ArrayList" "size" "I", Cond.methodLink RJx4a65c 129 yJx4a65c_grow_d5877, Cond.instanceMethod yJx4a65c_grow_d5877, Cond.selects RJx4a65c yJx4a65c_grow_d5877 yJx4a65c_grow_d5877, Cond.initialized RJx4a65c, Cond.code yJx4a65c_grow_d5877 cJx4a65c_grow_d5877 1 (some (.array (.object "java/lang/Object"))), Cond.methodLink RJx4a65c 69 yJx4a65c_grow_92f84, Cond.instanceMethod yJx4a65c_grow_92f84, Cond.selects RJx4a65c yJx4a65c_grow_92f84 yJx4a65c_grow_92f84, Cond.code yJx4a65c_grow_92f84 cJx4a65c_grow_92f84 4 (some (.array (.object "java/lang/Object"))), Cond.fieldLink RJx4a65c 9 "java/util/ArrayList" "elementData" "[Ljava/lang/Object;", Cond.fieldLink RJx4a65c 39 "java/util/ArrayList" "DEFAULTCAPACITY_EMPTY_ELEMENTDATA" "[Ljava/lang/Object;", Cond.methodLink RJx4a65c 79 Lib.Math.max.name, Cond.static Lib.Math.max.name, Cond.initialized "java/lang/Math", Cond.code Lib.Math.max.name Lib.Math.max.code 2 (some .int), Cond.classLink RJx4a65c 7 "java/lang/Object", Cond.methodLink RJx4a65c 73 yJ8_newLength_cabcc, Cond.static yJ8_newLength_cabcc, Cond.initialized RJ8, Cond.code yJ8_newLength_cabcc cJ8_newLength_cabcc 4 (some .int), Cond.methodLink RJ8 194 Lib.Math.max.name, Cond.constant RJ8 200 (2147483639), Cond.methodLink RJ8 201 yJ8_hugeLength_7cf53]
def wsJx4a65c_add_72be8_r2 : List Cond := [Cond.static yJ8_hugeLength_7cf53, Cond.code yJ8_hugeLength_7cf53 cJ8_hugeLength_7cf53 3 (some .int), Cond.methodLink RJx4a65c 66 yJ7_copyOf_1904c, Cond.static yJ7_copyOf_1904c, Cond.initialized RJ7, Cond.code yJ7_copyOf_1904c cJ7_copyOf_1904c 2 (some (.array (.object "java/lang/Object"))), Cond.methodLink RJ7 86 ⟨"java/lang/Object", "getClass", "()Ljava/lang/Class;"⟩, Cond.selects "[Ljava/lang/Object;" ⟨"java/lang/Object", "getClass", "()Ljava/lang/Class;"⟩ ⟨"java/lang/Object", "getClass", "()Ljava/lang/Class;"⟩, Cond.instanceMethod ⟨"java/lang/Object", "getClass", "()Ljava/lang/Class;"⟩, Cond.native ⟨"java/lang/Object", "getClass", "()Ljava/lang/Class;"⟩, Cond.methodLink RJ7 300 yJ7_copyOf_6403c, Cond.static yJ7_copyOf_6403c, Cond.code yJ7_copyOf_6403c cJ7_copyOf_6403c 4 (some (.array (.object "java/lang/Object"))), Cond.classLink RJ7 110 "[Ljava/lang/Object;", Cond.classLink RJ7 2 "java/lang/Object", Cond.methodLink RJ7 304 Lib.Math.min.name, Cond.static Lib.Math.min.name, Cond.code Lib.Math.min.name Lib.Math.min.code 2 (some .int), Cond.methodLink RJ7 150 arraycopyName, Cond.native arraycopyName, Cond.static arraycopyName, Cond.initialized "java/lang/System"]
def wsJx4a65c_add_72be8 : List Cond := .code yJx4a65c_add_72be8 cJx4a65c_add_72be8 4 none :: ((wsJx4a65c_add_72be8_r1 ++ wsJx4a65c_add_72be8_r2) ++ wsJx4a65c0)
def wsJx4a65c_add_9ea2d_r1 : List Cond := [Cond.fieldLink RJx4a65c 63 "java/util/ArrayList" "modCount" "I", Cond.sameField "java/util/ArrayList" "java/util/AbstractList" "modCount" "I", Cond.fieldLink RJx4a65c 9 "java/util/ArrayList" "elementData" "[Ljava/lang/Object;", Cond.fieldLink RJx4a65c 48 "java/util/ArrayList" "size" "I", Cond.methodLink RJx4a65c 131 yJx4a65c_add_72be8, Cond.instanceMethod yJx4a65c_add_72be8, Cond.selects RJx4a65c yJx4a65c_add_72be8 yJx4a65c_add_72be8, Cond.initialized RJx4a65c, Cond.code yJx4a65c_add_72be8 cJx4a65c_add_72be8 4 none, Cond.methodLink RJx4a65c 129 yJx4a65c_grow_d5877, Cond.instanceMethod yJx4a65c_grow_d5877, Cond.selects RJx4a65c yJx4a65c_grow_d5877 yJx4a65c_grow_d5877, Cond.code yJx4a65c_grow_d5877 cJx4a65c_grow_d5877 1 (some (.array (.object "java/lang/Object"))), Cond.methodLink RJx4a65c 69 yJx4a65c_grow_92f84, Cond.instanceMethod yJx4a65c_grow_92f84, Cond.selects RJx4a65c yJx4a65c_grow_92f84 yJx4a65c_grow_92f84, Cond.code yJx4a65c_grow_92f84 cJx4a65c_grow_92f84 4 (some (.array (.object "java/lang/Object"))), Cond.fieldLink RJx4a65c 39 "java/util/ArrayList" "DEFAULTCAPACITY_EMPTY_ELEMENTDATA" "[Ljava/lang/Object;", Cond.methodLink RJx4a65c 79 Lib.Math.max.name, Cond.static Lib.Math.max.name, Cond.initialized "java/lang/Math", Cond.code Lib.Math.max.name Lib.Math.max.code 2 (some .int), Cond.classLink RJx4a65c 7 "java/lang/Object", Cond.methodLink RJx4a65c 73 yJ8_newLength_cabcc]
def wsJx4a65c_add_9ea2d_r2 : List Cond := [Cond.static yJ8_newLength_cabcc, Cond.initialized RJ8, Cond.code yJ8_newLength_cabcc cJ8_newLength_cabcc 4 (some .int), Cond.methodLink RJ8 194 Lib.Math.max.name, Cond.constant RJ8 200 (2147483639), Cond.methodLink RJ8 201 yJ8_hugeLength_7cf53, Cond.static yJ8_hugeLength_7cf53, Cond.code yJ8_hugeLength_7cf53 cJ8_hugeLength_7cf53 3 (some .int), Cond.methodLink RJx4a65c 66 yJ7_copyOf_1904c, Cond.static yJ7_copyOf_1904c, Cond.initialized RJ7, Cond.code yJ7_copyOf_1904c cJ7_copyOf_1904c 2 (some (.array (.object "java/lang/Object"))), Cond.methodLink RJ7 86 ⟨"java/lang/Object", "getClass", "()Ljava/lang/Class;"⟩, Cond.selects "[Ljava/lang/Object;" ⟨"java/lang/Object", "getClass", "()Ljava/lang/Class;"⟩ ⟨"java/lang/Object", "getClass", "()Ljava/lang/Class;"⟩, Cond.instanceMethod ⟨"java/lang/Object", "getClass", "()Ljava/lang/Class;"⟩, Cond.native ⟨"java/lang/Object", "getClass", "()Ljava/lang/Class;"⟩, Cond.methodLink RJ7 300 yJ7_copyOf_6403c, Cond.static yJ7_copyOf_6403c, Cond.code yJ7_copyOf_6403c cJ7_copyOf_6403c 4 (some (.array (.object "java/lang/Object"))), Cond.classLink RJ7 110 "[Ljava/lang/Object;", Cond.classLink RJ7 2 "java/lang/Object", Cond.methodLink RJ7 304 Lib.Math.min.name, Cond.static Lib.Math.min.name, Cond.code Lib.Math.min.name Lib.Math.min.code 2 (some .int)]
def wsJx4a65c_add_9ea2d_r3 : List Cond := [Cond.methodLink RJ7 150 arraycopyName, Cond.native arraycopyName, Cond.static arraycopyName, Cond.initialized "java/lang/System"]
def wsJx4a65c_add_9ea2d : List Cond := .code yJx4a65c_add_9ea2d cJx4a65c_add_9ea2d 2 (some .boolean) :: ((wsJx4a65c_add_9ea2d_r1 ++ (wsJx4a65c_add_9ea2d_r2 ++ wsJx4a65c_add_9ea2d_r3)) ++ wsJx4a65c0)
def wsX4_ship_r1 : List Cond := [Cond.fieldLink RX4 19 "HarbourPilotline" "ships" "Ljava/util/ArrayList;", Cond.classLink RX4 51 RX2, Cond.instantiable RX2 6, Cond.initialized RX2, Cond.methodLink RX4 33 yX4_demandWithin, Cond.static yX4_demandWithin, Cond.initialized RX4, Cond.code yX4_demandWithin cX4_demandWithin 3 none, Cond.classLink RX4 222 "java/lang/IllegalArgumentException", Cond.initialized "java/lang/IllegalArgumentException", Cond.methodLink RX4 43 yJx4a65c_size_8abf5, Cond.instanceMethod yJx4a65c_size_8abf5, Cond.selects RJx4a65c yJx4a65c_size_8abf5 yJx4a65c_size_8abf5, Cond.initialized RJx4a65c, Cond.code yJx4a65c_size_8abf5 cJx4a65c_size_8abf5 1 (some .int), Cond.fieldLink RJx4a65c 48 "java/util/ArrayList" "size" "I", Cond.methodLink RX4 47 yX4_demandRoom, Cond.static yX4_demandRoom, Cond.code yX4_demandRoom cX4_demandRoom 2 none, Cond.classLink RX4 92 "java/lang/IllegalStateException", Cond.initialized "java/lang/IllegalStateException", Cond.methodLink RX4 53 yX2_init, Cond.instanceMethod yX2_init, Cond.code yX2_init cX2_init 6 none]
def wsX4_ship_r2 : List Cond := [Cond.methodLink RX2 1 objectInit, Cond.instanceMethod objectInit, Cond.code objectInit ⟨#[0xb1]⟩ 1 none, Cond.fieldLink RX2 7 "HarbourPilotline$Ship" "number" "I", Cond.fieldLink RX2 13 "HarbourPilotline$Ship" "draught" "I", Cond.fieldLink RX2 16 "HarbourPilotline$Ship" "tons" "I", Cond.fieldLink RX2 19 "HarbourPilotline$Ship" "minutes" "I", Cond.fieldLink RX2 22 "HarbourPilotline$Ship" "tugs" "I", Cond.methodLink RX4 56 yJx4a65c_add_9ea2d, Cond.instanceMethod yJx4a65c_add_9ea2d, Cond.selects RJx4a65c yJx4a65c_add_9ea2d yJx4a65c_add_9ea2d, Cond.code yJx4a65c_add_9ea2d cJx4a65c_add_9ea2d 2 (some .boolean), Cond.fieldLink RJx4a65c 63 "java/util/ArrayList" "modCount" "I", Cond.sameField "java/util/ArrayList" "java/util/AbstractList" "modCount" "I", Cond.fieldLink RJx4a65c 9 "java/util/ArrayList" "elementData" "[Ljava/lang/Object;", Cond.methodLink RJx4a65c 131 yJx4a65c_add_72be8, Cond.instanceMethod yJx4a65c_add_72be8, Cond.selects RJx4a65c yJx4a65c_add_72be8 yJx4a65c_add_72be8, Cond.code yJx4a65c_add_72be8 cJx4a65c_add_72be8 4 none, Cond.methodLink RJx4a65c 129 yJx4a65c_grow_d5877, Cond.instanceMethod yJx4a65c_grow_d5877, Cond.selects RJx4a65c yJx4a65c_grow_d5877 yJx4a65c_grow_d5877, Cond.code yJx4a65c_grow_d5877 cJx4a65c_grow_d5877 1 (some (.array (.object "java/lang/Object"))), Cond.methodLink RJx4a65c 69 yJx4a65c_grow_92f84]
def wsX4_ship_r3 : List Cond := [Cond.instanceMethod yJx4a65c_grow_92f84, Cond.selects RJx4a65c yJx4a65c_grow_92f84 yJx4a65c_grow_92f84, Cond.code yJx4a65c_grow_92f84 cJx4a65c_grow_92f84 4 (some (.array (.object "java/lang/Object"))), Cond.fieldLink RJx4a65c 39 "java/util/ArrayList" "DEFAULTCAPACITY_EMPTY_ELEMENTDATA" "[Ljava/lang/Object;", Cond.methodLink RJx4a65c 79 Lib.Math.max.name, Cond.static Lib.Math.max.name, Cond.initialized "java/lang/Math", Cond.code Lib.Math.max.name Lib.Math.max.code 2 (some .int), Cond.classLink RJx4a65c 7 "java/lang/Object", Cond.methodLink RJx4a65c 73 yJ8_newLength_cabcc, Cond.static yJ8_newLength_cabcc, Cond.initialized RJ8, Cond.code yJ8_newLength_cabcc cJ8_newLength_cabcc 4 (some .int), Cond.methodLink RJ8 194 Lib.Math.max.name, Cond.constant RJ8 200 (2147483639), Cond.methodLink RJ8 201 yJ8_hugeLength_7cf53, Cond.static yJ8_hugeLength_7cf53, Cond.code yJ8_hugeLength_7cf53 cJ8_hugeLength_7cf53 3 (some .int), Cond.methodLink RJx4a65c 66 yJ7_copyOf_1904c, Cond.static yJ7_copyOf_1904c, Cond.initialized RJ7, Cond.code yJ7_copyOf_1904c cJ7_copyOf_1904c 2 (some (.array (.object "java/lang/Object"))), Cond.methodLink RJ7 86 ⟨"java/lang/Object", "getClass", "()Ljava/lang/Class;"⟩, Cond.selects "[Ljava/lang/Object;" ⟨"java/lang/Object", "getClass", "()Ljava/lang/Class;"⟩ ⟨"java/lang/Object", "getClass", "()Ljava/lang/Class;"⟩]
def wsX4_ship_r4 : List Cond := [Cond.instanceMethod ⟨"java/lang/Object", "getClass", "()Ljava/lang/Class;"⟩, Cond.native ⟨"java/lang/Object", "getClass", "()Ljava/lang/Class;"⟩, Cond.methodLink RJ7 300 yJ7_copyOf_6403c, Cond.static yJ7_copyOf_6403c, Cond.code yJ7_copyOf_6403c cJ7_copyOf_6403c 4 (some (.array (.object "java/lang/Object"))), Cond.classLink RJ7 110 "[Ljava/lang/Object;", Cond.classLink RJ7 2 "java/lang/Object", Cond.methodLink RJ7 304 Lib.Math.min.name, Cond.static Lib.Math.min.name, Cond.code Lib.Math.min.name Lib.Math.min.code 2 (some .int), Cond.methodLink RJ7 150 arraycopyName, Cond.native arraycopyName, Cond.static arraycopyName, Cond.initialized "java/lang/System"]
def wsX4_ship : List Cond := .code yX4_ship cX4_ship 6 (some .int) :: ((wsX4_ship_r1 ++ (wsX4_ship_r2 ++ (wsX4_ship_r3 ++ wsX4_ship_r4))) ++ wsX40 ++ wsX20 ++ wsJx4a65c0 ++ (vx_atS RX4 226 "java/lang/IllegalArgumentException" ["java/lang/RuntimeException", "java/lang/Exception"]).filter goodWord ++ (vx_atS RX4 96 "java/lang/IllegalStateException" ["java/lang/RuntimeException", "java/lang/Exception"]).filter goodWord)
def wsX4_pilot_r1 : List Cond := [Cond.fieldLink RX4 23 "HarbourPilotline" "pilots" "Ljava/util/ArrayList;", Cond.classLink RX4 60 RX1, Cond.instantiable RX1 5, Cond.initialized RX1, Cond.methodLink RX4 33 yX4_demandWithin, Cond.static yX4_demandWithin, Cond.initialized RX4, Cond.code yX4_demandWithin cX4_demandWithin 3 none, Cond.classLink RX4 222 "java/lang/IllegalArgumentException", Cond.initialized "java/lang/IllegalArgumentException", Cond.methodLink RX4 43 yJx4a65c_size_8abf5, Cond.instanceMethod yJx4a65c_size_8abf5, Cond.selects RJx4a65c yJx4a65c_size_8abf5 yJx4a65c_size_8abf5, Cond.initialized RJx4a65c, Cond.code yJx4a65c_size_8abf5 cJx4a65c_size_8abf5 1 (some .int), Cond.fieldLink RJx4a65c 48 "java/util/ArrayList" "size" "I", Cond.methodLink RX4 47 yX4_demandRoom, Cond.static yX4_demandRoom, Cond.code yX4_demandRoom cX4_demandRoom 2 none, Cond.classLink RX4 92 "java/lang/IllegalStateException", Cond.initialized "java/lang/IllegalStateException", Cond.methodLink RX4 62 yX1_init, Cond.instanceMethod yX1_init, Cond.code yX1_init cX1_init 4 none]
def wsX4_pilot_r2 : List Cond := [Cond.methodLink RX1 1 objectInit, Cond.instanceMethod objectInit, Cond.code objectInit ⟨#[0xb1]⟩ 1 none, Cond.fieldLink RX1 7 "HarbourPilotline$Pilot" "number" "I", Cond.fieldLink RX1 13 "HarbourPilotline$Pilot" "licence" "I", Cond.fieldLink RX1 16 "HarbourPilotline$Pilot" "rate" "I", Cond.methodLink RX4 56 yJx4a65c_add_9ea2d, Cond.instanceMethod yJx4a65c_add_9ea2d, Cond.selects RJx4a65c yJx4a65c_add_9ea2d yJx4a65c_add_9ea2d, Cond.code yJx4a65c_add_9ea2d cJx4a65c_add_9ea2d 2 (some .boolean), Cond.fieldLink RJx4a65c 63 "java/util/ArrayList" "modCount" "I", Cond.sameField "java/util/ArrayList" "java/util/AbstractList" "modCount" "I", Cond.fieldLink RJx4a65c 9 "java/util/ArrayList" "elementData" "[Ljava/lang/Object;", Cond.methodLink RJx4a65c 131 yJx4a65c_add_72be8, Cond.instanceMethod yJx4a65c_add_72be8, Cond.selects RJx4a65c yJx4a65c_add_72be8 yJx4a65c_add_72be8, Cond.code yJx4a65c_add_72be8 cJx4a65c_add_72be8 4 none, Cond.methodLink RJx4a65c 129 yJx4a65c_grow_d5877, Cond.instanceMethod yJx4a65c_grow_d5877, Cond.selects RJx4a65c yJx4a65c_grow_d5877 yJx4a65c_grow_d5877, Cond.code yJx4a65c_grow_d5877 cJx4a65c_grow_d5877 1 (some (.array (.object "java/lang/Object"))), Cond.methodLink RJx4a65c 69 yJx4a65c_grow_92f84, Cond.instanceMethod yJx4a65c_grow_92f84, Cond.selects RJx4a65c yJx4a65c_grow_92f84 yJx4a65c_grow_92f84]
def wsX4_pilot_r3 : List Cond := [Cond.code yJx4a65c_grow_92f84 cJx4a65c_grow_92f84 4 (some (.array (.object "java/lang/Object"))), Cond.fieldLink RJx4a65c 39 "java/util/ArrayList" "DEFAULTCAPACITY_EMPTY_ELEMENTDATA" "[Ljava/lang/Object;", Cond.methodLink RJx4a65c 79 Lib.Math.max.name, Cond.static Lib.Math.max.name, Cond.initialized "java/lang/Math", Cond.code Lib.Math.max.name Lib.Math.max.code 2 (some .int), Cond.classLink RJx4a65c 7 "java/lang/Object", Cond.methodLink RJx4a65c 73 yJ8_newLength_cabcc, Cond.static yJ8_newLength_cabcc, Cond.initialized RJ8, Cond.code yJ8_newLength_cabcc cJ8_newLength_cabcc 4 (some .int), Cond.methodLink RJ8 194 Lib.Math.max.name, Cond.constant RJ8 200 (2147483639), Cond.methodLink RJ8 201 yJ8_hugeLength_7cf53, Cond.static yJ8_hugeLength_7cf53, Cond.code yJ8_hugeLength_7cf53 cJ8_hugeLength_7cf53 3 (some .int), Cond.methodLink RJx4a65c 66 yJ7_copyOf_1904c, Cond.static yJ7_copyOf_1904c, Cond.initialized RJ7, Cond.code yJ7_copyOf_1904c cJ7_copyOf_1904c 2 (some (.array (.object "java/lang/Object"))), Cond.methodLink RJ7 86 ⟨"java/lang/Object", "getClass", "()Ljava/lang/Class;"⟩, Cond.selects "[Ljava/lang/Object;" ⟨"java/lang/Object", "getClass", "()Ljava/lang/Class;"⟩ ⟨"java/lang/Object", "getClass", "()Ljava/lang/Class;"⟩, Cond.instanceMethod ⟨"java/lang/Object", "getClass", "()Ljava/lang/Class;"⟩, Cond.native ⟨"java/lang/Object", "getClass", "()Ljava/lang/Class;"⟩]
def wsX4_pilot_r4 : List Cond := [Cond.methodLink RJ7 300 yJ7_copyOf_6403c, Cond.static yJ7_copyOf_6403c, Cond.code yJ7_copyOf_6403c cJ7_copyOf_6403c 4 (some (.array (.object "java/lang/Object"))), Cond.classLink RJ7 110 "[Ljava/lang/Object;", Cond.classLink RJ7 2 "java/lang/Object", Cond.methodLink RJ7 304 Lib.Math.min.name, Cond.static Lib.Math.min.name, Cond.code Lib.Math.min.name Lib.Math.min.code 2 (some .int), Cond.methodLink RJ7 150 arraycopyName, Cond.native arraycopyName, Cond.static arraycopyName, Cond.initialized "java/lang/System"]
def wsX4_pilot : List Cond := .code yX4_pilot cX4_pilot 4 (some .int) :: ((wsX4_pilot_r1 ++ (wsX4_pilot_r2 ++ (wsX4_pilot_r3 ++ wsX4_pilot_r4))) ++ wsX40 ++ wsX10 ++ wsJx4a65c0 ++ (vx_atS RX4 226 "java/lang/IllegalArgumentException" ["java/lang/RuntimeException", "java/lang/Exception"]).filter goodWord ++ (vx_atS RX4 96 "java/lang/IllegalStateException" ["java/lang/RuntimeException", "java/lang/Exception"]).filter goodWord)
def wsJ3_checkIndex_8e157 : List Cond := .code yJ3_checkIndex_8e157 cJ3_checkIndex_8e157 3 (some .int) :: ([])
def wsJ15_checkIndex_7cf53 : List Cond := .code yJ15_checkIndex_7cf53 cJ15_checkIndex_7cf53 2 (some .int) :: ([.methodLink RJ15 105 yJ3_checkIndex_8e157, .static yJ3_checkIndex_8e157, .initialized RJ3, .code yJ3_checkIndex_8e157 cJ3_checkIndex_8e157 3 (some .int)])
def wsJx4a65c_elementData_915e3 : List Cond := .code yJx4a65c_elementData_915e3 cJx4a65c_elementData_915e3 2 (some (.object "java/lang/Object")) :: ([.fieldLink RJx4a65c 9 "java/util/ArrayList" "elementData" "[Ljava/lang/Object;"] ++ wsJx4a65c0)
def wsJx4a65c_get_915e3 : List Cond := .code yJx4a65c_get_915e3 cJx4a65c_get_915e3 2 (some (.object "java/lang/Object")) :: ([.fieldLink RJx4a65c 48 "java/util/ArrayList" "size" "I", .methodLink RJx4a65c 118 yJ15_checkIndex_7cf53, .static yJ15_checkIndex_7cf53, .initialized RJ15, .code yJ15_checkIndex_7cf53 cJ15_checkIndex_7cf53 2 (some .int), .methodLink RJ15 105 yJ3_checkIndex_8e157, .static yJ3_checkIndex_8e157, .initialized RJ3, .code yJ3_checkIndex_8e157 cJ3_checkIndex_8e157 3 (some .int), .methodLink RJx4a65c 123 yJx4a65c_elementData_915e3, .instanceMethod yJx4a65c_elementData_915e3, .selects RJx4a65c yJx4a65c_elementData_915e3 yJx4a65c_elementData_915e3, .initialized RJx4a65c, .code yJx4a65c_elementData_915e3 cJx4a65c_elementData_915e3 2 (some (.object "java/lang/Object")), .fieldLink RJx4a65c 9 "java/util/ArrayList" "elementData" "[Ljava/lang/Object;"] ++ wsJx4a65c0)
def wsX4_shipAt_r1 : List Cond := [Cond.classLink RX4 175 "java/lang/IndexOutOfBoundsException", Cond.initialized "java/lang/IndexOutOfBoundsException", Cond.fieldLink RX4 19 "HarbourPilotline" "ships" "Ljava/util/ArrayList;", Cond.classLink RX4 51 "HarbourPilotline$Ship", Cond.methodLink RX4 43 yJx4a65c_size_8abf5, Cond.instanceMethod yJx4a65c_size_8abf5, Cond.selects RJx4a65c yJx4a65c_size_8abf5 yJx4a65c_size_8abf5, Cond.initialized RJx4a65c, Cond.code yJx4a65c_size_8abf5 cJx4a65c_size_8abf5 1 (some .int), Cond.fieldLink RJx4a65c 48 "java/util/ArrayList" "size" "I", Cond.methodLink RX4 145 yJx4a65c_get_915e3, Cond.instanceMethod yJx4a65c_get_915e3, Cond.selects RJx4a65c yJx4a65c_get_915e3 yJx4a65c_get_915e3, Cond.code yJx4a65c_get_915e3 cJx4a65c_get_915e3 2 (some (.object "java/lang/Object")), Cond.methodLink RJx4a65c 118 yJ15_checkIndex_7cf53, Cond.static yJ15_checkIndex_7cf53, Cond.initialized RJ15, Cond.code yJ15_checkIndex_7cf53 cJ15_checkIndex_7cf53 2 (some .int), Cond.methodLink RJ15 105 yJ3_checkIndex_8e157, Cond.static yJ3_checkIndex_8e157, Cond.initialized RJ3, Cond.code yJ3_checkIndex_8e157 cJ3_checkIndex_8e157 3 (some .int), Cond.methodLink RJx4a65c 123 yJx4a65c_elementData_915e3, Cond.instanceMethod yJx4a65c_elementData_915e3]
def wsX4_shipAt_r2 : List Cond := [Cond.selects RJx4a65c yJx4a65c_elementData_915e3 yJx4a65c_elementData_915e3, Cond.code yJx4a65c_elementData_915e3 cJx4a65c_elementData_915e3 2 (some (.object "java/lang/Object")), Cond.fieldLink RJx4a65c 9 "java/util/ArrayList" "elementData" "[Ljava/lang/Object;"]
def wsX4_shipAt : List Cond := .code yX4_shipAt cX4_shipAt 2 (some (.object "HarbourPilotline$Ship")) :: ((wsX4_shipAt_r1 ++ wsX4_shipAt_r2) ++ wsX40 ++ wsJx4a65c0 ++ (vx_atS RX4 179 "java/lang/IndexOutOfBoundsException" ["java/lang/RuntimeException", "java/lang/Exception"]).filter goodWord)
def wsX4_call_r1 : List Cond := [Cond.fieldLink RX4 68 "HarbourPilotline" "now" "I", Cond.fieldLink RX4 26 "HarbourPilotline" "conferences" "Ljava/util/ArrayList;", Cond.classLink RX4 71 RX0, Cond.instantiable RX0 7, Cond.initialized RX0, Cond.methodLink RX4 64 yX4_shipAt, Cond.instanceMethod yX4_shipAt, Cond.selects RX4 yX4_shipAt yX4_shipAt, Cond.initialized RX4, Cond.code yX4_shipAt cX4_shipAt 2 (some (.object "HarbourPilotline$Ship")), Cond.classLink RX4 175 "java/lang/IndexOutOfBoundsException", Cond.initialized "java/lang/IndexOutOfBoundsException", Cond.fieldLink RX4 19 "HarbourPilotline" "ships" "Ljava/util/ArrayList;", Cond.classLink RX4 51 "HarbourPilotline$Ship", Cond.methodLink RX4 43 yJx4a65c_size_8abf5, Cond.instanceMethod yJx4a65c_size_8abf5, Cond.selects RJx4a65c yJx4a65c_size_8abf5 yJx4a65c_size_8abf5, Cond.initialized RJx4a65c, Cond.code yJx4a65c_size_8abf5 cJx4a65c_size_8abf5 1 (some .int), Cond.fieldLink RJx4a65c 48 "java/util/ArrayList" "size" "I", Cond.methodLink RX4 145 yJx4a65c_get_915e3, Cond.instanceMethod yJx4a65c_get_915e3, Cond.selects RJx4a65c yJx4a65c_get_915e3 yJx4a65c_get_915e3, Cond.code yJx4a65c_get_915e3 cJx4a65c_get_915e3 2 (some (.object "java/lang/Object"))]
def wsX4_call_r2 : List Cond := [Cond.methodLink RJx4a65c 118 yJ15_checkIndex_7cf53, Cond.static yJ15_checkIndex_7cf53, Cond.initialized RJ15, Cond.code yJ15_checkIndex_7cf53 cJ15_checkIndex_7cf53 2 (some .int), Cond.methodLink RJ15 105 yJ3_checkIndex_8e157, Cond.static yJ3_checkIndex_8e157, Cond.initialized RJ3, Cond.code yJ3_checkIndex_8e157 cJ3_checkIndex_8e157 3 (some .int), Cond.methodLink RJx4a65c 123 yJx4a65c_elementData_915e3, Cond.instanceMethod yJx4a65c_elementData_915e3, Cond.selects RJx4a65c yJx4a65c_elementData_915e3 yJx4a65c_elementData_915e3, Cond.code yJx4a65c_elementData_915e3 cJx4a65c_elementData_915e3 2 (some (.object "java/lang/Object")), Cond.fieldLink RJx4a65c 9 "java/util/ArrayList" "elementData" "[Ljava/lang/Object;", Cond.methodLink RX4 33 yX4_demandWithin, Cond.static yX4_demandWithin, Cond.code yX4_demandWithin cX4_demandWithin 3 none, Cond.classLink RX4 222 "java/lang/IllegalArgumentException", Cond.initialized "java/lang/IllegalArgumentException", Cond.methodLink RX4 47 yX4_demandRoom, Cond.static yX4_demandRoom, Cond.code yX4_demandRoom cX4_demandRoom 2 none, Cond.classLink RX4 92 "java/lang/IllegalStateException", Cond.initialized "java/lang/IllegalStateException", Cond.methodLink RX4 73 yX0_init]
def wsX4_call_r3 : List Cond := [Cond.instanceMethod yX0_init, Cond.code yX0_init cX0_init 3 none, Cond.methodLink RX0 3 objectInit, Cond.instanceMethod objectInit, Cond.code objectInit ⟨#[0xb1]⟩ 1 none, Cond.fieldLink RX0 9 "HarbourPilotline$Conference" "state" "I", Cond.fieldLink RX0 15 "HarbourPilotline$Conference" "slot" "I", Cond.fieldLink RX0 18 "HarbourPilotline$Conference" "ship" "LHarbourPilotline$Ship;", Cond.fieldLink RX0 22 "HarbourPilotline$Conference" "wish" "I", Cond.methodLink RX4 56 yJx4a65c_add_9ea2d, Cond.instanceMethod yJx4a65c_add_9ea2d, Cond.selects RJx4a65c yJx4a65c_add_9ea2d yJx4a65c_add_9ea2d, Cond.code yJx4a65c_add_9ea2d cJx4a65c_add_9ea2d 2 (some .boolean), Cond.fieldLink RJx4a65c 63 "java/util/ArrayList" "modCount" "I", Cond.sameField "java/util/ArrayList" "java/util/AbstractList" "modCount" "I", Cond.methodLink RJx4a65c 131 yJx4a65c_add_72be8, Cond.instanceMethod yJx4a65c_add_72be8, Cond.selects RJx4a65c yJx4a65c_add_72be8 yJx4a65c_add_72be8, Cond.code yJx4a65c_add_72be8 cJx4a65c_add_72be8 4 none, Cond.methodLink RJx4a65c 129 yJx4a65c_grow_d5877, Cond.instanceMethod yJx4a65c_grow_d5877, Cond.selects RJx4a65c yJx4a65c_grow_d5877 yJx4a65c_grow_d5877, Cond.code yJx4a65c_grow_d5877 cJx4a65c_grow_d5877 1 (some (.array (.object "java/lang/Object"))), Cond.methodLink RJx4a65c 69 yJx4a65c_grow_92f84]
def wsX4_call_r4 : List Cond := [Cond.instanceMethod yJx4a65c_grow_92f84, Cond.selects RJx4a65c yJx4a65c_grow_92f84 yJx4a65c_grow_92f84, Cond.code yJx4a65c_grow_92f84 cJx4a65c_grow_92f84 4 (some (.array (.object "java/lang/Object"))), Cond.fieldLink RJx4a65c 39 "java/util/ArrayList" "DEFAULTCAPACITY_EMPTY_ELEMENTDATA" "[Ljava/lang/Object;", Cond.methodLink RJx4a65c 79 Lib.Math.max.name, Cond.static Lib.Math.max.name, Cond.initialized "java/lang/Math", Cond.code Lib.Math.max.name Lib.Math.max.code 2 (some .int), Cond.classLink RJx4a65c 7 "java/lang/Object", Cond.methodLink RJx4a65c 73 yJ8_newLength_cabcc, Cond.static yJ8_newLength_cabcc, Cond.initialized RJ8, Cond.code yJ8_newLength_cabcc cJ8_newLength_cabcc 4 (some .int), Cond.methodLink RJ8 194 Lib.Math.max.name, Cond.constant RJ8 200 (2147483639), Cond.methodLink RJ8 201 yJ8_hugeLength_7cf53, Cond.static yJ8_hugeLength_7cf53, Cond.code yJ8_hugeLength_7cf53 cJ8_hugeLength_7cf53 3 (some .int), Cond.methodLink RJx4a65c 66 yJ7_copyOf_1904c, Cond.static yJ7_copyOf_1904c, Cond.initialized RJ7, Cond.code yJ7_copyOf_1904c cJ7_copyOf_1904c 2 (some (.array (.object "java/lang/Object"))), Cond.methodLink RJ7 86 ⟨"java/lang/Object", "getClass", "()Ljava/lang/Class;"⟩, Cond.selects "[Ljava/lang/Object;" ⟨"java/lang/Object", "getClass", "()Ljava/lang/Class;"⟩ ⟨"java/lang/Object", "getClass", "()Ljava/lang/Class;"⟩]
def wsX4_call_r5 : List Cond := [Cond.instanceMethod ⟨"java/lang/Object", "getClass", "()Ljava/lang/Class;"⟩, Cond.native ⟨"java/lang/Object", "getClass", "()Ljava/lang/Class;"⟩, Cond.methodLink RJ7 300 yJ7_copyOf_6403c, Cond.static yJ7_copyOf_6403c, Cond.code yJ7_copyOf_6403c cJ7_copyOf_6403c 4 (some (.array (.object "java/lang/Object"))), Cond.classLink RJ7 110 "[Ljava/lang/Object;", Cond.classLink RJ7 2 "java/lang/Object", Cond.methodLink RJ7 304 Lib.Math.min.name, Cond.static Lib.Math.min.name, Cond.code Lib.Math.min.name Lib.Math.min.code 2 (some .int), Cond.methodLink RJ7 150 arraycopyName, Cond.native arraycopyName, Cond.static arraycopyName, Cond.initialized "java/lang/System"]
def wsX4_call : List Cond := .code yX4_call cX4_call 5 (some .int) :: ((wsX4_call_r1 ++ (wsX4_call_r2 ++ (wsX4_call_r3 ++ (wsX4_call_r4 ++ wsX4_call_r5)))) ++ wsX40 ++ wsX00 ++ wsJx4a65c0 ++ (vx_atS RX4 179 "java/lang/IndexOutOfBoundsException" ["java/lang/RuntimeException", "java/lang/Exception"]).filter goodWord ++ (vx_atS RX4 226 "java/lang/IllegalArgumentException" ["java/lang/RuntimeException", "java/lang/Exception"]).filter goodWord ++ (vx_atS RX4 96 "java/lang/IllegalStateException" ["java/lang/RuntimeException", "java/lang/Exception"]).filter goodWord)
def wsX4_conferenceAt_r1 : List Cond := [Cond.classLink RX4 175 "java/lang/IndexOutOfBoundsException", Cond.initialized "java/lang/IndexOutOfBoundsException", Cond.fieldLink RX4 26 "HarbourPilotline" "conferences" "Ljava/util/ArrayList;", Cond.classLink RX4 71 "HarbourPilotline$Conference", Cond.methodLink RX4 43 yJx4a65c_size_8abf5, Cond.instanceMethod yJx4a65c_size_8abf5, Cond.selects RJx4a65c yJx4a65c_size_8abf5 yJx4a65c_size_8abf5, Cond.initialized RJx4a65c, Cond.code yJx4a65c_size_8abf5 cJx4a65c_size_8abf5 1 (some .int), Cond.fieldLink RJx4a65c 48 "java/util/ArrayList" "size" "I", Cond.methodLink RX4 145 yJx4a65c_get_915e3, Cond.instanceMethod yJx4a65c_get_915e3, Cond.selects RJx4a65c yJx4a65c_get_915e3 yJx4a65c_get_915e3, Cond.code yJx4a65c_get_915e3 cJx4a65c_get_915e3 2 (some (.object "java/lang/Object")), Cond.methodLink RJx4a65c 118 yJ15_checkIndex_7cf53, Cond.static yJ15_checkIndex_7cf53, Cond.initialized RJ15, Cond.code yJ15_checkIndex_7cf53 cJ15_checkIndex_7cf53 2 (some .int), Cond.methodLink RJ15 105 yJ3_checkIndex_8e157, Cond.static yJ3_checkIndex_8e157, Cond.initialized RJ3, Cond.code yJ3_checkIndex_8e157 cJ3_checkIndex_8e157 3 (some .int), Cond.methodLink RJx4a65c 123 yJx4a65c_elementData_915e3, Cond.instanceMethod yJx4a65c_elementData_915e3]
def wsX4_conferenceAt_r2 : List Cond := [Cond.selects RJx4a65c yJx4a65c_elementData_915e3 yJx4a65c_elementData_915e3, Cond.code yJx4a65c_elementData_915e3 cJx4a65c_elementData_915e3 2 (some (.object "java/lang/Object")), Cond.fieldLink RJx4a65c 9 "java/util/ArrayList" "elementData" "[Ljava/lang/Object;"]
def wsX4_conferenceAt : List Cond := .code yX4_conferenceAt cX4_conferenceAt 2 (some (.object "HarbourPilotline$Conference")) :: ((wsX4_conferenceAt_r1 ++ wsX4_conferenceAt_r2) ++ wsX40 ++ wsJx4a65c0 ++ (vx_atS RX4 179 "java/lang/IndexOutOfBoundsException" ["java/lang/RuntimeException", "java/lang/Exception"]).filter goodWord)
def wsX4_demandWho : List Cond := .code yX4_demandWho cX4_demandWho 1 none :: ([.classLink RX4 175 "java/lang/IndexOutOfBoundsException", .initialized "java/lang/IndexOutOfBoundsException"] ++ (vx_atS RX4 179 "java/lang/IndexOutOfBoundsException" ["java/lang/RuntimeException", "java/lang/Exception"]).filter goodWord)
def wsX4_pilotAt_r1 : List Cond := [Cond.classLink RX4 175 "java/lang/IndexOutOfBoundsException", Cond.initialized "java/lang/IndexOutOfBoundsException", Cond.fieldLink RX4 23 "HarbourPilotline" "pilots" "Ljava/util/ArrayList;", Cond.classLink RX4 60 "HarbourPilotline$Pilot", Cond.methodLink RX4 43 yJx4a65c_size_8abf5, Cond.instanceMethod yJx4a65c_size_8abf5, Cond.selects RJx4a65c yJx4a65c_size_8abf5 yJx4a65c_size_8abf5, Cond.initialized RJx4a65c, Cond.code yJx4a65c_size_8abf5 cJx4a65c_size_8abf5 1 (some .int), Cond.fieldLink RJx4a65c 48 "java/util/ArrayList" "size" "I", Cond.methodLink RX4 145 yJx4a65c_get_915e3, Cond.instanceMethod yJx4a65c_get_915e3, Cond.selects RJx4a65c yJx4a65c_get_915e3 yJx4a65c_get_915e3, Cond.code yJx4a65c_get_915e3 cJx4a65c_get_915e3 2 (some (.object "java/lang/Object")), Cond.methodLink RJx4a65c 118 yJ15_checkIndex_7cf53, Cond.static yJ15_checkIndex_7cf53, Cond.initialized RJ15, Cond.code yJ15_checkIndex_7cf53 cJ15_checkIndex_7cf53 2 (some .int), Cond.methodLink RJ15 105 yJ3_checkIndex_8e157, Cond.static yJ3_checkIndex_8e157, Cond.initialized RJ3, Cond.code yJ3_checkIndex_8e157 cJ3_checkIndex_8e157 3 (some .int), Cond.methodLink RJx4a65c 123 yJx4a65c_elementData_915e3, Cond.instanceMethod yJx4a65c_elementData_915e3]
def wsX4_pilotAt_r2 : List Cond := [Cond.selects RJx4a65c yJx4a65c_elementData_915e3 yJx4a65c_elementData_915e3, Cond.code yJx4a65c_elementData_915e3 cJx4a65c_elementData_915e3 2 (some (.object "java/lang/Object")), Cond.fieldLink RJx4a65c 9 "java/util/ArrayList" "elementData" "[Ljava/lang/Object;"]
def wsX4_pilotAt : List Cond := .code yX4_pilotAt cX4_pilotAt 2 (some (.object "HarbourPilotline$Pilot")) :: ((wsX4_pilotAt_r1 ++ wsX4_pilotAt_r2) ++ wsX40 ++ wsJx4a65c0 ++ (vx_atS RX4 179 "java/lang/IndexOutOfBoundsException" ["java/lang/RuntimeException", "java/lang/Exception"]).filter goodWord)
def wsX4_pastRests_r1 : List Cond := [Cond.fieldLink RX4 26 "HarbourPilotline" "conferences" "Ljava/util/ArrayList;", Cond.classLink RX4 71 "HarbourPilotline$Conference", Cond.fieldLink RX4 122 "HarbourPilotline$Conference" "slot" "I", Cond.fieldLink RX4 167 "HarbourPilotline$Conference" "pilot" "LHarbourPilotline$Pilot;", Cond.fieldLink RX4 102 "HarbourPilotline$Conference" "ship" "LHarbourPilotline$Ship;", Cond.methodLink RX4 161 Lib.Math.max.name, Cond.static Lib.Math.max.name, Cond.initialized "java/lang/Math", Cond.code Lib.Math.max.name Lib.Math.max.code 2 (some .int), Cond.methodLink RX4 43 yJx4a65c_size_8abf5, Cond.instanceMethod yJx4a65c_size_8abf5, Cond.selects RJx4a65c yJx4a65c_size_8abf5 yJx4a65c_size_8abf5, Cond.initialized RJx4a65c, Cond.code yJx4a65c_size_8abf5 cJx4a65c_size_8abf5 1 (some .int), Cond.fieldLink RJx4a65c 48 "java/util/ArrayList" "size" "I", Cond.methodLink RX4 145 yJx4a65c_get_915e3, Cond.instanceMethod yJx4a65c_get_915e3, Cond.selects RJx4a65c yJx4a65c_get_915e3 yJx4a65c_get_915e3, Cond.code yJx4a65c_get_915e3 cJx4a65c_get_915e3 2 (some (.object "java/lang/Object")), Cond.methodLink RJx4a65c 118 yJ15_checkIndex_7cf53, Cond.static yJ15_checkIndex_7cf53, Cond.initialized RJ15, Cond.code yJ15_checkIndex_7cf53 cJ15_checkIndex_7cf53 2 (some .int), Cond.methodLink RJ15 105 yJ3_checkIndex_8e157]
def wsX4_pastRests_r2 : List Cond := [Cond.static yJ3_checkIndex_8e157, Cond.initialized RJ3, Cond.code yJ3_checkIndex_8e157 cJ3_checkIndex_8e157 3 (some .int), Cond.methodLink RJx4a65c 123 yJx4a65c_elementData_915e3, Cond.instanceMethod yJx4a65c_elementData_915e3, Cond.selects RJx4a65c yJx4a65c_elementData_915e3 yJx4a65c_elementData_915e3, Cond.code yJx4a65c_elementData_915e3 cJx4a65c_elementData_915e3 2 (some (.object "java/lang/Object")), Cond.fieldLink RJx4a65c 9 "java/util/ArrayList" "elementData" "[Ljava/lang/Object;", Cond.methodLink RX4 244 yX2_minutesWithRest, Cond.instanceMethod yX2_minutesWithRest, Cond.selects RX2 yX2_minutesWithRest yX2_minutesWithRest, Cond.initialized RX2, Cond.code yX2_minutesWithRest cX2_minutesWithRest 1 (some .int), Cond.fieldLink RX2 19 "HarbourPilotline$Ship" "minutes" "I", Cond.methodLink RX2 25 Lib.Math.max.name]
def wsX4_pastRests : List Cond := .code yX4_pastRests cX4_pastRests 7 (some .int) :: ((wsX4_pastRests_r1 ++ wsX4_pastRests_r2) ++ wsX40 ++ wsX00 ++ wsJx4a65c0 ++ wsX20)
def wsX4_pastChannel_r1 : List Cond := [Cond.fieldLink RX4 26 "HarbourPilotline" "conferences" "Ljava/util/ArrayList;", Cond.classLink RX4 71 "HarbourPilotline$Conference", Cond.fieldLink RX4 122 "HarbourPilotline$Conference" "slot" "I", Cond.methodLink RX4 251 Lib.Math.abs.name, Cond.static Lib.Math.abs.name, Cond.initialized "java/lang/Math", Cond.code Lib.Math.abs.name Lib.Math.abs.code 1 (some .int), Cond.methodLink RX4 161 Lib.Math.max.name, Cond.static Lib.Math.max.name, Cond.code Lib.Math.max.name Lib.Math.max.code 2 (some .int), Cond.methodLink RX4 43 yJx4a65c_size_8abf5, Cond.instanceMethod yJx4a65c_size_8abf5, Cond.selects RJx4a65c yJx4a65c_size_8abf5 yJx4a65c_size_8abf5, Cond.initialized RJx4a65c, Cond.code yJx4a65c_size_8abf5 cJx4a65c_size_8abf5 1 (some .int), Cond.fieldLink RJx4a65c 48 "java/util/ArrayList" "size" "I", Cond.methodLink RX4 145 yJx4a65c_get_915e3, Cond.instanceMethod yJx4a65c_get_915e3, Cond.selects RJx4a65c yJx4a65c_get_915e3 yJx4a65c_get_915e3, Cond.code yJx4a65c_get_915e3 cJx4a65c_get_915e3 2 (some (.object "java/lang/Object")), Cond.methodLink RJx4a65c 118 yJ15_checkIndex_7cf53, Cond.static yJ15_checkIndex_7cf53, Cond.initialized RJ15, Cond.code yJ15_checkIndex_7cf53 cJ15_checkIndex_7cf53 2 (some .int)]
def wsX4_pastChannel_r2 : List Cond := [Cond.methodLink RJ15 105 yJ3_checkIndex_8e157, Cond.static yJ3_checkIndex_8e157, Cond.initialized RJ3, Cond.code yJ3_checkIndex_8e157 cJ3_checkIndex_8e157 3 (some .int), Cond.methodLink RJx4a65c 123 yJx4a65c_elementData_915e3, Cond.instanceMethod yJx4a65c_elementData_915e3, Cond.selects RJx4a65c yJx4a65c_elementData_915e3 yJx4a65c_elementData_915e3, Cond.code yJx4a65c_elementData_915e3 cJx4a65c_elementData_915e3 2 (some (.object "java/lang/Object")), Cond.fieldLink RJx4a65c 9 "java/util/ArrayList" "elementData" "[Ljava/lang/Object;"]
def wsX4_pastChannel : List Cond := .code yX4_pastChannel cX4_pastChannel 6 (some .int) :: ((wsX4_pastChannel_r1 ++ wsX4_pastChannel_r2) ++ wsX40 ++ wsX00 ++ wsJx4a65c0)
def wsX4_tugsOfOthers_r1 : List Cond := [Cond.fieldLink RX4 26 "HarbourPilotline" "conferences" "Ljava/util/ArrayList;", Cond.classLink RX4 71 "HarbourPilotline$Conference", Cond.fieldLink RX4 122 "HarbourPilotline$Conference" "slot" "I", Cond.fieldLink RX4 102 "HarbourPilotline$Conference" "ship" "LHarbourPilotline$Ship;", Cond.fieldLink RX4 247 "HarbourPilotline$Ship" "minutes" "I", Cond.fieldLink RX4 250 "HarbourPilotline$Ship" "tugs" "I", Cond.methodLink RX4 43 yJx4a65c_size_8abf5, Cond.instanceMethod yJx4a65c_size_8abf5, Cond.selects RJx4a65c yJx4a65c_size_8abf5 yJx4a65c_size_8abf5, Cond.initialized RJx4a65c, Cond.code yJx4a65c_size_8abf5 cJx4a65c_size_8abf5 1 (some .int), Cond.fieldLink RJx4a65c 48 "java/util/ArrayList" "size" "I", Cond.methodLink RX4 145 yJx4a65c_get_915e3, Cond.instanceMethod yJx4a65c_get_915e3, Cond.selects RJx4a65c yJx4a65c_get_915e3 yJx4a65c_get_915e3, Cond.code yJx4a65c_get_915e3 cJx4a65c_get_915e3 2 (some (.object "java/lang/Object")), Cond.methodLink RJx4a65c 118 yJ15_checkIndex_7cf53, Cond.static yJ15_checkIndex_7cf53, Cond.initialized RJ15, Cond.code yJ15_checkIndex_7cf53 cJ15_checkIndex_7cf53 2 (some .int), Cond.methodLink RJ15 105 yJ3_checkIndex_8e157, Cond.static yJ3_checkIndex_8e157, Cond.initialized RJ3, Cond.code yJ3_checkIndex_8e157 cJ3_checkIndex_8e157 3 (some .int)]
def wsX4_tugsOfOthers_r2 : List Cond := [Cond.methodLink RJx4a65c 123 yJx4a65c_elementData_915e3, Cond.instanceMethod yJx4a65c_elementData_915e3, Cond.selects RJx4a65c yJx4a65c_elementData_915e3 yJx4a65c_elementData_915e3, Cond.code yJx4a65c_elementData_915e3 cJx4a65c_elementData_915e3 2 (some (.object "java/lang/Object")), Cond.fieldLink RJx4a65c 9 "java/util/ArrayList" "elementData" "[Ljava/lang/Object;"]
def wsX4_tugsOfOthers : List Cond := .code yX4_tugsOfOthers cX4_tugsOfOthers 7 (some .int) :: ((wsX4_tugsOfOthers_r1 ++ wsX4_tugsOfOthers_r2) ++ wsX40 ++ wsX00 ++ wsX20 ++ wsJx4a65c0)
def wsX4_pastTugs_r1 : List Cond := [Cond.fieldLink RX4 102 "HarbourPilotline$Conference" "ship" "LHarbourPilotline$Ship;", Cond.fieldLink RX4 247 "HarbourPilotline$Ship" "minutes" "I", Cond.fieldLink RX4 29 "HarbourPilotline" "tugs" "I", Cond.fieldLink RX4 250 "HarbourPilotline$Ship" "tugs" "I", Cond.methodLink RX4 212 yX4_tugsOfOthers, Cond.instanceMethod yX4_tugsOfOthers, Cond.selects RX4 yX4_tugsOfOthers yX4_tugsOfOthers, Cond.initialized RX4, Cond.code yX4_tugsOfOthers cX4_tugsOfOthers 7 (some .int), Cond.fieldLink RX4 26 "HarbourPilotline" "conferences" "Ljava/util/ArrayList;", Cond.classLink RX4 71 "HarbourPilotline$Conference", Cond.fieldLink RX4 122 "HarbourPilotline$Conference" "slot" "I", Cond.methodLink RX4 43 yJx4a65c_size_8abf5, Cond.instanceMethod yJx4a65c_size_8abf5, Cond.selects RJx4a65c yJx4a65c_size_8abf5 yJx4a65c_size_8abf5, Cond.initialized RJx4a65c, Cond.code yJx4a65c_size_8abf5 cJx4a65c_size_8abf5 1 (some .int), Cond.fieldLink RJx4a65c 48 "java/util/ArrayList" "size" "I", Cond.methodLink RX4 145 yJx4a65c_get_915e3, Cond.instanceMethod yJx4a65c_get_915e3, Cond.selects RJx4a65c yJx4a65c_get_915e3 yJx4a65c_get_915e3, Cond.code yJx4a65c_get_915e3 cJx4a65c_get_915e3 2 (some (.object "java/lang/Object")), Cond.methodLink RJx4a65c 118 yJ15_checkIndex_7cf53, Cond.static yJ15_checkIndex_7cf53]
def wsX4_pastTugs_r2 : List Cond := [Cond.initialized RJ15, Cond.code yJ15_checkIndex_7cf53 cJ15_checkIndex_7cf53 2 (some .int), Cond.methodLink RJ15 105 yJ3_checkIndex_8e157, Cond.static yJ3_checkIndex_8e157, Cond.initialized RJ3, Cond.code yJ3_checkIndex_8e157 cJ3_checkIndex_8e157 3 (some .int), Cond.methodLink RJx4a65c 123 yJx4a65c_elementData_915e3, Cond.instanceMethod yJx4a65c_elementData_915e3, Cond.selects RJx4a65c yJx4a65c_elementData_915e3 yJx4a65c_elementData_915e3, Cond.code yJx4a65c_elementData_915e3 cJx4a65c_elementData_915e3 2 (some (.object "java/lang/Object")), Cond.fieldLink RJx4a65c 9 "java/util/ArrayList" "elementData" "[Ljava/lang/Object;"]
def wsX4_pastTugs : List Cond := .code yX4_pastTugs cX4_pastTugs 6 (some .int) :: ((wsX4_pastTugs_r1 ++ wsX4_pastTugs_r2) ++ wsX00 ++ wsX20 ++ wsX40 ++ wsJx4a65c0)
def wsX4_earliestSlot_r1 : List Cond := [Cond.fieldLink RX4 241 "HarbourPilotline$Conference" "wish" "I", Cond.fieldLink RX4 68 "HarbourPilotline" "now" "I", Cond.methodLink RX4 161 Lib.Math.max.name, Cond.static Lib.Math.max.name, Cond.initialized "java/lang/Math", Cond.code Lib.Math.max.name Lib.Math.max.code 2 (some .int), Cond.fieldLink RX4 10 "HarbourPilotline" "tide" "LHarbourPilotline$Tide;", Cond.fieldLink RX4 102 "HarbourPilotline$Conference" "ship" "LHarbourPilotline$Ship;", Cond.methodLink RX4 157 yX3_pastShallows, Cond.instanceMethod yX3_pastShallows, Cond.selects RX3 yX3_pastShallows yX3_pastShallows, Cond.initialized RX3, Cond.code yX3_pastShallows cX3_pastShallows 5 (some .int), Cond.fieldLink RX3 22 "HarbourPilotline$Ship" "draught" "I", Cond.fieldLink RX3 27 "HarbourPilotline$Ship" "minutes" "I", Cond.fieldLink RX3 7 "HarbourPilotline$Tide" "depth" "I", Cond.methodLink RX3 30 yX3_aboveDepth, Cond.instanceMethod yX3_aboveDepth, Cond.selects RX3 yX3_aboveDepth yX3_aboveDepth, Cond.code yX3_aboveDepth cX3_aboveDepth 3 (some .int), Cond.methodLink RX3 16 Lib.Math.min.name, Cond.static Lib.Math.min.name, Cond.code Lib.Math.min.name Lib.Math.min.code 2 (some .int), Cond.fieldLink RX3 13 "HarbourPilotline$Tide" "rise" "I"]
def wsX4_earliestSlot_r2 : List Cond := [Cond.methodLink RX4 182 yX4_pastRests, Cond.instanceMethod yX4_pastRests, Cond.selects RX4 yX4_pastRests yX4_pastRests, Cond.initialized RX4, Cond.code yX4_pastRests cX4_pastRests 7 (some .int), Cond.fieldLink RX4 26 "HarbourPilotline" "conferences" "Ljava/util/ArrayList;", Cond.classLink RX4 71 "HarbourPilotline$Conference", Cond.fieldLink RX4 122 "HarbourPilotline$Conference" "slot" "I", Cond.fieldLink RX4 167 "HarbourPilotline$Conference" "pilot" "LHarbourPilotline$Pilot;", Cond.methodLink RX4 43 yJx4a65c_size_8abf5, Cond.instanceMethod yJx4a65c_size_8abf5, Cond.selects RJx4a65c yJx4a65c_size_8abf5 yJx4a65c_size_8abf5, Cond.initialized RJx4a65c, Cond.code yJx4a65c_size_8abf5 cJx4a65c_size_8abf5 1 (some .int), Cond.fieldLink RJx4a65c 48 "java/util/ArrayList" "size" "I", Cond.methodLink RX4 145 yJx4a65c_get_915e3, Cond.instanceMethod yJx4a65c_get_915e3, Cond.selects RJx4a65c yJx4a65c_get_915e3 yJx4a65c_get_915e3, Cond.code yJx4a65c_get_915e3 cJx4a65c_get_915e3 2 (some (.object "java/lang/Object")), Cond.methodLink RJx4a65c 118 yJ15_checkIndex_7cf53, Cond.static yJ15_checkIndex_7cf53, Cond.initialized RJ15, Cond.code yJ15_checkIndex_7cf53 cJ15_checkIndex_7cf53 2 (some .int), Cond.methodLink RJ15 105 yJ3_checkIndex_8e157]
def wsX4_earliestSlot_r3 : List Cond := [Cond.static yJ3_checkIndex_8e157, Cond.initialized RJ3, Cond.code yJ3_checkIndex_8e157 cJ3_checkIndex_8e157 3 (some .int), Cond.methodLink RJx4a65c 123 yJx4a65c_elementData_915e3, Cond.instanceMethod yJx4a65c_elementData_915e3, Cond.selects RJx4a65c yJx4a65c_elementData_915e3 yJx4a65c_elementData_915e3, Cond.code yJx4a65c_elementData_915e3 cJx4a65c_elementData_915e3 2 (some (.object "java/lang/Object")), Cond.fieldLink RJx4a65c 9 "java/util/ArrayList" "elementData" "[Ljava/lang/Object;", Cond.methodLink RX4 244 yX2_minutesWithRest, Cond.instanceMethod yX2_minutesWithRest, Cond.selects RX2 yX2_minutesWithRest yX2_minutesWithRest, Cond.initialized RX2, Cond.code yX2_minutesWithRest cX2_minutesWithRest 1 (some .int), Cond.fieldLink RX2 19 "HarbourPilotline$Ship" "minutes" "I", Cond.methodLink RX2 25 Lib.Math.max.name, Cond.methodLink RX4 189 yX4_pastChannel, Cond.instanceMethod yX4_pastChannel, Cond.selects RX4 yX4_pastChannel yX4_pastChannel, Cond.code yX4_pastChannel cX4_pastChannel 6 (some .int), Cond.methodLink RX4 251 Lib.Math.abs.name, Cond.static Lib.Math.abs.name, Cond.code Lib.Math.abs.name Lib.Math.abs.code 1 (some .int), Cond.methodLink RX4 186 yX4_pastTugs, Cond.instanceMethod yX4_pastTugs]
def wsX4_earliestSlot_r4 : List Cond := [Cond.selects RX4 yX4_pastTugs yX4_pastTugs, Cond.code yX4_pastTugs cX4_pastTugs 6 (some .int), Cond.fieldLink RX4 247 "HarbourPilotline$Ship" "minutes" "I", Cond.fieldLink RX4 29 "HarbourPilotline" "tugs" "I", Cond.fieldLink RX4 250 "HarbourPilotline$Ship" "tugs" "I", Cond.methodLink RX4 212 yX4_tugsOfOthers, Cond.instanceMethod yX4_tugsOfOthers, Cond.selects RX4 yX4_tugsOfOthers yX4_tugsOfOthers, Cond.code yX4_tugsOfOthers cX4_tugsOfOthers 7 (some .int)]
def wsX4_earliestSlot : List Cond := .code yX4_earliestSlot cX4_earliestSlot 6 (some .int) :: ((wsX4_earliestSlot_r1 ++ (wsX4_earliestSlot_r2 ++ (wsX4_earliestSlot_r3 ++ wsX4_earliestSlot_r4))) ++ wsX00 ++ wsX40 ++ wsX20 ++ wsX30 ++ wsJx4a65c0)
def wsX4_lookForSlot_r1 : List Cond := [Cond.fieldLink RX4 122 "HarbourPilotline$Conference" "slot" "I", Cond.fieldLink RX4 125 "HarbourPilotline$Conference" "state" "I", Cond.fieldLink RX4 68 "HarbourPilotline" "now" "I", Cond.methodLink RX4 237 yX4_earliestSlot, Cond.instanceMethod yX4_earliestSlot, Cond.selects RX4 yX4_earliestSlot yX4_earliestSlot, Cond.initialized RX4, Cond.code yX4_earliestSlot cX4_earliestSlot 6 (some .int), Cond.fieldLink RX4 241 "HarbourPilotline$Conference" "wish" "I", Cond.methodLink RX4 161 Lib.Math.max.name, Cond.static Lib.Math.max.name, Cond.initialized "java/lang/Math", Cond.code Lib.Math.max.name Lib.Math.max.code 2 (some .int), Cond.fieldLink RX4 10 "HarbourPilotline" "tide" "LHarbourPilotline$Tide;", Cond.fieldLink RX4 102 "HarbourPilotline$Conference" "ship" "LHarbourPilotline$Ship;", Cond.methodLink RX4 157 yX3_pastShallows, Cond.instanceMethod yX3_pastShallows, Cond.selects RX3 yX3_pastShallows yX3_pastShallows, Cond.initialized RX3, Cond.code yX3_pastShallows cX3_pastShallows 5 (some .int), Cond.fieldLink RX3 22 "HarbourPilotline$Ship" "draught" "I", Cond.fieldLink RX3 27 "HarbourPilotline$Ship" "minutes" "I", Cond.fieldLink RX3 7 "HarbourPilotline$Tide" "depth" "I", Cond.methodLink RX3 30 yX3_aboveDepth]
def wsX4_lookForSlot_r2 : List Cond := [Cond.instanceMethod yX3_aboveDepth, Cond.selects RX3 yX3_aboveDepth yX3_aboveDepth, Cond.code yX3_aboveDepth cX3_aboveDepth 3 (some .int), Cond.methodLink RX3 16 Lib.Math.min.name, Cond.static Lib.Math.min.name, Cond.code Lib.Math.min.name Lib.Math.min.code 2 (some .int), Cond.fieldLink RX3 13 "HarbourPilotline$Tide" "rise" "I", Cond.methodLink RX4 182 yX4_pastRests, Cond.instanceMethod yX4_pastRests, Cond.selects RX4 yX4_pastRests yX4_pastRests, Cond.code yX4_pastRests cX4_pastRests 7 (some .int), Cond.fieldLink RX4 26 "HarbourPilotline" "conferences" "Ljava/util/ArrayList;", Cond.classLink RX4 71 "HarbourPilotline$Conference", Cond.fieldLink RX4 167 "HarbourPilotline$Conference" "pilot" "LHarbourPilotline$Pilot;", Cond.methodLink RX4 43 yJx4a65c_size_8abf5, Cond.instanceMethod yJx4a65c_size_8abf5, Cond.selects RJx4a65c yJx4a65c_size_8abf5 yJx4a65c_size_8abf5, Cond.initialized RJx4a65c, Cond.code yJx4a65c_size_8abf5 cJx4a65c_size_8abf5 1 (some .int), Cond.fieldLink RJx4a65c 48 "java/util/ArrayList" "size" "I", Cond.methodLink RX4 145 yJx4a65c_get_915e3, Cond.instanceMethod yJx4a65c_get_915e3, Cond.selects RJx4a65c yJx4a65c_get_915e3 yJx4a65c_get_915e3, Cond.code yJx4a65c_get_915e3 cJx4a65c_get_915e3 2 (some (.object "java/lang/Object"))]
def wsX4_lookForSlot_r3 : List Cond := [Cond.methodLink RJx4a65c 118 yJ15_checkIndex_7cf53, Cond.static yJ15_checkIndex_7cf53, Cond.initialized RJ15, Cond.code yJ15_checkIndex_7cf53 cJ15_checkIndex_7cf53 2 (some .int), Cond.methodLink RJ15 105 yJ3_checkIndex_8e157, Cond.static yJ3_checkIndex_8e157, Cond.initialized RJ3, Cond.code yJ3_checkIndex_8e157 cJ3_checkIndex_8e157 3 (some .int), Cond.methodLink RJx4a65c 123 yJx4a65c_elementData_915e3, Cond.instanceMethod yJx4a65c_elementData_915e3, Cond.selects RJx4a65c yJx4a65c_elementData_915e3 yJx4a65c_elementData_915e3, Cond.code yJx4a65c_elementData_915e3 cJx4a65c_elementData_915e3 2 (some (.object "java/lang/Object")), Cond.fieldLink RJx4a65c 9 "java/util/ArrayList" "elementData" "[Ljava/lang/Object;", Cond.methodLink RX4 244 yX2_minutesWithRest, Cond.instanceMethod yX2_minutesWithRest, Cond.selects RX2 yX2_minutesWithRest yX2_minutesWithRest, Cond.initialized RX2, Cond.code yX2_minutesWithRest cX2_minutesWithRest 1 (some .int), Cond.fieldLink RX2 19 "HarbourPilotline$Ship" "minutes" "I", Cond.methodLink RX2 25 Lib.Math.max.name, Cond.methodLink RX4 189 yX4_pastChannel, Cond.instanceMethod yX4_pastChannel, Cond.selects RX4 yX4_pastChannel yX4_pastChannel, Cond.code yX4_pastChannel cX4_pastChannel 6 (some .int)]
def wsX4_lookForSlot_r4 : List Cond := [Cond.methodLink RX4 251 Lib.Math.abs.name, Cond.static Lib.Math.abs.name, Cond.code Lib.Math.abs.name Lib.Math.abs.code 1 (some .int), Cond.methodLink RX4 186 yX4_pastTugs, Cond.instanceMethod yX4_pastTugs, Cond.selects RX4 yX4_pastTugs yX4_pastTugs, Cond.code yX4_pastTugs cX4_pastTugs 6 (some .int), Cond.fieldLink RX4 247 "HarbourPilotline$Ship" "minutes" "I", Cond.fieldLink RX4 29 "HarbourPilotline" "tugs" "I", Cond.fieldLink RX4 250 "HarbourPilotline$Ship" "tugs" "I", Cond.methodLink RX4 212 yX4_tugsOfOthers, Cond.instanceMethod yX4_tugsOfOthers, Cond.selects RX4 yX4_tugsOfOthers yX4_tugsOfOthers, Cond.code yX4_tugsOfOthers cX4_tugsOfOthers 7 (some .int)]
def wsX4_lookForSlot : List Cond := .code yX4_lookForSlot cX4_lookForSlot 2 none :: ((wsX4_lookForSlot_r1 ++ (wsX4_lookForSlot_r2 ++ (wsX4_lookForSlot_r3 ++ wsX4_lookForSlot_r4))) ++ wsX00 ++ wsX40 ++ wsX20 ++ wsX30 ++ wsJx4a65c0)
def wsX4_join_r1 : List Cond := [Cond.classLink RX4 92 "java/lang/IllegalStateException", Cond.initialized "java/lang/IllegalStateException", Cond.fieldLink RX4 99 "HarbourPilotline$Pilot" "licence" "I", Cond.fieldLink RX4 102 "HarbourPilotline$Conference" "ship" "LHarbourPilotline$Ship;", Cond.fieldLink RX4 106 "HarbourPilotline$Ship" "tons" "I", Cond.fieldLink RX4 122 "HarbourPilotline$Conference" "slot" "I", Cond.methodLink RX4 76 yX4_conferenceAt, Cond.instanceMethod yX4_conferenceAt, Cond.selects RX4 yX4_conferenceAt yX4_conferenceAt, Cond.initialized RX4, Cond.code yX4_conferenceAt cX4_conferenceAt 2 (some (.object "HarbourPilotline$Conference")), Cond.classLink RX4 175 "java/lang/IndexOutOfBoundsException", Cond.initialized "java/lang/IndexOutOfBoundsException", Cond.fieldLink RX4 26 "HarbourPilotline" "conferences" "Ljava/util/ArrayList;", Cond.classLink RX4 71 "HarbourPilotline$Conference", Cond.methodLink RX4 43 yJx4a65c_size_8abf5, Cond.instanceMethod yJx4a65c_size_8abf5, Cond.selects RJx4a65c yJx4a65c_size_8abf5 yJx4a65c_size_8abf5, Cond.initialized RJx4a65c, Cond.code yJx4a65c_size_8abf5 cJx4a65c_size_8abf5 1 (some .int), Cond.fieldLink RJx4a65c 48 "java/util/ArrayList" "size" "I", Cond.methodLink RX4 145 yJx4a65c_get_915e3, Cond.instanceMethod yJx4a65c_get_915e3, Cond.selects RJx4a65c yJx4a65c_get_915e3 yJx4a65c_get_915e3]
def wsX4_join_r2 : List Cond := [Cond.code yJx4a65c_get_915e3 cJx4a65c_get_915e3 2 (some (.object "java/lang/Object")), Cond.methodLink RJx4a65c 118 yJ15_checkIndex_7cf53, Cond.static yJ15_checkIndex_7cf53, Cond.initialized RJ15, Cond.code yJ15_checkIndex_7cf53 cJ15_checkIndex_7cf53 2 (some .int), Cond.methodLink RJ15 105 yJ3_checkIndex_8e157, Cond.static yJ3_checkIndex_8e157, Cond.initialized RJ3, Cond.code yJ3_checkIndex_8e157 cJ3_checkIndex_8e157 3 (some .int), Cond.methodLink RJx4a65c 123 yJx4a65c_elementData_915e3, Cond.instanceMethod yJx4a65c_elementData_915e3, Cond.selects RJx4a65c yJx4a65c_elementData_915e3 yJx4a65c_elementData_915e3, Cond.code yJx4a65c_elementData_915e3 cJx4a65c_elementData_915e3 2 (some (.object "java/lang/Object")), Cond.fieldLink RJx4a65c 9 "java/util/ArrayList" "elementData" "[Ljava/lang/Object;", Cond.methodLink RX4 80 yX4_demandWho, Cond.static yX4_demandWho, Cond.code yX4_demandWho cX4_demandWho 1 none, Cond.methodLink RX4 84 yX4_pilotAt, Cond.instanceMethod yX4_pilotAt, Cond.selects RX4 yX4_pilotAt yX4_pilotAt, Cond.code yX4_pilotAt cX4_pilotAt 2 (some (.object "HarbourPilotline$Pilot")), Cond.fieldLink RX4 23 "HarbourPilotline" "pilots" "Ljava/util/ArrayList;", Cond.classLink RX4 60 "HarbourPilotline$Pilot", Cond.methodLink RX4 88 yX0_hasIn]
def wsX4_join_r3 : List Cond := [Cond.instanceMethod yX0_hasIn, Cond.selects RX0 yX0_hasIn yX0_hasIn, Cond.initialized RX0, Cond.code yX0_hasIn cX0_hasIn 2 (some .boolean), Cond.fieldLink RX0 25 "HarbourPilotline$Conference" "shipIn" "Z", Cond.fieldLink RX0 29 "HarbourPilotline$Conference" "towerIn" "Z", Cond.fieldLink RX0 32 "HarbourPilotline$Conference" "pilot" "LHarbourPilotline$Pilot;", Cond.methodLink RX4 111 yX0_letIn, Cond.instanceMethod yX0_letIn, Cond.selects RX0 yX0_letIn yX0_letIn, Cond.code yX0_letIn cX0_letIn 3 none, Cond.methodLink RX4 115 yX0_howManyIn, Cond.instanceMethod yX0_howManyIn, Cond.selects RX0 yX0_howManyIn yX0_howManyIn, Cond.code yX0_howManyIn cX0_howManyIn 1 (some .int), Cond.methodLink RX4 118 yX4_lookForSlot, Cond.instanceMethod yX4_lookForSlot, Cond.selects RX4 yX4_lookForSlot yX4_lookForSlot, Cond.code yX4_lookForSlot cX4_lookForSlot 2 none, Cond.fieldLink RX4 125 "HarbourPilotline$Conference" "state" "I", Cond.fieldLink RX4 68 "HarbourPilotline" "now" "I", Cond.methodLink RX4 237 yX4_earliestSlot, Cond.instanceMethod yX4_earliestSlot, Cond.selects RX4 yX4_earliestSlot yX4_earliestSlot]
def wsX4_join_r4 : List Cond := [Cond.code yX4_earliestSlot cX4_earliestSlot 6 (some .int), Cond.fieldLink RX4 241 "HarbourPilotline$Conference" "wish" "I", Cond.methodLink RX4 161 Lib.Math.max.name, Cond.static Lib.Math.max.name, Cond.initialized "java/lang/Math", Cond.code Lib.Math.max.name Lib.Math.max.code 2 (some .int), Cond.fieldLink RX4 10 "HarbourPilotline" "tide" "LHarbourPilotline$Tide;", Cond.methodLink RX4 157 yX3_pastShallows, Cond.instanceMethod yX3_pastShallows, Cond.selects RX3 yX3_pastShallows yX3_pastShallows, Cond.initialized RX3, Cond.code yX3_pastShallows cX3_pastShallows 5 (some .int), Cond.fieldLink RX3 22 "HarbourPilotline$Ship" "draught" "I", Cond.fieldLink RX3 27 "HarbourPilotline$Ship" "minutes" "I", Cond.fieldLink RX3 7 "HarbourPilotline$Tide" "depth" "I", Cond.methodLink RX3 30 yX3_aboveDepth, Cond.instanceMethod yX3_aboveDepth, Cond.selects RX3 yX3_aboveDepth yX3_aboveDepth, Cond.code yX3_aboveDepth cX3_aboveDepth 3 (some .int), Cond.methodLink RX3 16 Lib.Math.min.name, Cond.static Lib.Math.min.name, Cond.code Lib.Math.min.name Lib.Math.min.code 2 (some .int), Cond.fieldLink RX3 13 "HarbourPilotline$Tide" "rise" "I", Cond.methodLink RX4 182 yX4_pastRests]
def wsX4_join_r5 : List Cond := [Cond.instanceMethod yX4_pastRests, Cond.selects RX4 yX4_pastRests yX4_pastRests, Cond.code yX4_pastRests cX4_pastRests 7 (some .int), Cond.fieldLink RX4 167 "HarbourPilotline$Conference" "pilot" "LHarbourPilotline$Pilot;", Cond.methodLink RX4 244 yX2_minutesWithRest, Cond.instanceMethod yX2_minutesWithRest, Cond.selects RX2 yX2_minutesWithRest yX2_minutesWithRest, Cond.initialized RX2, Cond.code yX2_minutesWithRest cX2_minutesWithRest 1 (some .int), Cond.fieldLink RX2 19 "HarbourPilotline$Ship" "minutes" "I", Cond.methodLink RX2 25 Lib.Math.max.name, Cond.methodLink RX4 189 yX4_pastChannel, Cond.instanceMethod yX4_pastChannel, Cond.selects RX4 yX4_pastChannel yX4_pastChannel, Cond.code yX4_pastChannel cX4_pastChannel 6 (some .int), Cond.methodLink RX4 251 Lib.Math.abs.name, Cond.static Lib.Math.abs.name, Cond.code Lib.Math.abs.name Lib.Math.abs.code 1 (some .int), Cond.methodLink RX4 186 yX4_pastTugs, Cond.instanceMethod yX4_pastTugs, Cond.selects RX4 yX4_pastTugs yX4_pastTugs, Cond.code yX4_pastTugs cX4_pastTugs 6 (some .int), Cond.fieldLink RX4 247 "HarbourPilotline$Ship" "minutes" "I", Cond.fieldLink RX4 29 "HarbourPilotline" "tugs" "I"]
def wsX4_join_r6 : List Cond := [Cond.fieldLink RX4 250 "HarbourPilotline$Ship" "tugs" "I", Cond.methodLink RX4 212 yX4_tugsOfOthers, Cond.instanceMethod yX4_tugsOfOthers, Cond.selects RX4 yX4_tugsOfOthers yX4_tugsOfOthers, Cond.code yX4_tugsOfOthers cX4_tugsOfOthers 7 (some .int)]
def wsX4_join : List Cond := .code yX4_join cX4_join 6 (some .int) :: ((wsX4_join_r1 ++ (wsX4_join_r2 ++ (wsX4_join_r3 ++ (wsX4_join_r4 ++ (wsX4_join_r5 ++ wsX4_join_r6))))) ++ wsX10 ++ wsX00 ++ wsX20 ++ wsX40 ++ wsJx4a65c0 ++ wsX30 ++ (vx_atS RX4 96 "java/lang/IllegalStateException" ["java/lang/RuntimeException", "java/lang/Exception"]).filter goodWord ++ (vx_atS RX4 179 "java/lang/IndexOutOfBoundsException" ["java/lang/RuntimeException", "java/lang/Exception"]).filter goodWord)
def wsX4_again_r1 : List Cond := [Cond.classLink RX4 92 "java/lang/IllegalStateException", Cond.initialized "java/lang/IllegalStateException", Cond.fieldLink RX4 125 "HarbourPilotline$Conference" "state" "I", Cond.fieldLink RX4 122 "HarbourPilotline$Conference" "slot" "I", Cond.methodLink RX4 76 yX4_conferenceAt, Cond.instanceMethod yX4_conferenceAt, Cond.selects RX4 yX4_conferenceAt yX4_conferenceAt, Cond.initialized RX4, Cond.code yX4_conferenceAt cX4_conferenceAt 2 (some (.object "HarbourPilotline$Conference")), Cond.classLink RX4 175 "java/lang/IndexOutOfBoundsException", Cond.initialized "java/lang/IndexOutOfBoundsException", Cond.fieldLink RX4 26 "HarbourPilotline" "conferences" "Ljava/util/ArrayList;", Cond.classLink RX4 71 "HarbourPilotline$Conference", Cond.methodLink RX4 43 yJx4a65c_size_8abf5, Cond.instanceMethod yJx4a65c_size_8abf5, Cond.selects RJx4a65c yJx4a65c_size_8abf5 yJx4a65c_size_8abf5, Cond.initialized RJx4a65c, Cond.code yJx4a65c_size_8abf5 cJx4a65c_size_8abf5 1 (some .int), Cond.fieldLink RJx4a65c 48 "java/util/ArrayList" "size" "I", Cond.methodLink RX4 145 yJx4a65c_get_915e3, Cond.instanceMethod yJx4a65c_get_915e3, Cond.selects RJx4a65c yJx4a65c_get_915e3 yJx4a65c_get_915e3, Cond.code yJx4a65c_get_915e3 cJx4a65c_get_915e3 2 (some (.object "java/lang/Object")), Cond.methodLink RJx4a65c 118 yJ15_checkIndex_7cf53]
def wsX4_again_r2 : List Cond := [Cond.static yJ15_checkIndex_7cf53, Cond.initialized RJ15, Cond.code yJ15_checkIndex_7cf53 cJ15_checkIndex_7cf53 2 (some .int), Cond.methodLink RJ15 105 yJ3_checkIndex_8e157, Cond.static yJ3_checkIndex_8e157, Cond.initialized RJ3, Cond.code yJ3_checkIndex_8e157 cJ3_checkIndex_8e157 3 (some .int), Cond.methodLink RJx4a65c 123 yJx4a65c_elementData_915e3, Cond.instanceMethod yJx4a65c_elementData_915e3, Cond.selects RJx4a65c yJx4a65c_elementData_915e3 yJx4a65c_elementData_915e3, Cond.code yJx4a65c_elementData_915e3 cJx4a65c_elementData_915e3 2 (some (.object "java/lang/Object")), Cond.fieldLink RJx4a65c 9 "java/util/ArrayList" "elementData" "[Ljava/lang/Object;", Cond.methodLink RX4 118 yX4_lookForSlot, Cond.instanceMethod yX4_lookForSlot, Cond.selects RX4 yX4_lookForSlot yX4_lookForSlot, Cond.code yX4_lookForSlot cX4_lookForSlot 2 none, Cond.fieldLink RX4 68 "HarbourPilotline" "now" "I", Cond.methodLink RX4 237 yX4_earliestSlot, Cond.instanceMethod yX4_earliestSlot, Cond.selects RX4 yX4_earliestSlot yX4_earliestSlot, Cond.code yX4_earliestSlot cX4_earliestSlot 6 (some .int), Cond.fieldLink RX4 241 "HarbourPilotline$Conference" "wish" "I", Cond.methodLink RX4 161 Lib.Math.max.name, Cond.static Lib.Math.max.name]
def wsX4_again_r3 : List Cond := [Cond.initialized "java/lang/Math", Cond.code Lib.Math.max.name Lib.Math.max.code 2 (some .int), Cond.fieldLink RX4 10 "HarbourPilotline" "tide" "LHarbourPilotline$Tide;", Cond.fieldLink RX4 102 "HarbourPilotline$Conference" "ship" "LHarbourPilotline$Ship;", Cond.methodLink RX4 157 yX3_pastShallows, Cond.instanceMethod yX3_pastShallows, Cond.selects RX3 yX3_pastShallows yX3_pastShallows, Cond.initialized RX3, Cond.code yX3_pastShallows cX3_pastShallows 5 (some .int), Cond.fieldLink RX3 22 "HarbourPilotline$Ship" "draught" "I", Cond.fieldLink RX3 27 "HarbourPilotline$Ship" "minutes" "I", Cond.fieldLink RX3 7 "HarbourPilotline$Tide" "depth" "I", Cond.methodLink RX3 30 yX3_aboveDepth, Cond.instanceMethod yX3_aboveDepth, Cond.selects RX3 yX3_aboveDepth yX3_aboveDepth, Cond.code yX3_aboveDepth cX3_aboveDepth 3 (some .int), Cond.methodLink RX3 16 Lib.Math.min.name, Cond.static Lib.Math.min.name, Cond.code Lib.Math.min.name Lib.Math.min.code 2 (some .int), Cond.fieldLink RX3 13 "HarbourPilotline$Tide" "rise" "I", Cond.methodLink RX4 182 yX4_pastRests, Cond.instanceMethod yX4_pastRests, Cond.selects RX4 yX4_pastRests yX4_pastRests, Cond.code yX4_pastRests cX4_pastRests 7 (some .int)]
def wsX4_again_r4 : List Cond := [Cond.fieldLink RX4 167 "HarbourPilotline$Conference" "pilot" "LHarbourPilotline$Pilot;", Cond.methodLink RX4 244 yX2_minutesWithRest, Cond.instanceMethod yX2_minutesWithRest, Cond.selects RX2 yX2_minutesWithRest yX2_minutesWithRest, Cond.initialized RX2, Cond.code yX2_minutesWithRest cX2_minutesWithRest 1 (some .int), Cond.fieldLink RX2 19 "HarbourPilotline$Ship" "minutes" "I", Cond.methodLink RX2 25 Lib.Math.max.name, Cond.methodLink RX4 189 yX4_pastChannel, Cond.instanceMethod yX4_pastChannel, Cond.selects RX4 yX4_pastChannel yX4_pastChannel, Cond.code yX4_pastChannel cX4_pastChannel 6 (some .int), Cond.methodLink RX4 251 Lib.Math.abs.name, Cond.static Lib.Math.abs.name, Cond.code Lib.Math.abs.name Lib.Math.abs.code 1 (some .int), Cond.methodLink RX4 186 yX4_pastTugs, Cond.instanceMethod yX4_pastTugs, Cond.selects RX4 yX4_pastTugs yX4_pastTugs, Cond.code yX4_pastTugs cX4_pastTugs 6 (some .int), Cond.fieldLink RX4 247 "HarbourPilotline$Ship" "minutes" "I", Cond.fieldLink RX4 29 "HarbourPilotline" "tugs" "I", Cond.fieldLink RX4 250 "HarbourPilotline$Ship" "tugs" "I", Cond.methodLink RX4 212 yX4_tugsOfOthers, Cond.instanceMethod yX4_tugsOfOthers]
def wsX4_again_r5 : List Cond := [Cond.selects RX4 yX4_tugsOfOthers yX4_tugsOfOthers, Cond.code yX4_tugsOfOthers cX4_tugsOfOthers 7 (some .int)]
def wsX4_again : List Cond := .code yX4_again cX4_again 3 (some .int) :: ((wsX4_again_r1 ++ (wsX4_again_r2 ++ (wsX4_again_r3 ++ (wsX4_again_r4 ++ wsX4_again_r5)))) ++ wsX00 ++ wsX40 ++ wsJx4a65c0 ++ wsX20 ++ wsX30 ++ (vx_atS RX4 96 "java/lang/IllegalStateException" ["java/lang/RuntimeException", "java/lang/Exception"]).filter goodWord ++ (vx_atS RX4 179 "java/lang/IndexOutOfBoundsException" ["java/lang/RuntimeException", "java/lang/Exception"]).filter goodWord)
def wsX4_lookAnew_r1 : List Cond := [Cond.fieldLink RX4 26 "HarbourPilotline" "conferences" "Ljava/util/ArrayList;", Cond.classLink RX4 71 "HarbourPilotline$Conference", Cond.fieldLink RX4 125 "HarbourPilotline$Conference" "state" "I", Cond.fieldLink RX4 122 "HarbourPilotline$Conference" "slot" "I", Cond.methodLink RX4 43 yJx4a65c_size_8abf5, Cond.instanceMethod yJx4a65c_size_8abf5, Cond.selects RJx4a65c yJx4a65c_size_8abf5 yJx4a65c_size_8abf5, Cond.initialized RJx4a65c, Cond.code yJx4a65c_size_8abf5 cJx4a65c_size_8abf5 1 (some .int), Cond.fieldLink RJx4a65c 48 "java/util/ArrayList" "size" "I", Cond.methodLink RX4 145 yJx4a65c_get_915e3, Cond.instanceMethod yJx4a65c_get_915e3, Cond.selects RJx4a65c yJx4a65c_get_915e3 yJx4a65c_get_915e3, Cond.code yJx4a65c_get_915e3 cJx4a65c_get_915e3 2 (some (.object "java/lang/Object")), Cond.methodLink RJx4a65c 118 yJ15_checkIndex_7cf53, Cond.static yJ15_checkIndex_7cf53, Cond.initialized RJ15, Cond.code yJ15_checkIndex_7cf53 cJ15_checkIndex_7cf53 2 (some .int), Cond.methodLink RJ15 105 yJ3_checkIndex_8e157, Cond.static yJ3_checkIndex_8e157, Cond.initialized RJ3, Cond.code yJ3_checkIndex_8e157 cJ3_checkIndex_8e157 3 (some .int), Cond.methodLink RJx4a65c 123 yJx4a65c_elementData_915e3, Cond.instanceMethod yJx4a65c_elementData_915e3]
def wsX4_lookAnew_r2 : List Cond := [Cond.selects RJx4a65c yJx4a65c_elementData_915e3 yJx4a65c_elementData_915e3, Cond.code yJx4a65c_elementData_915e3 cJx4a65c_elementData_915e3 2 (some (.object "java/lang/Object")), Cond.fieldLink RJx4a65c 9 "java/util/ArrayList" "elementData" "[Ljava/lang/Object;", Cond.methodLink RX4 118 yX4_lookForSlot, Cond.instanceMethod yX4_lookForSlot, Cond.selects RX4 yX4_lookForSlot yX4_lookForSlot, Cond.initialized RX4, Cond.code yX4_lookForSlot cX4_lookForSlot 2 none, Cond.fieldLink RX4 68 "HarbourPilotline" "now" "I", Cond.methodLink RX4 237 yX4_earliestSlot, Cond.instanceMethod yX4_earliestSlot, Cond.selects RX4 yX4_earliestSlot yX4_earliestSlot, Cond.code yX4_earliestSlot cX4_earliestSlot 6 (some .int), Cond.fieldLink RX4 241 "HarbourPilotline$Conference" "wish" "I", Cond.methodLink RX4 161 Lib.Math.max.name, Cond.static Lib.Math.max.name, Cond.initialized "java/lang/Math", Cond.code Lib.Math.max.name Lib.Math.max.code 2 (some .int), Cond.fieldLink RX4 10 "HarbourPilotline" "tide" "LHarbourPilotline$Tide;", Cond.fieldLink RX4 102 "HarbourPilotline$Conference" "ship" "LHarbourPilotline$Ship;", Cond.methodLink RX4 157 yX3_pastShallows, Cond.instanceMethod yX3_pastShallows, Cond.selects RX3 yX3_pastShallows yX3_pastShallows, Cond.initialized RX3]
def wsX4_lookAnew_r3 : List Cond := [Cond.code yX3_pastShallows cX3_pastShallows 5 (some .int), Cond.fieldLink RX3 22 "HarbourPilotline$Ship" "draught" "I", Cond.fieldLink RX3 27 "HarbourPilotline$Ship" "minutes" "I", Cond.fieldLink RX3 7 "HarbourPilotline$Tide" "depth" "I", Cond.methodLink RX3 30 yX3_aboveDepth, Cond.instanceMethod yX3_aboveDepth, Cond.selects RX3 yX3_aboveDepth yX3_aboveDepth, Cond.code yX3_aboveDepth cX3_aboveDepth 3 (some .int), Cond.methodLink RX3 16 Lib.Math.min.name, Cond.static Lib.Math.min.name, Cond.code Lib.Math.min.name Lib.Math.min.code 2 (some .int), Cond.fieldLink RX3 13 "HarbourPilotline$Tide" "rise" "I", Cond.methodLink RX4 182 yX4_pastRests, Cond.instanceMethod yX4_pastRests, Cond.selects RX4 yX4_pastRests yX4_pastRests, Cond.code yX4_pastRests cX4_pastRests 7 (some .int), Cond.fieldLink RX4 167 "HarbourPilotline$Conference" "pilot" "LHarbourPilotline$Pilot;", Cond.methodLink RX4 244 yX2_minutesWithRest, Cond.instanceMethod yX2_minutesWithRest, Cond.selects RX2 yX2_minutesWithRest yX2_minutesWithRest, Cond.initialized RX2, Cond.code yX2_minutesWithRest cX2_minutesWithRest 1 (some .int), Cond.fieldLink RX2 19 "HarbourPilotline$Ship" "minutes" "I", Cond.methodLink RX2 25 Lib.Math.max.name]
def wsX4_lookAnew_r4 : List Cond := [Cond.methodLink RX4 189 yX4_pastChannel, Cond.instanceMethod yX4_pastChannel, Cond.selects RX4 yX4_pastChannel yX4_pastChannel, Cond.code yX4_pastChannel cX4_pastChannel 6 (some .int), Cond.methodLink RX4 251 Lib.Math.abs.name, Cond.static Lib.Math.abs.name, Cond.code Lib.Math.abs.name Lib.Math.abs.code 1 (some .int), Cond.methodLink RX4 186 yX4_pastTugs, Cond.instanceMethod yX4_pastTugs, Cond.selects RX4 yX4_pastTugs yX4_pastTugs, Cond.code yX4_pastTugs cX4_pastTugs 6 (some .int), Cond.fieldLink RX4 247 "HarbourPilotline$Ship" "minutes" "I", Cond.fieldLink RX4 29 "HarbourPilotline" "tugs" "I", Cond.fieldLink RX4 250 "HarbourPilotline$Ship" "tugs" "I", Cond.methodLink RX4 212 yX4_tugsOfOthers, Cond.instanceMethod yX4_tugsOfOthers, Cond.selects RX4 yX4_tugsOfOthers yX4_tugsOfOthers, Cond.code yX4_tugsOfOthers cX4_tugsOfOthers 7 (some .int)]
def wsX4_lookAnew : List Cond := .code yX4_lookAnew cX4_lookAnew 5 (some .int) :: ((wsX4_lookAnew_r1 ++ (wsX4_lookAnew_r2 ++ (wsX4_lookAnew_r3 ++ wsX4_lookAnew_r4))) ++ wsX40 ++ wsX00 ++ wsJx4a65c0 ++ wsX20 ++ wsX30)
def wsX4_drop_r1 : List Cond := [Cond.classLink RX4 92 "java/lang/IllegalStateException", Cond.initialized "java/lang/IllegalStateException", Cond.fieldLink RX4 125 "HarbourPilotline$Conference" "state" "I", Cond.fieldLink RX4 122 "HarbourPilotline$Conference" "slot" "I", Cond.fieldLink RX4 140 "HarbourPilotline" "toldByDrops" "I", Cond.methodLink RX4 76 yX4_conferenceAt, Cond.instanceMethod yX4_conferenceAt, Cond.selects RX4 yX4_conferenceAt yX4_conferenceAt, Cond.initialized RX4, Cond.code yX4_conferenceAt cX4_conferenceAt 2 (some (.object "HarbourPilotline$Conference")), Cond.classLink RX4 175 "java/lang/IndexOutOfBoundsException", Cond.initialized "java/lang/IndexOutOfBoundsException", Cond.fieldLink RX4 26 "HarbourPilotline" "conferences" "Ljava/util/ArrayList;", Cond.classLink RX4 71 "HarbourPilotline$Conference", Cond.methodLink RX4 43 yJx4a65c_size_8abf5, Cond.instanceMethod yJx4a65c_size_8abf5, Cond.selects RJx4a65c yJx4a65c_size_8abf5 yJx4a65c_size_8abf5, Cond.initialized RJx4a65c, Cond.code yJx4a65c_size_8abf5 cJx4a65c_size_8abf5 1 (some .int), Cond.fieldLink RJx4a65c 48 "java/util/ArrayList" "size" "I", Cond.methodLink RX4 145 yJx4a65c_get_915e3, Cond.instanceMethod yJx4a65c_get_915e3, Cond.selects RJx4a65c yJx4a65c_get_915e3 yJx4a65c_get_915e3, Cond.code yJx4a65c_get_915e3 cJx4a65c_get_915e3 2 (some (.object "java/lang/Object"))]
def wsX4_drop_r2 : List Cond := [Cond.methodLink RJx4a65c 118 yJ15_checkIndex_7cf53, Cond.static yJ15_checkIndex_7cf53, Cond.initialized RJ15, Cond.code yJ15_checkIndex_7cf53 cJ15_checkIndex_7cf53 2 (some .int), Cond.methodLink RJ15 105 yJ3_checkIndex_8e157, Cond.static yJ3_checkIndex_8e157, Cond.initialized RJ3, Cond.code yJ3_checkIndex_8e157 cJ3_checkIndex_8e157 3 (some .int), Cond.methodLink RJx4a65c 123 yJx4a65c_elementData_915e3, Cond.instanceMethod yJx4a65c_elementData_915e3, Cond.selects RJx4a65c yJx4a65c_elementData_915e3 yJx4a65c_elementData_915e3, Cond.code yJx4a65c_elementData_915e3 cJx4a65c_elementData_915e3 2 (some (.object "java/lang/Object")), Cond.fieldLink RJx4a65c 9 "java/util/ArrayList" "elementData" "[Ljava/lang/Object;", Cond.methodLink RX4 80 yX4_demandWho, Cond.static yX4_demandWho, Cond.code yX4_demandWho cX4_demandWho 1 none, Cond.methodLink RX4 88 yX0_hasIn, Cond.instanceMethod yX0_hasIn, Cond.selects RX0 yX0_hasIn yX0_hasIn, Cond.initialized RX0, Cond.code yX0_hasIn cX0_hasIn 2 (some .boolean), Cond.fieldLink RX0 25 "HarbourPilotline$Conference" "shipIn" "Z", Cond.fieldLink RX0 29 "HarbourPilotline$Conference" "towerIn" "Z", Cond.fieldLink RX0 32 "HarbourPilotline$Conference" "pilot" "LHarbourPilotline$Pilot;"]
def wsX4_drop_r3 : List Cond := [Cond.methodLink RX4 134 yX0_letOut, Cond.instanceMethod yX0_letOut, Cond.selects RX0 yX0_letOut yX0_letOut, Cond.code yX0_letOut cX0_letOut 2 none, Cond.fieldLink RX0 9 "HarbourPilotline$Conference" "state" "I", Cond.fieldLink RX0 15 "HarbourPilotline$Conference" "slot" "I", Cond.methodLink RX4 137 yX4_lookAnew, Cond.instanceMethod yX4_lookAnew, Cond.selects RX4 yX4_lookAnew yX4_lookAnew, Cond.code yX4_lookAnew cX4_lookAnew 5 (some .int), Cond.methodLink RX4 118 yX4_lookForSlot, Cond.instanceMethod yX4_lookForSlot, Cond.selects RX4 yX4_lookForSlot yX4_lookForSlot, Cond.code yX4_lookForSlot cX4_lookForSlot 2 none, Cond.fieldLink RX4 68 "HarbourPilotline" "now" "I", Cond.methodLink RX4 237 yX4_earliestSlot, Cond.instanceMethod yX4_earliestSlot, Cond.selects RX4 yX4_earliestSlot yX4_earliestSlot, Cond.code yX4_earliestSlot cX4_earliestSlot 6 (some .int), Cond.fieldLink RX4 241 "HarbourPilotline$Conference" "wish" "I", Cond.methodLink RX4 161 Lib.Math.max.name, Cond.static Lib.Math.max.name, Cond.initialized "java/lang/Math", Cond.code Lib.Math.max.name Lib.Math.max.code 2 (some .int)]
def wsX4_drop_r4 : List Cond := [Cond.fieldLink RX4 10 "HarbourPilotline" "tide" "LHarbourPilotline$Tide;", Cond.fieldLink RX4 102 "HarbourPilotline$Conference" "ship" "LHarbourPilotline$Ship;", Cond.methodLink RX4 157 yX3_pastShallows, Cond.instanceMethod yX3_pastShallows, Cond.selects RX3 yX3_pastShallows yX3_pastShallows, Cond.initialized RX3, Cond.code yX3_pastShallows cX3_pastShallows 5 (some .int), Cond.fieldLink RX3 22 "HarbourPilotline$Ship" "draught" "I", Cond.fieldLink RX3 27 "HarbourPilotline$Ship" "minutes" "I", Cond.fieldLink RX3 7 "HarbourPilotline$Tide" "depth" "I", Cond.methodLink RX3 30 yX3_aboveDepth, Cond.instanceMethod yX3_aboveDepth, Cond.selects RX3 yX3_aboveDepth yX3_aboveDepth, Cond.code yX3_aboveDepth cX3_aboveDepth 3 (some .int), Cond.methodLink RX3 16 Lib.Math.min.name, Cond.static Lib.Math.min.name, Cond.code Lib.Math.min.name Lib.Math.min.code 2 (some .int), Cond.fieldLink RX3 13 "HarbourPilotline$Tide" "rise" "I", Cond.methodLink RX4 182 yX4_pastRests, Cond.instanceMethod yX4_pastRests, Cond.selects RX4 yX4_pastRests yX4_pastRests, Cond.code yX4_pastRests cX4_pastRests 7 (some .int), Cond.fieldLink RX4 167 "HarbourPilotline$Conference" "pilot" "LHarbourPilotline$Pilot;", Cond.methodLink RX4 244 yX2_minutesWithRest]
def wsX4_drop_r5 : List Cond := [Cond.instanceMethod yX2_minutesWithRest, Cond.selects RX2 yX2_minutesWithRest yX2_minutesWithRest, Cond.initialized RX2, Cond.code yX2_minutesWithRest cX2_minutesWithRest 1 (some .int), Cond.fieldLink RX2 19 "HarbourPilotline$Ship" "minutes" "I", Cond.methodLink RX2 25 Lib.Math.max.name, Cond.methodLink RX4 189 yX4_pastChannel, Cond.instanceMethod yX4_pastChannel, Cond.selects RX4 yX4_pastChannel yX4_pastChannel, Cond.code yX4_pastChannel cX4_pastChannel 6 (some .int), Cond.methodLink RX4 251 Lib.Math.abs.name, Cond.static Lib.Math.abs.name, Cond.code Lib.Math.abs.name Lib.Math.abs.code 1 (some .int), Cond.methodLink RX4 186 yX4_pastTugs, Cond.instanceMethod yX4_pastTugs, Cond.selects RX4 yX4_pastTugs yX4_pastTugs, Cond.code yX4_pastTugs cX4_pastTugs 6 (some .int), Cond.fieldLink RX4 247 "HarbourPilotline$Ship" "minutes" "I", Cond.fieldLink RX4 29 "HarbourPilotline" "tugs" "I", Cond.fieldLink RX4 250 "HarbourPilotline$Ship" "tugs" "I", Cond.methodLink RX4 212 yX4_tugsOfOthers, Cond.instanceMethod yX4_tugsOfOthers, Cond.selects RX4 yX4_tugsOfOthers yX4_tugsOfOthers, Cond.code yX4_tugsOfOthers cX4_tugsOfOthers 7 (some .int)]
def wsX4_drop : List Cond := .code yX4_drop cX4_drop 6 (some .int) :: ((wsX4_drop_r1 ++ (wsX4_drop_r2 ++ (wsX4_drop_r3 ++ (wsX4_drop_r4 ++ wsX4_drop_r5)))) ++ wsX00 ++ wsX40 ++ wsJx4a65c0 ++ wsX20 ++ wsX30 ++ (vx_atS RX4 96 "java/lang/IllegalStateException" ["java/lang/RuntimeException", "java/lang/Exception"]).filter goodWord ++ (vx_atS RX4 179 "java/lang/IndexOutOfBoundsException" ["java/lang/RuntimeException", "java/lang/Exception"]).filter goodWord)
def wsX4_becomesDone : List Cond := .code yX4_becomesDone cX4_becomesDone 3 (some .boolean) :: ([.fieldLink RX4 125 "HarbourPilotline$Conference" "state" "I", .fieldLink RX4 122 "HarbourPilotline$Conference" "slot" "I", .fieldLink RX4 68 "HarbourPilotline" "now" "I", .fieldLink RX4 167 "HarbourPilotline$Conference" "pilot" "LHarbourPilotline$Pilot;", .fieldLink RX4 102 "HarbourPilotline$Conference" "ship" "LHarbourPilotline$Ship;", .fieldLink RX4 247 "HarbourPilotline$Ship" "minutes" "I", .fieldLink RX4 196 "HarbourPilotline$Ship" "owes" "I", .fieldLink RX4 209 "HarbourPilotline$Pilot" "rate" "I", .fieldLink RX4 250 "HarbourPilotline$Ship" "tugs" "I", .fieldLink RX4 199 "HarbourPilotline$Pilot" "movesDone" "I", .fieldLink RX4 202 "HarbourPilotline$Pilot" "minutesDone" "I"] ++ wsX00 ++ wsX40 ++ wsX20 ++ wsX10)
def wsX4_pass_r1 : List Cond := [Cond.classLink RX4 92 "java/lang/IllegalStateException", Cond.initialized "java/lang/IllegalStateException", Cond.fieldLink RX4 68 "HarbourPilotline" "now" "I", Cond.fieldLink RX4 26 "HarbourPilotline" "conferences" "Ljava/util/ArrayList;", Cond.classLink RX4 71 "HarbourPilotline$Conference", Cond.methodLink RX4 33 yX4_demandWithin, Cond.static yX4_demandWithin, Cond.initialized RX4, Cond.code yX4_demandWithin cX4_demandWithin 3 none, Cond.classLink RX4 222 "java/lang/IllegalArgumentException", Cond.initialized "java/lang/IllegalArgumentException", Cond.methodLink RX4 43 yJx4a65c_size_8abf5, Cond.instanceMethod yJx4a65c_size_8abf5, Cond.selects RJx4a65c yJx4a65c_size_8abf5 yJx4a65c_size_8abf5, Cond.initialized RJx4a65c, Cond.code yJx4a65c_size_8abf5 cJx4a65c_size_8abf5 1 (some .int), Cond.fieldLink RJx4a65c 48 "java/util/ArrayList" "size" "I", Cond.methodLink RX4 145 yJx4a65c_get_915e3, Cond.instanceMethod yJx4a65c_get_915e3, Cond.selects RJx4a65c yJx4a65c_get_915e3 yJx4a65c_get_915e3, Cond.code yJx4a65c_get_915e3 cJx4a65c_get_915e3 2 (some (.object "java/lang/Object")), Cond.methodLink RJx4a65c 118 yJ15_checkIndex_7cf53, Cond.static yJ15_checkIndex_7cf53, Cond.initialized RJ15]
def wsX4_pass_r2 : List Cond := [Cond.code yJ15_checkIndex_7cf53 cJ15_checkIndex_7cf53 2 (some .int), Cond.methodLink RJ15 105 yJ3_checkIndex_8e157, Cond.static yJ3_checkIndex_8e157, Cond.initialized RJ3, Cond.code yJ3_checkIndex_8e157 cJ3_checkIndex_8e157 3 (some .int), Cond.methodLink RJx4a65c 123 yJx4a65c_elementData_915e3, Cond.instanceMethod yJx4a65c_elementData_915e3, Cond.selects RJx4a65c yJx4a65c_elementData_915e3 yJx4a65c_elementData_915e3, Cond.code yJx4a65c_elementData_915e3 cJx4a65c_elementData_915e3 2 (some (.object "java/lang/Object")), Cond.fieldLink RJx4a65c 9 "java/util/ArrayList" "elementData" "[Ljava/lang/Object;", Cond.methodLink RX4 149 yX4_becomesDone, Cond.instanceMethod yX4_becomesDone, Cond.selects RX4 yX4_becomesDone yX4_becomesDone, Cond.code yX4_becomesDone cX4_becomesDone 3 (some .boolean), Cond.fieldLink RX4 125 "HarbourPilotline$Conference" "state" "I", Cond.fieldLink RX4 122 "HarbourPilotline$Conference" "slot" "I", Cond.fieldLink RX4 167 "HarbourPilotline$Conference" "pilot" "LHarbourPilotline$Pilot;", Cond.fieldLink RX4 102 "HarbourPilotline$Conference" "ship" "LHarbourPilotline$Ship;", Cond.fieldLink RX4 247 "HarbourPilotline$Ship" "minutes" "I", Cond.fieldLink RX4 196 "HarbourPilotline$Ship" "owes" "I", Cond.fieldLink RX4 209 "HarbourPilotline$Pilot" "rate" "I", Cond.fieldLink RX4 250 "HarbourPilotline$Ship" "tugs" "I", Cond.fieldLink RX4 199 "HarbourPilotline$Pilot" "movesDone" "I", Cond.fieldLink RX4 202 "HarbourPilotline$Pilot" "minutesDone" "I"]
def wsX4_pass : List Cond := .code yX4_pass cX4_pass 4 (some .int) :: ((wsX4_pass_r1 ++ wsX4_pass_r2) ++ wsX40 ++ wsJx4a65c0 ++ wsX00 ++ wsX20 ++ wsX10 ++ (vx_atS RX4 96 "java/lang/IllegalStateException" ["java/lang/RuntimeException", "java/lang/Exception"]).filter goodWord ++ (vx_atS RX4 226 "java/lang/IllegalArgumentException" ["java/lang/RuntimeException", "java/lang/Exception"]).filter goodWord)
def wsX4_minute : List Cond := .code yX4_minute cX4_minute 1 (some .int) :: ([.fieldLink RX4 68 "HarbourPilotline" "now" "I"] ++ wsX40)
def wsX4_level : List Cond := .code yX4_level cX4_level 2 (some .int) :: ([.fieldLink RX4 10 "HarbourPilotline" "tide" "LHarbourPilotline$Tide;", .methodLink RX4 33 yX4_demandWithin, .static yX4_demandWithin, .initialized RX4, .code yX4_demandWithin cX4_demandWithin 3 none, .classLink RX4 222 "java/lang/IllegalArgumentException", .initialized "java/lang/IllegalArgumentException", .methodLink RX4 153 yX3_aboveDepth, .instanceMethod yX3_aboveDepth, .selects RX3 yX3_aboveDepth yX3_aboveDepth, .initialized RX3, .code yX3_aboveDepth cX3_aboveDepth 3 (some .int), .methodLink RX3 16 Lib.Math.min.name, .static Lib.Math.min.name, .initialized "java/lang/Math", .code Lib.Math.min.name Lib.Math.min.code 2 (some .int), .fieldLink RX3 13 "HarbourPilotline$Tide" "rise" "I"] ++ wsX40 ++ wsX30 ++ (vx_atS RX4 226 "java/lang/IllegalArgumentException" ["java/lang/RuntimeException", "java/lang/Exception"]).filter goodWord)
def wsX4_window_r1 : List Cond := [Cond.fieldLink RX4 10 "HarbourPilotline" "tide" "LHarbourPilotline$Tide;", Cond.methodLink RX4 161 Lib.Math.max.name, Cond.static Lib.Math.max.name, Cond.initialized "java/lang/Math", Cond.code Lib.Math.max.name Lib.Math.max.code 2 (some .int), Cond.methodLink RX4 64 yX4_shipAt, Cond.instanceMethod yX4_shipAt, Cond.selects RX4 yX4_shipAt yX4_shipAt, Cond.initialized RX4, Cond.code yX4_shipAt cX4_shipAt 2 (some (.object "HarbourPilotline$Ship")), Cond.classLink RX4 175 "java/lang/IndexOutOfBoundsException", Cond.initialized "java/lang/IndexOutOfBoundsException", Cond.fieldLink RX4 19 "HarbourPilotline" "ships" "Ljava/util/ArrayList;", Cond.classLink RX4 51 "HarbourPilotline$Ship", Cond.methodLink RX4 43 yJx4a65c_size_8abf5, Cond.instanceMethod yJx4a65c_size_8abf5, Cond.selects RJx4a65c yJx4a65c_size_8abf5 yJx4a65c_size_8abf5, Cond.initialized RJx4a65c, Cond.code yJx4a65c_size_8abf5 cJx4a65c_size_8abf5 1 (some .int), Cond.fieldLink RJx4a65c 48 "java/util/ArrayList" "size" "I", Cond.methodLink RX4 145 yJx4a65c_get_915e3, Cond.instanceMethod yJx4a65c_get_915e3, Cond.selects RJx4a65c yJx4a65c_get_915e3 yJx4a65c_get_915e3, Cond.code yJx4a65c_get_915e3 cJx4a65c_get_915e3 2 (some (.object "java/lang/Object"))]
def wsX4_window_r2 : List Cond := [Cond.methodLink RJx4a65c 118 yJ15_checkIndex_7cf53, Cond.static yJ15_checkIndex_7cf53, Cond.initialized RJ15, Cond.code yJ15_checkIndex_7cf53 cJ15_checkIndex_7cf53 2 (some .int), Cond.methodLink RJ15 105 yJ3_checkIndex_8e157, Cond.static yJ3_checkIndex_8e157, Cond.initialized RJ3, Cond.code yJ3_checkIndex_8e157 cJ3_checkIndex_8e157 3 (some .int), Cond.methodLink RJx4a65c 123 yJx4a65c_elementData_915e3, Cond.instanceMethod yJx4a65c_elementData_915e3, Cond.selects RJx4a65c yJx4a65c_elementData_915e3 yJx4a65c_elementData_915e3, Cond.code yJx4a65c_elementData_915e3 cJx4a65c_elementData_915e3 2 (some (.object "java/lang/Object")), Cond.fieldLink RJx4a65c 9 "java/util/ArrayList" "elementData" "[Ljava/lang/Object;", Cond.methodLink RX4 33 yX4_demandWithin, Cond.static yX4_demandWithin, Cond.code yX4_demandWithin cX4_demandWithin 3 none, Cond.classLink RX4 222 "java/lang/IllegalArgumentException", Cond.initialized "java/lang/IllegalArgumentException", Cond.methodLink RX4 157 yX3_pastShallows, Cond.instanceMethod yX3_pastShallows, Cond.selects RX3 yX3_pastShallows yX3_pastShallows, Cond.initialized RX3, Cond.code yX3_pastShallows cX3_pastShallows 5 (some .int), Cond.fieldLink RX3 22 "HarbourPilotline$Ship" "draught" "I"]
def wsX4_window_r3 : List Cond := [Cond.fieldLink RX3 27 "HarbourPilotline$Ship" "minutes" "I", Cond.fieldLink RX3 7 "HarbourPilotline$Tide" "depth" "I", Cond.methodLink RX3 30 yX3_aboveDepth, Cond.instanceMethod yX3_aboveDepth, Cond.selects RX3 yX3_aboveDepth yX3_aboveDepth, Cond.code yX3_aboveDepth cX3_aboveDepth 3 (some .int), Cond.methodLink RX3 16 Lib.Math.min.name, Cond.static Lib.Math.min.name, Cond.code Lib.Math.min.name Lib.Math.min.code 2 (some .int), Cond.fieldLink RX3 13 "HarbourPilotline$Tide" "rise" "I"]
def wsX4_window : List Cond := .code yX4_window cX4_window 7 (some .int) :: ((wsX4_window_r1 ++ (wsX4_window_r2 ++ wsX4_window_r3)) ++ wsX40 ++ wsJx4a65c0 ++ wsX20 ++ wsX30 ++ (vx_atS RX4 179 "java/lang/IndexOutOfBoundsException" ["java/lang/RuntimeException", "java/lang/Exception"]).filter goodWord ++ (vx_atS RX4 226 "java/lang/IllegalArgumentException" ["java/lang/RuntimeException", "java/lang/Exception"]).filter goodWord)
def wsX4_ofConference_r1 : List Cond := [Cond.classLink RX4 175 "java/lang/IndexOutOfBoundsException", Cond.initialized "java/lang/IndexOutOfBoundsException", Cond.fieldLink RX4 125 "HarbourPilotline$Conference" "state" "I", Cond.fieldLink RX4 122 "HarbourPilotline$Conference" "slot" "I", Cond.fieldLink RX4 167 "HarbourPilotline$Conference" "pilot" "LHarbourPilotline$Pilot;", Cond.fieldLink RX4 171 "HarbourPilotline$Pilot" "number" "I", Cond.fieldLink RX4 102 "HarbourPilotline$Conference" "ship" "LHarbourPilotline$Ship;", Cond.fieldLink RX4 174 "HarbourPilotline$Ship" "number" "I", Cond.methodLink RX4 76 yX4_conferenceAt, Cond.instanceMethod yX4_conferenceAt, Cond.selects RX4 yX4_conferenceAt yX4_conferenceAt, Cond.initialized RX4, Cond.code yX4_conferenceAt cX4_conferenceAt 2 (some (.object "HarbourPilotline$Conference")), Cond.fieldLink RX4 26 "HarbourPilotline" "conferences" "Ljava/util/ArrayList;", Cond.classLink RX4 71 "HarbourPilotline$Conference", Cond.methodLink RX4 43 yJx4a65c_size_8abf5, Cond.instanceMethod yJx4a65c_size_8abf5, Cond.selects RJx4a65c yJx4a65c_size_8abf5 yJx4a65c_size_8abf5, Cond.initialized RJx4a65c, Cond.code yJx4a65c_size_8abf5 cJx4a65c_size_8abf5 1 (some .int), Cond.fieldLink RJx4a65c 48 "java/util/ArrayList" "size" "I", Cond.methodLink RX4 145 yJx4a65c_get_915e3, Cond.instanceMethod yJx4a65c_get_915e3, Cond.selects RJx4a65c yJx4a65c_get_915e3 yJx4a65c_get_915e3]
def wsX4_ofConference_r2 : List Cond := [Cond.code yJx4a65c_get_915e3 cJx4a65c_get_915e3 2 (some (.object "java/lang/Object")), Cond.methodLink RJx4a65c 118 yJ15_checkIndex_7cf53, Cond.static yJ15_checkIndex_7cf53, Cond.initialized RJ15, Cond.code yJ15_checkIndex_7cf53 cJ15_checkIndex_7cf53 2 (some .int), Cond.methodLink RJ15 105 yJ3_checkIndex_8e157, Cond.static yJ3_checkIndex_8e157, Cond.initialized RJ3, Cond.code yJ3_checkIndex_8e157 cJ3_checkIndex_8e157 3 (some .int), Cond.methodLink RJx4a65c 123 yJx4a65c_elementData_915e3, Cond.instanceMethod yJx4a65c_elementData_915e3, Cond.selects RJx4a65c yJx4a65c_elementData_915e3 yJx4a65c_elementData_915e3, Cond.code yJx4a65c_elementData_915e3 cJx4a65c_elementData_915e3 2 (some (.object "java/lang/Object")), Cond.fieldLink RJx4a65c 9 "java/util/ArrayList" "elementData" "[Ljava/lang/Object;", Cond.methodLink RX4 115 yX0_howManyIn, Cond.instanceMethod yX0_howManyIn, Cond.selects RX0 yX0_howManyIn yX0_howManyIn, Cond.initialized RX0, Cond.code yX0_howManyIn cX0_howManyIn 1 (some .int), Cond.fieldLink RX0 25 "HarbourPilotline$Conference" "shipIn" "Z", Cond.fieldLink RX0 29 "HarbourPilotline$Conference" "towerIn" "Z", Cond.fieldLink RX0 32 "HarbourPilotline$Conference" "pilot" "LHarbourPilotline$Pilot;"]
def wsX4_ofConference : List Cond := .code yX4_ofConference cX4_ofConference 4 (some .int) :: ((wsX4_ofConference_r1 ++ wsX4_ofConference_r2) ++ wsX00 ++ wsX10 ++ wsX20 ++ wsX40 ++ wsJx4a65c0 ++ (vx_atS RX4 179 "java/lang/IndexOutOfBoundsException" ["java/lang/RuntimeException", "java/lang/Exception"]).filter goodWord)
def wsX4_why_r1 : List Cond := [Cond.classLink RX4 92 "java/lang/IllegalStateException", Cond.initialized "java/lang/IllegalStateException", Cond.fieldLink RX4 68 "HarbourPilotline" "now" "I", Cond.fieldLink RX4 167 "HarbourPilotline$Conference" "pilot" "LHarbourPilotline$Pilot;", Cond.fieldLink RX4 10 "HarbourPilotline" "tide" "LHarbourPilotline$Tide;", Cond.fieldLink RX4 102 "HarbourPilotline$Conference" "ship" "LHarbourPilotline$Ship;", Cond.methodLink RX4 76 yX4_conferenceAt, Cond.instanceMethod yX4_conferenceAt, Cond.selects RX4 yX4_conferenceAt yX4_conferenceAt, Cond.initialized RX4, Cond.code yX4_conferenceAt cX4_conferenceAt 2 (some (.object "HarbourPilotline$Conference")), Cond.classLink RX4 175 "java/lang/IndexOutOfBoundsException", Cond.initialized "java/lang/IndexOutOfBoundsException", Cond.fieldLink RX4 26 "HarbourPilotline" "conferences" "Ljava/util/ArrayList;", Cond.classLink RX4 71 "HarbourPilotline$Conference", Cond.methodLink RX4 43 yJx4a65c_size_8abf5, Cond.instanceMethod yJx4a65c_size_8abf5, Cond.selects RJx4a65c yJx4a65c_size_8abf5 yJx4a65c_size_8abf5, Cond.initialized RJx4a65c, Cond.code yJx4a65c_size_8abf5 cJx4a65c_size_8abf5 1 (some .int), Cond.fieldLink RJx4a65c 48 "java/util/ArrayList" "size" "I", Cond.methodLink RX4 145 yJx4a65c_get_915e3, Cond.instanceMethod yJx4a65c_get_915e3, Cond.selects RJx4a65c yJx4a65c_get_915e3 yJx4a65c_get_915e3]
def wsX4_why_r2 : List Cond := [Cond.code yJx4a65c_get_915e3 cJx4a65c_get_915e3 2 (some (.object "java/lang/Object")), Cond.methodLink RJx4a65c 118 yJ15_checkIndex_7cf53, Cond.static yJ15_checkIndex_7cf53, Cond.initialized RJ15, Cond.code yJ15_checkIndex_7cf53 cJ15_checkIndex_7cf53 2 (some .int), Cond.methodLink RJ15 105 yJ3_checkIndex_8e157, Cond.static yJ3_checkIndex_8e157, Cond.initialized RJ3, Cond.code yJ3_checkIndex_8e157 cJ3_checkIndex_8e157 3 (some .int), Cond.methodLink RJx4a65c 123 yJx4a65c_elementData_915e3, Cond.instanceMethod yJx4a65c_elementData_915e3, Cond.selects RJx4a65c yJx4a65c_elementData_915e3 yJx4a65c_elementData_915e3, Cond.code yJx4a65c_elementData_915e3 cJx4a65c_elementData_915e3 2 (some (.object "java/lang/Object")), Cond.fieldLink RJx4a65c 9 "java/util/ArrayList" "elementData" "[Ljava/lang/Object;", Cond.methodLink RX4 33 yX4_demandWithin, Cond.static yX4_demandWithin, Cond.code yX4_demandWithin cX4_demandWithin 3 none, Cond.classLink RX4 222 "java/lang/IllegalArgumentException", Cond.initialized "java/lang/IllegalArgumentException", Cond.methodLink RX4 157 yX3_pastShallows, Cond.instanceMethod yX3_pastShallows, Cond.selects RX3 yX3_pastShallows yX3_pastShallows, Cond.initialized RX3, Cond.code yX3_pastShallows cX3_pastShallows 5 (some .int)]
def wsX4_why_r3 : List Cond := [Cond.fieldLink RX3 22 "HarbourPilotline$Ship" "draught" "I", Cond.fieldLink RX3 27 "HarbourPilotline$Ship" "minutes" "I", Cond.fieldLink RX3 7 "HarbourPilotline$Tide" "depth" "I", Cond.methodLink RX3 30 yX3_aboveDepth, Cond.instanceMethod yX3_aboveDepth, Cond.selects RX3 yX3_aboveDepth yX3_aboveDepth, Cond.code yX3_aboveDepth cX3_aboveDepth 3 (some .int), Cond.methodLink RX3 16 Lib.Math.min.name, Cond.static Lib.Math.min.name, Cond.initialized "java/lang/Math", Cond.code Lib.Math.min.name Lib.Math.min.code 2 (some .int), Cond.fieldLink RX3 13 "HarbourPilotline$Tide" "rise" "I", Cond.methodLink RX4 182 yX4_pastRests, Cond.instanceMethod yX4_pastRests, Cond.selects RX4 yX4_pastRests yX4_pastRests, Cond.code yX4_pastRests cX4_pastRests 7 (some .int), Cond.fieldLink RX4 122 "HarbourPilotline$Conference" "slot" "I", Cond.methodLink RX4 161 Lib.Math.max.name, Cond.static Lib.Math.max.name, Cond.code Lib.Math.max.name Lib.Math.max.code 2 (some .int), Cond.methodLink RX4 244 yX2_minutesWithRest, Cond.instanceMethod yX2_minutesWithRest, Cond.selects RX2 yX2_minutesWithRest yX2_minutesWithRest, Cond.initialized RX2]
def wsX4_why_r4 : List Cond := [Cond.code yX2_minutesWithRest cX2_minutesWithRest 1 (some .int), Cond.fieldLink RX2 19 "HarbourPilotline$Ship" "minutes" "I", Cond.methodLink RX2 25 Lib.Math.max.name, Cond.methodLink RX4 186 yX4_pastTugs, Cond.instanceMethod yX4_pastTugs, Cond.selects RX4 yX4_pastTugs yX4_pastTugs, Cond.code yX4_pastTugs cX4_pastTugs 6 (some .int), Cond.fieldLink RX4 247 "HarbourPilotline$Ship" "minutes" "I", Cond.fieldLink RX4 29 "HarbourPilotline" "tugs" "I", Cond.fieldLink RX4 250 "HarbourPilotline$Ship" "tugs" "I", Cond.methodLink RX4 212 yX4_tugsOfOthers, Cond.instanceMethod yX4_tugsOfOthers, Cond.selects RX4 yX4_tugsOfOthers yX4_tugsOfOthers, Cond.code yX4_tugsOfOthers cX4_tugsOfOthers 7 (some .int), Cond.methodLink RX4 189 yX4_pastChannel, Cond.instanceMethod yX4_pastChannel, Cond.selects RX4 yX4_pastChannel yX4_pastChannel, Cond.code yX4_pastChannel cX4_pastChannel 6 (some .int), Cond.methodLink RX4 251 Lib.Math.abs.name, Cond.static Lib.Math.abs.name, Cond.code Lib.Math.abs.name Lib.Math.abs.code 1 (some .int)]
def wsX4_why : List Cond := .code yX4_why cX4_why 4 (some .int) :: ((wsX4_why_r1 ++ (wsX4_why_r2 ++ (wsX4_why_r3 ++ wsX4_why_r4))) ++ wsX40 ++ wsX00 ++ wsJx4a65c0 ++ wsX20 ++ wsX30 ++ (vx_atS RX4 96 "java/lang/IllegalStateException" ["java/lang/RuntimeException", "java/lang/Exception"]).filter goodWord ++ (vx_atS RX4 179 "java/lang/IndexOutOfBoundsException" ["java/lang/RuntimeException", "java/lang/Exception"]).filter goodWord ++ (vx_atS RX4 226 "java/lang/IllegalArgumentException" ["java/lang/RuntimeException", "java/lang/Exception"]).filter goodWord)
def wsX4_restedBehindSlots_r1 : List Cond := [Cond.fieldLink RX4 68 "HarbourPilotline" "now" "I", Cond.fieldLink RX4 26 "HarbourPilotline" "conferences" "Ljava/util/ArrayList;", Cond.classLink RX4 71 "HarbourPilotline$Conference", Cond.fieldLink RX4 167 "HarbourPilotline$Conference" "pilot" "LHarbourPilotline$Pilot;", Cond.fieldLink RX4 122 "HarbourPilotline$Conference" "slot" "I", Cond.fieldLink RX4 102 "HarbourPilotline$Conference" "ship" "LHarbourPilotline$Ship;", Cond.methodLink RX4 161 Lib.Math.max.name, Cond.static Lib.Math.max.name, Cond.initialized "java/lang/Math", Cond.code Lib.Math.max.name Lib.Math.max.code 2 (some .int), Cond.methodLink RX4 43 yJx4a65c_size_8abf5, Cond.instanceMethod yJx4a65c_size_8abf5, Cond.selects RJx4a65c yJx4a65c_size_8abf5 yJx4a65c_size_8abf5, Cond.initialized RJx4a65c, Cond.code yJx4a65c_size_8abf5 cJx4a65c_size_8abf5 1 (some .int), Cond.fieldLink RJx4a65c 48 "java/util/ArrayList" "size" "I", Cond.methodLink RX4 145 yJx4a65c_get_915e3, Cond.instanceMethod yJx4a65c_get_915e3, Cond.selects RJx4a65c yJx4a65c_get_915e3 yJx4a65c_get_915e3, Cond.code yJx4a65c_get_915e3 cJx4a65c_get_915e3 2 (some (.object "java/lang/Object")), Cond.methodLink RJx4a65c 118 yJ15_checkIndex_7cf53, Cond.static yJ15_checkIndex_7cf53, Cond.initialized RJ15, Cond.code yJ15_checkIndex_7cf53 cJ15_checkIndex_7cf53 2 (some .int)]
def wsX4_restedBehindSlots_r2 : List Cond := [Cond.methodLink RJ15 105 yJ3_checkIndex_8e157, Cond.static yJ3_checkIndex_8e157, Cond.initialized RJ3, Cond.code yJ3_checkIndex_8e157 cJ3_checkIndex_8e157 3 (some .int), Cond.methodLink RJx4a65c 123 yJx4a65c_elementData_915e3, Cond.instanceMethod yJx4a65c_elementData_915e3, Cond.selects RJx4a65c yJx4a65c_elementData_915e3 yJx4a65c_elementData_915e3, Cond.code yJx4a65c_elementData_915e3 cJx4a65c_elementData_915e3 2 (some (.object "java/lang/Object")), Cond.fieldLink RJx4a65c 9 "java/util/ArrayList" "elementData" "[Ljava/lang/Object;", Cond.methodLink RX4 244 yX2_minutesWithRest, Cond.instanceMethod yX2_minutesWithRest, Cond.selects RX2 yX2_minutesWithRest yX2_minutesWithRest, Cond.initialized RX2, Cond.code yX2_minutesWithRest cX2_minutesWithRest 1 (some .int), Cond.fieldLink RX2 19 "HarbourPilotline$Ship" "minutes" "I", Cond.methodLink RX2 25 Lib.Math.max.name]
def wsX4_restedBehindSlots : List Cond := .code yX4_restedBehindSlots cX4_restedBehindSlots 5 (some .int) :: ((wsX4_restedBehindSlots_r1 ++ wsX4_restedBehindSlots_r2) ++ wsX40 ++ wsX00 ++ wsJx4a65c0 ++ wsX20)
def wsX4_rested_r1 : List Cond := [Cond.methodLink RX4 84 yX4_pilotAt, Cond.instanceMethod yX4_pilotAt, Cond.selects RX4 yX4_pilotAt yX4_pilotAt, Cond.initialized RX4, Cond.code yX4_pilotAt cX4_pilotAt 2 (some (.object "HarbourPilotline$Pilot")), Cond.classLink RX4 175 "java/lang/IndexOutOfBoundsException", Cond.initialized "java/lang/IndexOutOfBoundsException", Cond.fieldLink RX4 23 "HarbourPilotline" "pilots" "Ljava/util/ArrayList;", Cond.classLink RX4 60 "HarbourPilotline$Pilot", Cond.methodLink RX4 43 yJx4a65c_size_8abf5, Cond.instanceMethod yJx4a65c_size_8abf5, Cond.selects RJx4a65c yJx4a65c_size_8abf5 yJx4a65c_size_8abf5, Cond.initialized RJx4a65c, Cond.code yJx4a65c_size_8abf5 cJx4a65c_size_8abf5 1 (some .int), Cond.fieldLink RJx4a65c 48 "java/util/ArrayList" "size" "I", Cond.methodLink RX4 145 yJx4a65c_get_915e3, Cond.instanceMethod yJx4a65c_get_915e3, Cond.selects RJx4a65c yJx4a65c_get_915e3 yJx4a65c_get_915e3, Cond.code yJx4a65c_get_915e3 cJx4a65c_get_915e3 2 (some (.object "java/lang/Object")), Cond.methodLink RJx4a65c 118 yJ15_checkIndex_7cf53, Cond.static yJ15_checkIndex_7cf53, Cond.initialized RJ15, Cond.code yJ15_checkIndex_7cf53 cJ15_checkIndex_7cf53 2 (some .int), Cond.methodLink RJ15 105 yJ3_checkIndex_8e157]
def wsX4_rested_r2 : List Cond := [Cond.static yJ3_checkIndex_8e157, Cond.initialized RJ3, Cond.code yJ3_checkIndex_8e157 cJ3_checkIndex_8e157 3 (some .int), Cond.methodLink RJx4a65c 123 yJx4a65c_elementData_915e3, Cond.instanceMethod yJx4a65c_elementData_915e3, Cond.selects RJx4a65c yJx4a65c_elementData_915e3 yJx4a65c_elementData_915e3, Cond.code yJx4a65c_elementData_915e3 cJx4a65c_elementData_915e3 2 (some (.object "java/lang/Object")), Cond.fieldLink RJx4a65c 9 "java/util/ArrayList" "elementData" "[Ljava/lang/Object;", Cond.methodLink RX4 192 yX4_restedBehindSlots, Cond.instanceMethod yX4_restedBehindSlots, Cond.selects RX4 yX4_restedBehindSlots yX4_restedBehindSlots, Cond.code yX4_restedBehindSlots cX4_restedBehindSlots 5 (some .int), Cond.fieldLink RX4 68 "HarbourPilotline" "now" "I", Cond.fieldLink RX4 26 "HarbourPilotline" "conferences" "Ljava/util/ArrayList;", Cond.classLink RX4 71 "HarbourPilotline$Conference", Cond.fieldLink RX4 167 "HarbourPilotline$Conference" "pilot" "LHarbourPilotline$Pilot;", Cond.fieldLink RX4 122 "HarbourPilotline$Conference" "slot" "I", Cond.fieldLink RX4 102 "HarbourPilotline$Conference" "ship" "LHarbourPilotline$Ship;", Cond.methodLink RX4 161 Lib.Math.max.name, Cond.static Lib.Math.max.name, Cond.initialized "java/lang/Math", Cond.code Lib.Math.max.name Lib.Math.max.code 2 (some .int), Cond.methodLink RX4 244 yX2_minutesWithRest, Cond.instanceMethod yX2_minutesWithRest]
def wsX4_rested_r3 : List Cond := [Cond.selects RX2 yX2_minutesWithRest yX2_minutesWithRest, Cond.initialized RX2, Cond.code yX2_minutesWithRest cX2_minutesWithRest 1 (some .int), Cond.fieldLink RX2 19 "HarbourPilotline$Ship" "minutes" "I", Cond.methodLink RX2 25 Lib.Math.max.name]
def wsX4_rested : List Cond := .code yX4_rested cX4_rested 2 (some .int) :: ((wsX4_rested_r1 ++ (wsX4_rested_r2 ++ wsX4_rested_r3)) ++ wsX40 ++ wsJx4a65c0 ++ wsX00 ++ wsX20 ++ (vx_atS RX4 179 "java/lang/IndexOutOfBoundsException" ["java/lang/RuntimeException", "java/lang/Exception"]).filter goodWord)
def wsX4_restedAnew_r1 : List Cond := [Cond.methodLink RX4 84 yX4_pilotAt, Cond.instanceMethod yX4_pilotAt, Cond.selects RX4 yX4_pilotAt yX4_pilotAt, Cond.initialized RX4, Cond.code yX4_pilotAt cX4_pilotAt 2 (some (.object "HarbourPilotline$Pilot")), Cond.classLink RX4 175 "java/lang/IndexOutOfBoundsException", Cond.initialized "java/lang/IndexOutOfBoundsException", Cond.fieldLink RX4 23 "HarbourPilotline" "pilots" "Ljava/util/ArrayList;", Cond.classLink RX4 60 "HarbourPilotline$Pilot", Cond.methodLink RX4 43 yJx4a65c_size_8abf5, Cond.instanceMethod yJx4a65c_size_8abf5, Cond.selects RJx4a65c yJx4a65c_size_8abf5 yJx4a65c_size_8abf5, Cond.initialized RJx4a65c, Cond.code yJx4a65c_size_8abf5 cJx4a65c_size_8abf5 1 (some .int), Cond.fieldLink RJx4a65c 48 "java/util/ArrayList" "size" "I", Cond.methodLink RX4 145 yJx4a65c_get_915e3, Cond.instanceMethod yJx4a65c_get_915e3, Cond.selects RJx4a65c yJx4a65c_get_915e3 yJx4a65c_get_915e3, Cond.code yJx4a65c_get_915e3 cJx4a65c_get_915e3 2 (some (.object "java/lang/Object")), Cond.methodLink RJx4a65c 118 yJ15_checkIndex_7cf53, Cond.static yJ15_checkIndex_7cf53, Cond.initialized RJ15, Cond.code yJ15_checkIndex_7cf53 cJ15_checkIndex_7cf53 2 (some .int), Cond.methodLink RJ15 105 yJ3_checkIndex_8e157]
def wsX4_restedAnew_r2 : List Cond := [Cond.static yJ3_checkIndex_8e157, Cond.initialized RJ3, Cond.code yJ3_checkIndex_8e157 cJ3_checkIndex_8e157 3 (some .int), Cond.methodLink RJx4a65c 123 yJx4a65c_elementData_915e3, Cond.instanceMethod yJx4a65c_elementData_915e3, Cond.selects RJx4a65c yJx4a65c_elementData_915e3 yJx4a65c_elementData_915e3, Cond.code yJx4a65c_elementData_915e3 cJx4a65c_elementData_915e3 2 (some (.object "java/lang/Object")), Cond.fieldLink RJx4a65c 9 "java/util/ArrayList" "elementData" "[Ljava/lang/Object;", Cond.methodLink RX4 192 yX4_restedBehindSlots, Cond.instanceMethod yX4_restedBehindSlots, Cond.selects RX4 yX4_restedBehindSlots yX4_restedBehindSlots, Cond.code yX4_restedBehindSlots cX4_restedBehindSlots 5 (some .int), Cond.fieldLink RX4 68 "HarbourPilotline" "now" "I", Cond.fieldLink RX4 26 "HarbourPilotline" "conferences" "Ljava/util/ArrayList;", Cond.classLink RX4 71 "HarbourPilotline$Conference", Cond.fieldLink RX4 167 "HarbourPilotline$Conference" "pilot" "LHarbourPilotline$Pilot;", Cond.fieldLink RX4 122 "HarbourPilotline$Conference" "slot" "I", Cond.fieldLink RX4 102 "HarbourPilotline$Conference" "ship" "LHarbourPilotline$Ship;", Cond.methodLink RX4 161 Lib.Math.max.name, Cond.static Lib.Math.max.name, Cond.initialized "java/lang/Math", Cond.code Lib.Math.max.name Lib.Math.max.code 2 (some .int), Cond.methodLink RX4 244 yX2_minutesWithRest, Cond.instanceMethod yX2_minutesWithRest]
def wsX4_restedAnew_r3 : List Cond := [Cond.selects RX2 yX2_minutesWithRest yX2_minutesWithRest, Cond.initialized RX2, Cond.code yX2_minutesWithRest cX2_minutesWithRest 1 (some .int), Cond.fieldLink RX2 19 "HarbourPilotline$Ship" "minutes" "I", Cond.methodLink RX2 25 Lib.Math.max.name]
def wsX4_restedAnew : List Cond := .code yX4_restedAnew cX4_restedAnew 2 (some .int) :: ((wsX4_restedAnew_r1 ++ (wsX4_restedAnew_r2 ++ wsX4_restedAnew_r3)) ++ wsX40 ++ wsJx4a65c0 ++ wsX00 ++ wsX20 ++ (vx_atS RX4 179 "java/lang/IndexOutOfBoundsException" ["java/lang/RuntimeException", "java/lang/Exception"]).filter goodWord)
def wsX4_bill_r1 : List Cond := [Cond.fieldLink RX4 196 "HarbourPilotline$Ship" "owes" "I", Cond.methodLink RX4 64 yX4_shipAt, Cond.instanceMethod yX4_shipAt, Cond.selects RX4 yX4_shipAt yX4_shipAt, Cond.initialized RX4, Cond.code yX4_shipAt cX4_shipAt 2 (some (.object "HarbourPilotline$Ship")), Cond.classLink RX4 175 "java/lang/IndexOutOfBoundsException", Cond.initialized "java/lang/IndexOutOfBoundsException", Cond.fieldLink RX4 19 "HarbourPilotline" "ships" "Ljava/util/ArrayList;", Cond.classLink RX4 51 "HarbourPilotline$Ship", Cond.methodLink RX4 43 yJx4a65c_size_8abf5, Cond.instanceMethod yJx4a65c_size_8abf5, Cond.selects RJx4a65c yJx4a65c_size_8abf5 yJx4a65c_size_8abf5, Cond.initialized RJx4a65c, Cond.code yJx4a65c_size_8abf5 cJx4a65c_size_8abf5 1 (some .int), Cond.fieldLink RJx4a65c 48 "java/util/ArrayList" "size" "I", Cond.methodLink RX4 145 yJx4a65c_get_915e3, Cond.instanceMethod yJx4a65c_get_915e3, Cond.selects RJx4a65c yJx4a65c_get_915e3 yJx4a65c_get_915e3, Cond.code yJx4a65c_get_915e3 cJx4a65c_get_915e3 2 (some (.object "java/lang/Object")), Cond.methodLink RJx4a65c 118 yJ15_checkIndex_7cf53, Cond.static yJ15_checkIndex_7cf53, Cond.initialized RJ15, Cond.code yJ15_checkIndex_7cf53 cJ15_checkIndex_7cf53 2 (some .int)]
def wsX4_bill_r2 : List Cond := [Cond.methodLink RJ15 105 yJ3_checkIndex_8e157, Cond.static yJ3_checkIndex_8e157, Cond.initialized RJ3, Cond.code yJ3_checkIndex_8e157 cJ3_checkIndex_8e157 3 (some .int), Cond.methodLink RJx4a65c 123 yJx4a65c_elementData_915e3, Cond.instanceMethod yJx4a65c_elementData_915e3, Cond.selects RJx4a65c yJx4a65c_elementData_915e3 yJx4a65c_elementData_915e3, Cond.code yJx4a65c_elementData_915e3 cJx4a65c_elementData_915e3 2 (some (.object "java/lang/Object")), Cond.fieldLink RJx4a65c 9 "java/util/ArrayList" "elementData" "[Ljava/lang/Object;"]
def wsX4_bill : List Cond := .code yX4_bill cX4_bill 2 (some .int) :: ((wsX4_bill_r1 ++ wsX4_bill_r2) ++ wsX20 ++ wsX40 ++ wsJx4a65c0 ++ (vx_atS RX4 179 "java/lang/IndexOutOfBoundsException" ["java/lang/RuntimeException", "java/lang/Exception"]).filter goodWord)
def wsX4_isAboard_r1 : List Cond := [Cond.fieldLink RX4 26 "HarbourPilotline" "conferences" "Ljava/util/ArrayList;", Cond.classLink RX4 71 "HarbourPilotline$Conference", Cond.fieldLink RX4 167 "HarbourPilotline$Conference" "pilot" "LHarbourPilotline$Pilot;", Cond.fieldLink RX4 125 "HarbourPilotline$Conference" "state" "I", Cond.methodLink RX4 43 yJx4a65c_size_8abf5, Cond.instanceMethod yJx4a65c_size_8abf5, Cond.selects RJx4a65c yJx4a65c_size_8abf5 yJx4a65c_size_8abf5, Cond.initialized RJx4a65c, Cond.code yJx4a65c_size_8abf5 cJx4a65c_size_8abf5 1 (some .int), Cond.fieldLink RJx4a65c 48 "java/util/ArrayList" "size" "I", Cond.methodLink RX4 145 yJx4a65c_get_915e3, Cond.instanceMethod yJx4a65c_get_915e3, Cond.selects RJx4a65c yJx4a65c_get_915e3 yJx4a65c_get_915e3, Cond.code yJx4a65c_get_915e3 cJx4a65c_get_915e3 2 (some (.object "java/lang/Object")), Cond.methodLink RJx4a65c 118 yJ15_checkIndex_7cf53, Cond.static yJ15_checkIndex_7cf53, Cond.initialized RJ15, Cond.code yJ15_checkIndex_7cf53 cJ15_checkIndex_7cf53 2 (some .int), Cond.methodLink RJ15 105 yJ3_checkIndex_8e157, Cond.static yJ3_checkIndex_8e157, Cond.initialized RJ3, Cond.code yJ3_checkIndex_8e157 cJ3_checkIndex_8e157 3 (some .int), Cond.methodLink RJx4a65c 123 yJx4a65c_elementData_915e3, Cond.instanceMethod yJx4a65c_elementData_915e3]
def wsX4_isAboard_r2 : List Cond := [Cond.selects RJx4a65c yJx4a65c_elementData_915e3 yJx4a65c_elementData_915e3, Cond.code yJx4a65c_elementData_915e3 cJx4a65c_elementData_915e3 2 (some (.object "java/lang/Object")), Cond.fieldLink RJx4a65c 9 "java/util/ArrayList" "elementData" "[Ljava/lang/Object;"]
def wsX4_isAboard : List Cond := .code yX4_isAboard cX4_isAboard 4 (some .boolean) :: ((wsX4_isAboard_r1 ++ wsX4_isAboard_r2) ++ wsX40 ++ wsX00 ++ wsJx4a65c0)
def wsX4_ofPilot_r1 : List Cond := [Cond.classLink RX4 175 "java/lang/IndexOutOfBoundsException", Cond.initialized "java/lang/IndexOutOfBoundsException", Cond.fieldLink RX4 199 "HarbourPilotline$Pilot" "movesDone" "I", Cond.fieldLink RX4 202 "HarbourPilotline$Pilot" "minutesDone" "I", Cond.fieldLink RX4 209 "HarbourPilotline$Pilot" "rate" "I", Cond.methodLink RX4 84 yX4_pilotAt, Cond.instanceMethod yX4_pilotAt, Cond.selects RX4 yX4_pilotAt yX4_pilotAt, Cond.initialized RX4, Cond.code yX4_pilotAt cX4_pilotAt 2 (some (.object "HarbourPilotline$Pilot")), Cond.fieldLink RX4 23 "HarbourPilotline" "pilots" "Ljava/util/ArrayList;", Cond.classLink RX4 60 "HarbourPilotline$Pilot", Cond.methodLink RX4 43 yJx4a65c_size_8abf5, Cond.instanceMethod yJx4a65c_size_8abf5, Cond.selects RJx4a65c yJx4a65c_size_8abf5 yJx4a65c_size_8abf5, Cond.initialized RJx4a65c, Cond.code yJx4a65c_size_8abf5 cJx4a65c_size_8abf5 1 (some .int), Cond.fieldLink RJx4a65c 48 "java/util/ArrayList" "size" "I", Cond.methodLink RX4 145 yJx4a65c_get_915e3, Cond.instanceMethod yJx4a65c_get_915e3, Cond.selects RJx4a65c yJx4a65c_get_915e3 yJx4a65c_get_915e3, Cond.code yJx4a65c_get_915e3 cJx4a65c_get_915e3 2 (some (.object "java/lang/Object")), Cond.methodLink RJx4a65c 118 yJ15_checkIndex_7cf53, Cond.static yJ15_checkIndex_7cf53]
def wsX4_ofPilot_r2 : List Cond := [Cond.initialized RJ15, Cond.code yJ15_checkIndex_7cf53 cJ15_checkIndex_7cf53 2 (some .int), Cond.methodLink RJ15 105 yJ3_checkIndex_8e157, Cond.static yJ3_checkIndex_8e157, Cond.initialized RJ3, Cond.code yJ3_checkIndex_8e157 cJ3_checkIndex_8e157 3 (some .int), Cond.methodLink RJx4a65c 123 yJx4a65c_elementData_915e3, Cond.instanceMethod yJx4a65c_elementData_915e3, Cond.selects RJx4a65c yJx4a65c_elementData_915e3 yJx4a65c_elementData_915e3, Cond.code yJx4a65c_elementData_915e3 cJx4a65c_elementData_915e3 2 (some (.object "java/lang/Object")), Cond.fieldLink RJx4a65c 9 "java/util/ArrayList" "elementData" "[Ljava/lang/Object;", Cond.methodLink RX4 205 yX4_isAboard, Cond.instanceMethod yX4_isAboard, Cond.selects RX4 yX4_isAboard yX4_isAboard, Cond.code yX4_isAboard cX4_isAboard 4 (some .boolean), Cond.fieldLink RX4 26 "HarbourPilotline" "conferences" "Ljava/util/ArrayList;", Cond.classLink RX4 71 "HarbourPilotline$Conference", Cond.fieldLink RX4 167 "HarbourPilotline$Conference" "pilot" "LHarbourPilotline$Pilot;", Cond.fieldLink RX4 125 "HarbourPilotline$Conference" "state" "I"]
def wsX4_ofPilot : List Cond := .code yX4_ofPilot cX4_ofPilot 4 (some .int) :: ((wsX4_ofPilot_r1 ++ wsX4_ofPilot_r2) ++ wsX10 ++ wsX40 ++ wsJx4a65c0 ++ wsX00 ++ (vx_atS RX4 179 "java/lang/IndexOutOfBoundsException" ["java/lang/RuntimeException", "java/lang/Exception"]).filter goodWord)
def wsX4_allBills_r1 : List Cond := [Cond.fieldLink RX4 19 "HarbourPilotline" "ships" "Ljava/util/ArrayList;", Cond.classLink RX4 51 "HarbourPilotline$Ship", Cond.fieldLink RX4 196 "HarbourPilotline$Ship" "owes" "I", Cond.methodLink RX4 43 yJx4a65c_size_8abf5, Cond.instanceMethod yJx4a65c_size_8abf5, Cond.selects RJx4a65c yJx4a65c_size_8abf5 yJx4a65c_size_8abf5, Cond.initialized RJx4a65c, Cond.code yJx4a65c_size_8abf5 cJx4a65c_size_8abf5 1 (some .int), Cond.fieldLink RJx4a65c 48 "java/util/ArrayList" "size" "I", Cond.methodLink RX4 145 yJx4a65c_get_915e3, Cond.instanceMethod yJx4a65c_get_915e3, Cond.selects RJx4a65c yJx4a65c_get_915e3 yJx4a65c_get_915e3, Cond.code yJx4a65c_get_915e3 cJx4a65c_get_915e3 2 (some (.object "java/lang/Object")), Cond.methodLink RJx4a65c 118 yJ15_checkIndex_7cf53, Cond.static yJ15_checkIndex_7cf53, Cond.initialized RJ15, Cond.code yJ15_checkIndex_7cf53 cJ15_checkIndex_7cf53 2 (some .int), Cond.methodLink RJ15 105 yJ3_checkIndex_8e157, Cond.static yJ3_checkIndex_8e157, Cond.initialized RJ3, Cond.code yJ3_checkIndex_8e157 cJ3_checkIndex_8e157 3 (some .int), Cond.methodLink RJx4a65c 123 yJx4a65c_elementData_915e3, Cond.instanceMethod yJx4a65c_elementData_915e3, Cond.selects RJx4a65c yJx4a65c_elementData_915e3 yJx4a65c_elementData_915e3]
def wsX4_allBills_r2 : List Cond := [Cond.code yJx4a65c_elementData_915e3 cJx4a65c_elementData_915e3 2 (some (.object "java/lang/Object")), Cond.fieldLink RJx4a65c 9 "java/util/ArrayList" "elementData" "[Ljava/lang/Object;"]
def wsX4_allBills : List Cond := .code yX4_allBills cX4_allBills 3 (some .int) :: ((wsX4_allBills_r1 ++ wsX4_allBills_r2) ++ wsX40 ++ wsX20 ++ wsJx4a65c0)
def wsX4_howManyAre_r1 : List Cond := [Cond.fieldLink RX4 26 "HarbourPilotline" "conferences" "Ljava/util/ArrayList;", Cond.classLink RX4 71 "HarbourPilotline$Conference", Cond.fieldLink RX4 125 "HarbourPilotline$Conference" "state" "I", Cond.methodLink RX4 43 yJx4a65c_size_8abf5, Cond.instanceMethod yJx4a65c_size_8abf5, Cond.selects RJx4a65c yJx4a65c_size_8abf5 yJx4a65c_size_8abf5, Cond.initialized RJx4a65c, Cond.code yJx4a65c_size_8abf5 cJx4a65c_size_8abf5 1 (some .int), Cond.fieldLink RJx4a65c 48 "java/util/ArrayList" "size" "I", Cond.methodLink RX4 145 yJx4a65c_get_915e3, Cond.instanceMethod yJx4a65c_get_915e3, Cond.selects RJx4a65c yJx4a65c_get_915e3 yJx4a65c_get_915e3, Cond.code yJx4a65c_get_915e3 cJx4a65c_get_915e3 2 (some (.object "java/lang/Object")), Cond.methodLink RJx4a65c 118 yJ15_checkIndex_7cf53, Cond.static yJ15_checkIndex_7cf53, Cond.initialized RJ15, Cond.code yJ15_checkIndex_7cf53 cJ15_checkIndex_7cf53 2 (some .int), Cond.methodLink RJ15 105 yJ3_checkIndex_8e157, Cond.static yJ3_checkIndex_8e157, Cond.initialized RJ3, Cond.code yJ3_checkIndex_8e157 cJ3_checkIndex_8e157 3 (some .int), Cond.methodLink RJx4a65c 123 yJx4a65c_elementData_915e3, Cond.instanceMethod yJx4a65c_elementData_915e3, Cond.selects RJx4a65c yJx4a65c_elementData_915e3 yJx4a65c_elementData_915e3]
def wsX4_howManyAre_r2 : List Cond := [Cond.code yJx4a65c_elementData_915e3 cJx4a65c_elementData_915e3 2 (some (.object "java/lang/Object")), Cond.fieldLink RJx4a65c 9 "java/util/ArrayList" "elementData" "[Ljava/lang/Object;"]
def wsX4_howManyAre : List Cond := .code yX4_howManyAre cX4_howManyAre 4 (some .int) :: ((wsX4_howManyAre_r1 ++ wsX4_howManyAre_r2) ++ wsX40 ++ wsX00 ++ wsJx4a65c0)
def wsX4_count_r1 : List Cond := [Cond.fieldLink RX4 68 "HarbourPilotline" "now" "I", Cond.fieldLink RX4 140 "HarbourPilotline" "toldByDrops" "I", Cond.methodLink RX4 33 yX4_demandWithin, Cond.static yX4_demandWithin, Cond.initialized RX4, Cond.code yX4_demandWithin cX4_demandWithin 3 none, Cond.classLink RX4 222 "java/lang/IllegalArgumentException", Cond.initialized "java/lang/IllegalArgumentException", Cond.methodLink RX4 212 yX4_tugsOfOthers, Cond.instanceMethod yX4_tugsOfOthers, Cond.selects RX4 yX4_tugsOfOthers yX4_tugsOfOthers, Cond.code yX4_tugsOfOthers cX4_tugsOfOthers 7 (some .int), Cond.fieldLink RX4 26 "HarbourPilotline" "conferences" "Ljava/util/ArrayList;", Cond.classLink RX4 71 "HarbourPilotline$Conference", Cond.fieldLink RX4 122 "HarbourPilotline$Conference" "slot" "I", Cond.fieldLink RX4 102 "HarbourPilotline$Conference" "ship" "LHarbourPilotline$Ship;", Cond.fieldLink RX4 247 "HarbourPilotline$Ship" "minutes" "I", Cond.fieldLink RX4 250 "HarbourPilotline$Ship" "tugs" "I", Cond.methodLink RX4 43 yJx4a65c_size_8abf5, Cond.instanceMethod yJx4a65c_size_8abf5, Cond.selects RJx4a65c yJx4a65c_size_8abf5 yJx4a65c_size_8abf5, Cond.initialized RJx4a65c, Cond.code yJx4a65c_size_8abf5 cJx4a65c_size_8abf5 1 (some .int), Cond.fieldLink RJx4a65c 48 "java/util/ArrayList" "size" "I"]
def wsX4_count_r2 : List Cond := [Cond.methodLink RX4 145 yJx4a65c_get_915e3, Cond.instanceMethod yJx4a65c_get_915e3, Cond.selects RJx4a65c yJx4a65c_get_915e3 yJx4a65c_get_915e3, Cond.code yJx4a65c_get_915e3 cJx4a65c_get_915e3 2 (some (.object "java/lang/Object")), Cond.methodLink RJx4a65c 118 yJ15_checkIndex_7cf53, Cond.static yJ15_checkIndex_7cf53, Cond.initialized RJ15, Cond.code yJ15_checkIndex_7cf53 cJ15_checkIndex_7cf53 2 (some .int), Cond.methodLink RJ15 105 yJ3_checkIndex_8e157, Cond.static yJ3_checkIndex_8e157, Cond.initialized RJ3, Cond.code yJ3_checkIndex_8e157 cJ3_checkIndex_8e157 3 (some .int), Cond.methodLink RJx4a65c 123 yJx4a65c_elementData_915e3, Cond.instanceMethod yJx4a65c_elementData_915e3, Cond.selects RJx4a65c yJx4a65c_elementData_915e3 yJx4a65c_elementData_915e3, Cond.code yJx4a65c_elementData_915e3 cJx4a65c_elementData_915e3 2 (some (.object "java/lang/Object")), Cond.fieldLink RJx4a65c 9 "java/util/ArrayList" "elementData" "[Ljava/lang/Object;", Cond.methodLink RX4 216 yX4_allBills, Cond.instanceMethod yX4_allBills, Cond.selects RX4 yX4_allBills yX4_allBills, Cond.code yX4_allBills cX4_allBills 3 (some .int), Cond.fieldLink RX4 19 "HarbourPilotline" "ships" "Ljava/util/ArrayList;", Cond.classLink RX4 51 "HarbourPilotline$Ship", Cond.fieldLink RX4 196 "HarbourPilotline$Ship" "owes" "I"]
def wsX4_count_r3 : List Cond := [Cond.methodLink RX4 219 yX4_howManyAre, Cond.instanceMethod yX4_howManyAre, Cond.selects RX4 yX4_howManyAre yX4_howManyAre, Cond.code yX4_howManyAre cX4_howManyAre 4 (some .int), Cond.fieldLink RX4 125 "HarbourPilotline$Conference" "state" "I"]
def wsX4_count : List Cond := .code yX4_count cX4_count 2 (some .int) :: ((wsX4_count_r1 ++ (wsX4_count_r2 ++ wsX4_count_r3)) ++ wsX40 ++ wsX00 ++ wsX20 ++ wsJx4a65c0 ++ (vx_atS RX4 226 "java/lang/IllegalArgumentException" ["java/lang/RuntimeException", "java/lang/Exception"]).filter goodWord)
def wsX5_init : List Cond := .code yX5_init cX5_init 1 none :: ([.methodLink RX5 1 objectInit, .instanceMethod objectInit, .code objectInit ⟨#[0xb1]⟩ 1 none, .fieldLink RX5 7 "HarbourPilotlineModel" "depth" "I", .fieldLink RX5 13 "HarbourPilotlineModel" "rise" "I", .fieldLink RX5 16 "HarbourPilotlineModel" "tugs" "I", .arrayClass .int, .fieldLink RX5 19 "HarbourPilotlineModel" "draught" "[I", .fieldLink RX5 23 "HarbourPilotlineModel" "tons" "[I", .fieldLink RX5 26 "HarbourPilotlineModel" "takes" "[I", .fieldLink RX5 29 "HarbourPilotlineModel" "needs" "[I", .fieldLink RX5 32 "HarbourPilotlineModel" "owes" "[I", .fieldLink RX5 35 "HarbourPilotlineModel" "licence" "[I", .fieldLink RX5 38 "HarbourPilotlineModel" "rate" "[I", .fieldLink RX5 41 "HarbourPilotlineModel" "ship" "[I", .fieldLink RX5 44 "HarbourPilotlineModel" "wish" "[I", .fieldLink RX5 47 "HarbourPilotlineModel" "in" "[I", .fieldLink RX5 50 "HarbourPilotlineModel" "pilot" "[I", .fieldLink RX5 53 "HarbourPilotlineModel" "state" "[I", .fieldLink RX5 56 "HarbourPilotlineModel" "slot" "[I"] ++ wsX50)
def wsX5_thrown : List Cond := .code yX5_thrown cX5_thrown 1 (some .int) :: ([.fieldLink RX5 59 "HarbourPilotlineModel" "thrown" "I"] ++ wsX50)
def wsX5_in : List Cond := .code yX5_in cX5_in 3 (some .boolean) :: ([])
def wsX5_isShip : List Cond := .code yX5_isShip cX5_isShip 2 (some .boolean) :: ([.fieldLink RX5 62 "HarbourPilotlineModel" "ships" "I", .methodLink RX5 65 yX5_in, .static yX5_in, .initialized RX5, .code yX5_in cX5_in 3 (some .boolean)] ++ wsX50)
def wsX5_isPilot : List Cond := .code yX5_isPilot cX5_isPilot 2 (some .boolean) :: ([.fieldLink RX5 68 "HarbourPilotlineModel" "pilots" "I", .methodLink RX5 65 yX5_in, .static yX5_in, .initialized RX5, .code yX5_in cX5_in 3 (some .boolean)] ++ wsX50)
def wsX5_isConference : List Cond := .code yX5_isConference cX5_isConference 2 (some .boolean) :: ([.fieldLink RX5 71 "HarbourPilotlineModel" "conferences" "I", .methodLink RX5 65 yX5_in, .static yX5_in, .initialized RX5, .code yX5_in cX5_in 3 (some .boolean)] ++ wsX50)
def wsX5_tide : List Cond := .code yX5_tide cX5_tide 3 none :: ([.fieldLink RX5 59 "HarbourPilotlineModel" "thrown" "I", .fieldLink RX5 7 "HarbourPilotlineModel" "depth" "I", .fieldLink RX5 13 "HarbourPilotlineModel" "rise" "I", .methodLink RX5 65 yX5_in, .static yX5_in, .initialized RX5, .code yX5_in cX5_in 3 (some .boolean)] ++ wsX50)
def wsX5_tugs : List Cond := .code yX5_tugs cX5_tugs 3 (some .int) :: ([.fieldLink RX5 59 "HarbourPilotlineModel" "thrown" "I", .fieldLink RX5 16 "HarbourPilotlineModel" "tugs" "I", .methodLink RX5 65 yX5_in, .static yX5_in, .initialized RX5, .code yX5_in cX5_in 3 (some .boolean)] ++ wsX50)
def wsX5_ship : List Cond := .code yX5_ship cX5_ship 6 (some .int) :: ([.fieldLink RX5 62 "HarbourPilotlineModel" "ships" "I", .fieldLink RX5 59 "HarbourPilotlineModel" "thrown" "I", .fieldLink RX5 19 "HarbourPilotlineModel" "draught" "[I", .fieldLink RX5 23 "HarbourPilotlineModel" "tons" "[I", .fieldLink RX5 26 "HarbourPilotlineModel" "takes" "[I", .fieldLink RX5 29 "HarbourPilotlineModel" "needs" "[I", .methodLink RX5 65 yX5_in, .static yX5_in, .initialized RX5, .code yX5_in cX5_in 3 (some .boolean)] ++ wsX50)
def wsX5_pilot : List Cond := .code yX5_pilot cX5_pilot 4 (some .int) :: ([.fieldLink RX5 68 "HarbourPilotlineModel" "pilots" "I", .fieldLink RX5 59 "HarbourPilotlineModel" "thrown" "I", .fieldLink RX5 35 "HarbourPilotlineModel" "licence" "[I", .fieldLink RX5 38 "HarbourPilotlineModel" "rate" "[I", .methodLink RX5 65 yX5_in, .static yX5_in, .initialized RX5, .code yX5_in cX5_in 3 (some .boolean)] ++ wsX50)
def wsX5_levelAt : List Cond := .code yX5_levelAt cX5_levelAt 3 (some .int) :: ([.fieldLink RX5 13 "HarbourPilotlineModel" "rise" "I"] ++ wsX50)
def wsX5_tideDoes : List Cond := .code yX5_tideDoes cX5_tideDoes 7 (some .boolean) :: ([.fieldLink RX5 26 "HarbourPilotlineModel" "takes" "[I", .fieldLink RX5 7 "HarbourPilotlineModel" "depth" "I", .fieldLink RX5 19 "HarbourPilotlineModel" "draught" "[I", .methodLink RX5 74 yX5_levelAt, .instanceMethod yX5_levelAt, .selects RX5 yX5_levelAt yX5_levelAt, .initialized RX5, .code yX5_levelAt cX5_levelAt 3 (some .int), .fieldLink RX5 13 "HarbourPilotlineModel" "rise" "I"] ++ wsX50)
def wsX5_over : List Cond := .code yX5_over cX5_over 2 (some .int) :: ([.fieldLink RX5 56 "HarbourPilotlineModel" "slot" "[I", .fieldLink RX5 26 "HarbourPilotlineModel" "takes" "[I", .fieldLink RX5 41 "HarbourPilotlineModel" "ship" "[I"] ++ wsX50)
def wsX5_rest : List Cond := .code yX5_rest cX5_rest 1 (some .int) :: ([])
def wsX5_hasSlot : List Cond := .code yX5_hasSlot cX5_hasSlot 2 (some .boolean) :: ([.fieldLink RX5 53 "HarbourPilotlineModel" "state" "[I"] ++ wsX50)
def wsX5_pilotDoes : List Cond := .code yX5_pilotDoes cX5_pilotDoes 7 (some .boolean) :: ([.fieldLink RX5 26 "HarbourPilotlineModel" "takes" "[I", .fieldLink RX5 41 "HarbourPilotlineModel" "ship" "[I", .fieldLink RX5 71 "HarbourPilotlineModel" "conferences" "I", .fieldLink RX5 50 "HarbourPilotlineModel" "pilot" "[I", .fieldLink RX5 56 "HarbourPilotlineModel" "slot" "[I", .methodLink RX5 78 yX5_hasSlot, .instanceMethod yX5_hasSlot, .selects RX5 yX5_hasSlot yX5_hasSlot, .initialized RX5, .code yX5_hasSlot cX5_hasSlot 2 (some .boolean), .fieldLink RX5 53 "HarbourPilotlineModel" "state" "[I", .methodLink RX5 82 yX5_over, .instanceMethod yX5_over, .selects RX5 yX5_over yX5_over, .code yX5_over cX5_over 2 (some .int), .methodLink RX5 85 yX5_rest, .static yX5_rest, .code yX5_rest cX5_rest 1 (some .int)] ++ wsX50)
def wsX5_tugsIn : List Cond := .code yX5_tugsIn cX5_tugsIn 5 (some .int) :: ([.fieldLink RX5 71 "HarbourPilotlineModel" "conferences" "I", .fieldLink RX5 56 "HarbourPilotlineModel" "slot" "[I", .fieldLink RX5 29 "HarbourPilotlineModel" "needs" "[I", .fieldLink RX5 41 "HarbourPilotlineModel" "ship" "[I", .methodLink RX5 78 yX5_hasSlot, .instanceMethod yX5_hasSlot, .selects RX5 yX5_hasSlot yX5_hasSlot, .initialized RX5, .code yX5_hasSlot cX5_hasSlot 2 (some .boolean), .fieldLink RX5 53 "HarbourPilotlineModel" "state" "[I", .methodLink RX5 82 yX5_over, .instanceMethod yX5_over, .selects RX5 yX5_over yX5_over, .code yX5_over cX5_over 2 (some .int), .fieldLink RX5 26 "HarbourPilotlineModel" "takes" "[I", .methodLink RX5 65 yX5_in, .static yX5_in, .code yX5_in cX5_in 3 (some .boolean)] ++ wsX50)
def wsX5_tugsDo : List Cond := .code yX5_tugsDo cX5_tugsDo 5 (some .boolean) :: ([.fieldLink RX5 26 "HarbourPilotlineModel" "takes" "[I", .fieldLink RX5 41 "HarbourPilotlineModel" "ship" "[I", .fieldLink RX5 29 "HarbourPilotlineModel" "needs" "[I", .fieldLink RX5 16 "HarbourPilotlineModel" "tugs" "I", .methodLink RX5 88 yX5_tugsIn, .instanceMethod yX5_tugsIn, .selects RX5 yX5_tugsIn yX5_tugsIn, .initialized RX5, .code yX5_tugsIn cX5_tugsIn 5 (some .int), .fieldLink RX5 71 "HarbourPilotlineModel" "conferences" "I", .fieldLink RX5 56 "HarbourPilotlineModel" "slot" "[I", .methodLink RX5 78 yX5_hasSlot, .instanceMethod yX5_hasSlot, .selects RX5 yX5_hasSlot yX5_hasSlot, .code yX5_hasSlot cX5_hasSlot 2 (some .boolean), .fieldLink RX5 53 "HarbourPilotlineModel" "state" "[I", .methodLink RX5 82 yX5_over, .instanceMethod yX5_over, .selects RX5 yX5_over yX5_over, .code yX5_over cX5_over 2 (some .int), .methodLink RX5 65 yX5_in, .static yX5_in, .code yX5_in cX5_in 3 (some .boolean)] ++ wsX50)
def wsX5_channelDoes : List Cond := .code yX5_channelDoes cX5_channelDoes 5 (some .boolean) :: ([.fieldLink RX5 71 "HarbourPilotlineModel" "conferences" "I", .fieldLink RX5 56 "HarbourPilotlineModel" "slot" "[I", .methodLink RX5 78 yX5_hasSlot, .instanceMethod yX5_hasSlot, .selects RX5 yX5_hasSlot yX5_hasSlot, .initialized RX5, .code yX5_hasSlot cX5_hasSlot 2 (some .boolean), .fieldLink RX5 53 "HarbourPilotlineModel" "state" "[I"] ++ wsX50)
def wsX5_looks_r1 : List Cond := [Cond.fieldLink RX5 44 "HarbourPilotlineModel" "wish" "[I", Cond.fieldLink RX5 92 "HarbourPilotlineModel" "now" "I", Cond.fieldLink RX5 41 "HarbourPilotlineModel" "ship" "[I", Cond.fieldLink RX5 56 "HarbourPilotlineModel" "slot" "[I", Cond.fieldLink RX5 53 "HarbourPilotlineModel" "state" "[I", Cond.methodLink RX5 95 yX5_tideDoes, Cond.instanceMethod yX5_tideDoes, Cond.selects RX5 yX5_tideDoes yX5_tideDoes, Cond.initialized RX5, Cond.code yX5_tideDoes cX5_tideDoes 7 (some .boolean), Cond.fieldLink RX5 26 "HarbourPilotlineModel" "takes" "[I", Cond.fieldLink RX5 7 "HarbourPilotlineModel" "depth" "I", Cond.fieldLink RX5 19 "HarbourPilotlineModel" "draught" "[I", Cond.methodLink RX5 74 yX5_levelAt, Cond.instanceMethod yX5_levelAt, Cond.selects RX5 yX5_levelAt yX5_levelAt, Cond.code yX5_levelAt cX5_levelAt 3 (some .int), Cond.fieldLink RX5 13 "HarbourPilotlineModel" "rise" "I", Cond.methodLink RX5 99 yX5_channelDoes, Cond.instanceMethod yX5_channelDoes, Cond.selects RX5 yX5_channelDoes yX5_channelDoes, Cond.code yX5_channelDoes cX5_channelDoes 5 (some .boolean), Cond.fieldLink RX5 71 "HarbourPilotlineModel" "conferences" "I", Cond.methodLink RX5 78 yX5_hasSlot]
def wsX5_looks_r2 : List Cond := [Cond.instanceMethod yX5_hasSlot, Cond.selects RX5 yX5_hasSlot yX5_hasSlot, Cond.code yX5_hasSlot cX5_hasSlot 2 (some .boolean), Cond.methodLink RX5 102 yX5_pilotDoes, Cond.instanceMethod yX5_pilotDoes, Cond.selects RX5 yX5_pilotDoes yX5_pilotDoes, Cond.code yX5_pilotDoes cX5_pilotDoes 7 (some .boolean), Cond.fieldLink RX5 50 "HarbourPilotlineModel" "pilot" "[I", Cond.methodLink RX5 82 yX5_over, Cond.instanceMethod yX5_over, Cond.selects RX5 yX5_over yX5_over, Cond.code yX5_over cX5_over 2 (some .int), Cond.methodLink RX5 85 yX5_rest, Cond.static yX5_rest, Cond.code yX5_rest cX5_rest 1 (some .int), Cond.methodLink RX5 105 yX5_tugsDo, Cond.instanceMethod yX5_tugsDo, Cond.selects RX5 yX5_tugsDo yX5_tugsDo, Cond.code yX5_tugsDo cX5_tugsDo 5 (some .boolean), Cond.fieldLink RX5 29 "HarbourPilotlineModel" "needs" "[I", Cond.fieldLink RX5 16 "HarbourPilotlineModel" "tugs" "I", Cond.methodLink RX5 88 yX5_tugsIn, Cond.instanceMethod yX5_tugsIn, Cond.selects RX5 yX5_tugsIn yX5_tugsIn]
def wsX5_looks_r3 : List Cond := [Cond.code yX5_tugsIn cX5_tugsIn 5 (some .int), Cond.methodLink RX5 65 yX5_in, Cond.static yX5_in, Cond.code yX5_in cX5_in 3 (some .boolean)]
def wsX5_looks : List Cond := .code yX5_looks cX5_looks 6 none :: ((wsX5_looks_r1 ++ (wsX5_looks_r2 ++ wsX5_looks_r3)) ++ wsX50)
def wsX5_call : List Cond := .code yX5_call cX5_call 3 (some .int) :: ([.fieldLink RX5 92 "HarbourPilotlineModel" "now" "I", .fieldLink RX5 71 "HarbourPilotlineModel" "conferences" "I", .fieldLink RX5 59 "HarbourPilotlineModel" "thrown" "I", .fieldLink RX5 41 "HarbourPilotlineModel" "ship" "[I", .fieldLink RX5 44 "HarbourPilotlineModel" "wish" "[I", .fieldLink RX5 50 "HarbourPilotlineModel" "pilot" "[I", .fieldLink RX5 56 "HarbourPilotlineModel" "slot" "[I", .fieldLink RX5 53 "HarbourPilotlineModel" "state" "[I", .methodLink RX5 108 yX5_isShip, .instanceMethod yX5_isShip, .selects RX5 yX5_isShip yX5_isShip, .initialized RX5, .code yX5_isShip cX5_isShip 2 (some .boolean), .fieldLink RX5 62 "HarbourPilotlineModel" "ships" "I", .methodLink RX5 65 yX5_in, .static yX5_in, .code yX5_in cX5_in 3 (some .boolean)] ++ wsX50)
def wsX5_isIn : List Cond := .code yX5_isIn cX5_isIn 3 (some .boolean) :: ([.fieldLink RX5 47 "HarbourPilotlineModel" "in" "[I"] ++ wsX50)
def wsX5_join_r1 : List Cond := [Cond.fieldLink RX5 59 "HarbourPilotlineModel" "thrown" "I", Cond.fieldLink RX5 35 "HarbourPilotlineModel" "licence" "[I", Cond.fieldLink RX5 23 "HarbourPilotlineModel" "tons" "[I", Cond.fieldLink RX5 41 "HarbourPilotlineModel" "ship" "[I", Cond.fieldLink RX5 47 "HarbourPilotlineModel" "in" "[I", Cond.fieldLink RX5 50 "HarbourPilotlineModel" "pilot" "[I", Cond.fieldLink RX5 56 "HarbourPilotlineModel" "slot" "[I", Cond.methodLink RX5 111 yX5_isConference, Cond.instanceMethod yX5_isConference, Cond.selects RX5 yX5_isConference yX5_isConference, Cond.initialized RX5, Cond.code yX5_isConference cX5_isConference 2 (some .boolean), Cond.fieldLink RX5 71 "HarbourPilotlineModel" "conferences" "I", Cond.methodLink RX5 65 yX5_in, Cond.static yX5_in, Cond.code yX5_in cX5_in 3 (some .boolean), Cond.methodLink RX5 114 yX5_isPilot, Cond.instanceMethod yX5_isPilot, Cond.selects RX5 yX5_isPilot yX5_isPilot, Cond.code yX5_isPilot cX5_isPilot 2 (some .boolean), Cond.fieldLink RX5 68 "HarbourPilotlineModel" "pilots" "I", Cond.methodLink RX5 117 yX5_isIn, Cond.instanceMethod yX5_isIn, Cond.selects RX5 yX5_isIn yX5_isIn]
def wsX5_join_r2 : List Cond := [Cond.code yX5_isIn cX5_isIn 3 (some .boolean), Cond.methodLink RX5 120 yX5_looks, Cond.instanceMethod yX5_looks, Cond.selects RX5 yX5_looks yX5_looks, Cond.code yX5_looks cX5_looks 6 none, Cond.fieldLink RX5 44 "HarbourPilotlineModel" "wish" "[I", Cond.fieldLink RX5 92 "HarbourPilotlineModel" "now" "I", Cond.fieldLink RX5 53 "HarbourPilotlineModel" "state" "[I", Cond.methodLink RX5 95 yX5_tideDoes, Cond.instanceMethod yX5_tideDoes, Cond.selects RX5 yX5_tideDoes yX5_tideDoes, Cond.code yX5_tideDoes cX5_tideDoes 7 (some .boolean), Cond.fieldLink RX5 26 "HarbourPilotlineModel" "takes" "[I", Cond.fieldLink RX5 7 "HarbourPilotlineModel" "depth" "I", Cond.fieldLink RX5 19 "HarbourPilotlineModel" "draught" "[I", Cond.methodLink RX5 74 yX5_levelAt, Cond.instanceMethod yX5_levelAt, Cond.selects RX5 yX5_levelAt yX5_levelAt, Cond.code yX5_levelAt cX5_levelAt 3 (some .int), Cond.fieldLink RX5 13 "HarbourPilotlineModel" "rise" "I", Cond.methodLink RX5 99 yX5_channelDoes, Cond.instanceMethod yX5_channelDoes, Cond.selects RX5 yX5_channelDoes yX5_channelDoes, Cond.code yX5_channelDoes cX5_channelDoes 5 (some .boolean)]
def wsX5_join_r3 : List Cond := [Cond.methodLink RX5 78 yX5_hasSlot, Cond.instanceMethod yX5_hasSlot, Cond.selects RX5 yX5_hasSlot yX5_hasSlot, Cond.code yX5_hasSlot cX5_hasSlot 2 (some .boolean), Cond.methodLink RX5 102 yX5_pilotDoes, Cond.instanceMethod yX5_pilotDoes, Cond.selects RX5 yX5_pilotDoes yX5_pilotDoes, Cond.code yX5_pilotDoes cX5_pilotDoes 7 (some .boolean), Cond.methodLink RX5 82 yX5_over, Cond.instanceMethod yX5_over, Cond.selects RX5 yX5_over yX5_over, Cond.code yX5_over cX5_over 2 (some .int), Cond.methodLink RX5 85 yX5_rest, Cond.static yX5_rest, Cond.code yX5_rest cX5_rest 1 (some .int), Cond.methodLink RX5 105 yX5_tugsDo, Cond.instanceMethod yX5_tugsDo, Cond.selects RX5 yX5_tugsDo yX5_tugsDo, Cond.code yX5_tugsDo cX5_tugsDo 5 (some .boolean), Cond.fieldLink RX5 29 "HarbourPilotlineModel" "needs" "[I", Cond.fieldLink RX5 16 "HarbourPilotlineModel" "tugs" "I", Cond.methodLink RX5 88 yX5_tugsIn, Cond.instanceMethod yX5_tugsIn, Cond.selects RX5 yX5_tugsIn yX5_tugsIn]
def wsX5_join_r4 : List Cond := [Cond.code yX5_tugsIn cX5_tugsIn 5 (some .int)]
def wsX5_join : List Cond := .code yX5_join cX5_join 6 (some .int) :: ((wsX5_join_r1 ++ (wsX5_join_r2 ++ (wsX5_join_r3 ++ wsX5_join_r4))) ++ wsX50)
def wsX5_again_r1 : List Cond := [Cond.fieldLink RX5 53 "HarbourPilotlineModel" "state" "[I", Cond.fieldLink RX5 59 "HarbourPilotlineModel" "thrown" "I", Cond.fieldLink RX5 56 "HarbourPilotlineModel" "slot" "[I", Cond.methodLink RX5 111 yX5_isConference, Cond.instanceMethod yX5_isConference, Cond.selects RX5 yX5_isConference yX5_isConference, Cond.initialized RX5, Cond.code yX5_isConference cX5_isConference 2 (some .boolean), Cond.fieldLink RX5 71 "HarbourPilotlineModel" "conferences" "I", Cond.methodLink RX5 65 yX5_in, Cond.static yX5_in, Cond.code yX5_in cX5_in 3 (some .boolean), Cond.methodLink RX5 120 yX5_looks, Cond.instanceMethod yX5_looks, Cond.selects RX5 yX5_looks yX5_looks, Cond.code yX5_looks cX5_looks 6 none, Cond.fieldLink RX5 44 "HarbourPilotlineModel" "wish" "[I", Cond.fieldLink RX5 92 "HarbourPilotlineModel" "now" "I", Cond.fieldLink RX5 41 "HarbourPilotlineModel" "ship" "[I", Cond.methodLink RX5 95 yX5_tideDoes, Cond.instanceMethod yX5_tideDoes, Cond.selects RX5 yX5_tideDoes yX5_tideDoes, Cond.code yX5_tideDoes cX5_tideDoes 7 (some .boolean), Cond.fieldLink RX5 26 "HarbourPilotlineModel" "takes" "[I"]
def wsX5_again_r2 : List Cond := [Cond.fieldLink RX5 7 "HarbourPilotlineModel" "depth" "I", Cond.fieldLink RX5 19 "HarbourPilotlineModel" "draught" "[I", Cond.methodLink RX5 74 yX5_levelAt, Cond.instanceMethod yX5_levelAt, Cond.selects RX5 yX5_levelAt yX5_levelAt, Cond.code yX5_levelAt cX5_levelAt 3 (some .int), Cond.fieldLink RX5 13 "HarbourPilotlineModel" "rise" "I", Cond.methodLink RX5 99 yX5_channelDoes, Cond.instanceMethod yX5_channelDoes, Cond.selects RX5 yX5_channelDoes yX5_channelDoes, Cond.code yX5_channelDoes cX5_channelDoes 5 (some .boolean), Cond.methodLink RX5 78 yX5_hasSlot, Cond.instanceMethod yX5_hasSlot, Cond.selects RX5 yX5_hasSlot yX5_hasSlot, Cond.code yX5_hasSlot cX5_hasSlot 2 (some .boolean), Cond.methodLink RX5 102 yX5_pilotDoes, Cond.instanceMethod yX5_pilotDoes, Cond.selects RX5 yX5_pilotDoes yX5_pilotDoes, Cond.code yX5_pilotDoes cX5_pilotDoes 7 (some .boolean), Cond.fieldLink RX5 50 "HarbourPilotlineModel" "pilot" "[I", Cond.methodLink RX5 82 yX5_over, Cond.instanceMethod yX5_over, Cond.selects RX5 yX5_over yX5_over, Cond.code yX5_over cX5_over 2 (some .int)]
def wsX5_again_r3 : List Cond := [Cond.methodLink RX5 85 yX5_rest, Cond.static yX5_rest, Cond.code yX5_rest cX5_rest 1 (some .int), Cond.methodLink RX5 105 yX5_tugsDo, Cond.instanceMethod yX5_tugsDo, Cond.selects RX5 yX5_tugsDo yX5_tugsDo, Cond.code yX5_tugsDo cX5_tugsDo 5 (some .boolean), Cond.fieldLink RX5 29 "HarbourPilotlineModel" "needs" "[I", Cond.fieldLink RX5 16 "HarbourPilotlineModel" "tugs" "I", Cond.methodLink RX5 88 yX5_tugsIn, Cond.instanceMethod yX5_tugsIn, Cond.selects RX5 yX5_tugsIn yX5_tugsIn, Cond.code yX5_tugsIn cX5_tugsIn 5 (some .int)]
def wsX5_again : List Cond := .code yX5_again cX5_again 2 (some .int) :: ((wsX5_again_r1 ++ (wsX5_again_r2 ++ wsX5_again_r3)) ++ wsX50)
def wsX5_looksAnew_r1 : List Cond := [Cond.fieldLink RX5 56 "HarbourPilotlineModel" "slot" "[I", Cond.fieldLink RX5 53 "HarbourPilotlineModel" "state" "[I", Cond.methodLink RX5 120 yX5_looks, Cond.instanceMethod yX5_looks, Cond.selects RX5 yX5_looks yX5_looks, Cond.initialized RX5, Cond.code yX5_looks cX5_looks 6 none, Cond.fieldLink RX5 44 "HarbourPilotlineModel" "wish" "[I", Cond.fieldLink RX5 92 "HarbourPilotlineModel" "now" "I", Cond.fieldLink RX5 41 "HarbourPilotlineModel" "ship" "[I", Cond.methodLink RX5 95 yX5_tideDoes, Cond.instanceMethod yX5_tideDoes, Cond.selects RX5 yX5_tideDoes yX5_tideDoes, Cond.code yX5_tideDoes cX5_tideDoes 7 (some .boolean), Cond.fieldLink RX5 26 "HarbourPilotlineModel" "takes" "[I", Cond.fieldLink RX5 7 "HarbourPilotlineModel" "depth" "I", Cond.fieldLink RX5 19 "HarbourPilotlineModel" "draught" "[I", Cond.methodLink RX5 74 yX5_levelAt, Cond.instanceMethod yX5_levelAt, Cond.selects RX5 yX5_levelAt yX5_levelAt, Cond.code yX5_levelAt cX5_levelAt 3 (some .int), Cond.fieldLink RX5 13 "HarbourPilotlineModel" "rise" "I", Cond.methodLink RX5 99 yX5_channelDoes, Cond.instanceMethod yX5_channelDoes]
def wsX5_looksAnew_r2 : List Cond := [Cond.selects RX5 yX5_channelDoes yX5_channelDoes, Cond.code yX5_channelDoes cX5_channelDoes 5 (some .boolean), Cond.fieldLink RX5 71 "HarbourPilotlineModel" "conferences" "I", Cond.methodLink RX5 78 yX5_hasSlot, Cond.instanceMethod yX5_hasSlot, Cond.selects RX5 yX5_hasSlot yX5_hasSlot, Cond.code yX5_hasSlot cX5_hasSlot 2 (some .boolean), Cond.methodLink RX5 102 yX5_pilotDoes, Cond.instanceMethod yX5_pilotDoes, Cond.selects RX5 yX5_pilotDoes yX5_pilotDoes, Cond.code yX5_pilotDoes cX5_pilotDoes 7 (some .boolean), Cond.fieldLink RX5 50 "HarbourPilotlineModel" "pilot" "[I", Cond.methodLink RX5 82 yX5_over, Cond.instanceMethod yX5_over, Cond.selects RX5 yX5_over yX5_over, Cond.code yX5_over cX5_over 2 (some .int), Cond.methodLink RX5 85 yX5_rest, Cond.static yX5_rest, Cond.code yX5_rest cX5_rest 1 (some .int), Cond.methodLink RX5 105 yX5_tugsDo, Cond.instanceMethod yX5_tugsDo, Cond.selects RX5 yX5_tugsDo yX5_tugsDo, Cond.code yX5_tugsDo cX5_tugsDo 5 (some .boolean), Cond.fieldLink RX5 29 "HarbourPilotlineModel" "needs" "[I"]
def wsX5_looksAnew_r3 : List Cond := [Cond.fieldLink RX5 16 "HarbourPilotlineModel" "tugs" "I", Cond.methodLink RX5 88 yX5_tugsIn, Cond.instanceMethod yX5_tugsIn, Cond.selects RX5 yX5_tugsIn yX5_tugsIn, Cond.code yX5_tugsIn cX5_tugsIn 5 (some .int), Cond.methodLink RX5 65 yX5_in, Cond.static yX5_in, Cond.code yX5_in cX5_in 3 (some .boolean)]
def wsX5_looksAnew : List Cond := .code yX5_looksAnew cX5_looksAnew 3 (some .boolean) :: ((wsX5_looksAnew_r1 ++ (wsX5_looksAnew_r2 ++ wsX5_looksAnew_r3)) ++ wsX50)
def wsX5_drop_r1 : List Cond := [Cond.fieldLink RX5 59 "HarbourPilotlineModel" "thrown" "I", Cond.fieldLink RX5 53 "HarbourPilotlineModel" "state" "[I", Cond.fieldLink RX5 47 "HarbourPilotlineModel" "in" "[I", Cond.fieldLink RX5 50 "HarbourPilotlineModel" "pilot" "[I", Cond.fieldLink RX5 56 "HarbourPilotlineModel" "slot" "[I", Cond.fieldLink RX5 71 "HarbourPilotlineModel" "conferences" "I", Cond.fieldLink RX5 127 "HarbourPilotlineModel" "moved" "I", Cond.methodLink RX5 111 yX5_isConference, Cond.instanceMethod yX5_isConference, Cond.selects RX5 yX5_isConference yX5_isConference, Cond.initialized RX5, Cond.code yX5_isConference cX5_isConference 2 (some .boolean), Cond.methodLink RX5 65 yX5_in, Cond.static yX5_in, Cond.code yX5_in cX5_in 3 (some .boolean), Cond.methodLink RX5 117 yX5_isIn, Cond.instanceMethod yX5_isIn, Cond.selects RX5 yX5_isIn yX5_isIn, Cond.code yX5_isIn cX5_isIn 3 (some .boolean), Cond.methodLink RX5 124 yX5_looksAnew, Cond.instanceMethod yX5_looksAnew, Cond.selects RX5 yX5_looksAnew yX5_looksAnew, Cond.code yX5_looksAnew cX5_looksAnew 3 (some .boolean), Cond.methodLink RX5 120 yX5_looks]
def wsX5_drop_r2 : List Cond := [Cond.instanceMethod yX5_looks, Cond.selects RX5 yX5_looks yX5_looks, Cond.code yX5_looks cX5_looks 6 none, Cond.fieldLink RX5 44 "HarbourPilotlineModel" "wish" "[I", Cond.fieldLink RX5 92 "HarbourPilotlineModel" "now" "I", Cond.fieldLink RX5 41 "HarbourPilotlineModel" "ship" "[I", Cond.methodLink RX5 95 yX5_tideDoes, Cond.instanceMethod yX5_tideDoes, Cond.selects RX5 yX5_tideDoes yX5_tideDoes, Cond.code yX5_tideDoes cX5_tideDoes 7 (some .boolean), Cond.fieldLink RX5 26 "HarbourPilotlineModel" "takes" "[I", Cond.fieldLink RX5 7 "HarbourPilotlineModel" "depth" "I", Cond.fieldLink RX5 19 "HarbourPilotlineModel" "draught" "[I", Cond.methodLink RX5 74 yX5_levelAt, Cond.instanceMethod yX5_levelAt, Cond.selects RX5 yX5_levelAt yX5_levelAt, Cond.code yX5_levelAt cX5_levelAt 3 (some .int), Cond.fieldLink RX5 13 "HarbourPilotlineModel" "rise" "I", Cond.methodLink RX5 99 yX5_channelDoes, Cond.instanceMethod yX5_channelDoes, Cond.selects RX5 yX5_channelDoes yX5_channelDoes, Cond.code yX5_channelDoes cX5_channelDoes 5 (some .boolean), Cond.methodLink RX5 78 yX5_hasSlot, Cond.instanceMethod yX5_hasSlot]
def wsX5_drop_r3 : List Cond := [Cond.selects RX5 yX5_hasSlot yX5_hasSlot, Cond.code yX5_hasSlot cX5_hasSlot 2 (some .boolean), Cond.methodLink RX5 102 yX5_pilotDoes, Cond.instanceMethod yX5_pilotDoes, Cond.selects RX5 yX5_pilotDoes yX5_pilotDoes, Cond.code yX5_pilotDoes cX5_pilotDoes 7 (some .boolean), Cond.methodLink RX5 82 yX5_over, Cond.instanceMethod yX5_over, Cond.selects RX5 yX5_over yX5_over, Cond.code yX5_over cX5_over 2 (some .int), Cond.methodLink RX5 85 yX5_rest, Cond.static yX5_rest, Cond.code yX5_rest cX5_rest 1 (some .int), Cond.methodLink RX5 105 yX5_tugsDo, Cond.instanceMethod yX5_tugsDo, Cond.selects RX5 yX5_tugsDo yX5_tugsDo, Cond.code yX5_tugsDo cX5_tugsDo 5 (some .boolean), Cond.fieldLink RX5 29 "HarbourPilotlineModel" "needs" "[I", Cond.fieldLink RX5 16 "HarbourPilotlineModel" "tugs" "I", Cond.methodLink RX5 88 yX5_tugsIn, Cond.instanceMethod yX5_tugsIn, Cond.selects RX5 yX5_tugsIn yX5_tugsIn, Cond.code yX5_tugsIn cX5_tugsIn 5 (some .int)]
def wsX5_drop : List Cond := .code yX5_drop cX5_drop 6 (some .int) :: ((wsX5_drop_r1 ++ (wsX5_drop_r2 ++ wsX5_drop_r3)) ++ wsX50)
def wsX5_billOf : List Cond := .code yX5_billOf cX5_billOf 2 (some .int) :: ([.fieldLink RX5 26 "HarbourPilotlineModel" "takes" "[I", .fieldLink RX5 41 "HarbourPilotlineModel" "ship" "[I", .fieldLink RX5 38 "HarbourPilotlineModel" "rate" "[I", .fieldLink RX5 50 "HarbourPilotlineModel" "pilot" "[I", .fieldLink RX5 29 "HarbourPilotlineModel" "needs" "[I"] ++ wsX50)
def wsX5_passesOne : List Cond := .code yX5_passesOne cX5_passesOne 3 (some .int) :: ([.fieldLink RX5 92 "HarbourPilotlineModel" "now" "I", .fieldLink RX5 71 "HarbourPilotlineModel" "conferences" "I", .fieldLink RX5 53 "HarbourPilotlineModel" "state" "[I", .fieldLink RX5 56 "HarbourPilotlineModel" "slot" "[I", .fieldLink RX5 32 "HarbourPilotlineModel" "owes" "[I", .fieldLink RX5 41 "HarbourPilotlineModel" "ship" "[I", .methodLink RX5 82 yX5_over, .instanceMethod yX5_over, .selects RX5 yX5_over yX5_over, .initialized RX5, .code yX5_over cX5_over 2 (some .int), .fieldLink RX5 26 "HarbourPilotlineModel" "takes" "[I", .methodLink RX5 130 yX5_billOf, .instanceMethod yX5_billOf, .selects RX5 yX5_billOf yX5_billOf, .code yX5_billOf cX5_billOf 2 (some .int), .fieldLink RX5 38 "HarbourPilotlineModel" "rate" "[I", .fieldLink RX5 50 "HarbourPilotlineModel" "pilot" "[I", .fieldLink RX5 29 "HarbourPilotlineModel" "needs" "[I"] ++ wsX50)
def wsX5_pass_r1 : List Cond := [Cond.fieldLink RX5 92 "HarbourPilotlineModel" "now" "I", Cond.fieldLink RX5 59 "HarbourPilotlineModel" "thrown" "I", Cond.methodLink RX5 65 yX5_in, Cond.static yX5_in, Cond.initialized RX5, Cond.code yX5_in cX5_in 3 (some .boolean), Cond.methodLink RX5 133 yX5_passesOne, Cond.instanceMethod yX5_passesOne, Cond.selects RX5 yX5_passesOne yX5_passesOne, Cond.code yX5_passesOne cX5_passesOne 3 (some .int), Cond.fieldLink RX5 71 "HarbourPilotlineModel" "conferences" "I", Cond.fieldLink RX5 53 "HarbourPilotlineModel" "state" "[I", Cond.fieldLink RX5 56 "HarbourPilotlineModel" "slot" "[I", Cond.fieldLink RX5 32 "HarbourPilotlineModel" "owes" "[I", Cond.fieldLink RX5 41 "HarbourPilotlineModel" "ship" "[I", Cond.methodLink RX5 82 yX5_over, Cond.instanceMethod yX5_over, Cond.selects RX5 yX5_over yX5_over, Cond.code yX5_over cX5_over 2 (some .int), Cond.fieldLink RX5 26 "HarbourPilotlineModel" "takes" "[I", Cond.methodLink RX5 130 yX5_billOf, Cond.instanceMethod yX5_billOf, Cond.selects RX5 yX5_billOf yX5_billOf, Cond.code yX5_billOf cX5_billOf 2 (some .int)]
def wsX5_pass_r2 : List Cond := [Cond.fieldLink RX5 38 "HarbourPilotlineModel" "rate" "[I", Cond.fieldLink RX5 50 "HarbourPilotlineModel" "pilot" "[I", Cond.fieldLink RX5 29 "HarbourPilotlineModel" "needs" "[I"]
def wsX5_pass : List Cond := .code yX5_pass cX5_pass 4 (some .int) :: ((wsX5_pass_r1 ++ wsX5_pass_r2) ++ wsX50)
def wsX5_minute : List Cond := .code yX5_minute cX5_minute 1 (some .int) :: ([.fieldLink RX5 59 "HarbourPilotlineModel" "thrown" "I", .fieldLink RX5 92 "HarbourPilotlineModel" "now" "I"] ++ wsX50)
def wsX5_level : List Cond := .code yX5_level cX5_level 2 (some .int) :: ([.fieldLink RX5 59 "HarbourPilotlineModel" "thrown" "I", .methodLink RX5 65 yX5_in, .static yX5_in, .initialized RX5, .code yX5_in cX5_in 3 (some .boolean), .methodLink RX5 74 yX5_levelAt, .instanceMethod yX5_levelAt, .selects RX5 yX5_levelAt yX5_levelAt, .code yX5_levelAt cX5_levelAt 3 (some .int), .fieldLink RX5 13 "HarbourPilotlineModel" "rise" "I"] ++ wsX50)
def wsX5_window : List Cond := .code yX5_window cX5_window 5 (some .int) :: ([.fieldLink RX5 59 "HarbourPilotlineModel" "thrown" "I", .methodLink RX5 108 yX5_isShip, .instanceMethod yX5_isShip, .selects RX5 yX5_isShip yX5_isShip, .initialized RX5, .code yX5_isShip cX5_isShip 2 (some .boolean), .fieldLink RX5 62 "HarbourPilotlineModel" "ships" "I", .methodLink RX5 65 yX5_in, .static yX5_in, .code yX5_in cX5_in 3 (some .boolean), .methodLink RX5 95 yX5_tideDoes, .instanceMethod yX5_tideDoes, .selects RX5 yX5_tideDoes yX5_tideDoes, .code yX5_tideDoes cX5_tideDoes 7 (some .boolean), .fieldLink RX5 26 "HarbourPilotlineModel" "takes" "[I", .fieldLink RX5 7 "HarbourPilotlineModel" "depth" "I", .fieldLink RX5 19 "HarbourPilotlineModel" "draught" "[I", .methodLink RX5 74 yX5_levelAt, .instanceMethod yX5_levelAt, .selects RX5 yX5_levelAt yX5_levelAt, .code yX5_levelAt cX5_levelAt 3 (some .int), .fieldLink RX5 13 "HarbourPilotlineModel" "rise" "I"] ++ wsX50)
def wsX5_many : List Cond := .code yX5_many cX5_many 1 (some .int) :: ([])
def wsX5_ofConference : List Cond := .code yX5_ofConference cX5_ofConference 3 (some .int) :: ([.fieldLink RX5 59 "HarbourPilotlineModel" "thrown" "I", .fieldLink RX5 53 "HarbourPilotlineModel" "state" "[I", .fieldLink RX5 56 "HarbourPilotlineModel" "slot" "[I", .fieldLink RX5 50 "HarbourPilotlineModel" "pilot" "[I", .fieldLink RX5 47 "HarbourPilotlineModel" "in" "[I", .fieldLink RX5 41 "HarbourPilotlineModel" "ship" "[I", .methodLink RX5 111 yX5_isConference, .instanceMethod yX5_isConference, .selects RX5 yX5_isConference yX5_isConference, .initialized RX5, .code yX5_isConference cX5_isConference 2 (some .boolean), .fieldLink RX5 71 "HarbourPilotlineModel" "conferences" "I", .methodLink RX5 65 yX5_in, .static yX5_in, .code yX5_in cX5_in 3 (some .boolean), .methodLink RX5 137 yX5_many, .static yX5_many, .code yX5_many cX5_many 1 (some .int)] ++ wsX50)
def wsX5_why_r1 : List Cond := [Cond.fieldLink RX5 92 "HarbourPilotlineModel" "now" "I", Cond.fieldLink RX5 50 "HarbourPilotlineModel" "pilot" "[I", Cond.fieldLink RX5 59 "HarbourPilotlineModel" "thrown" "I", Cond.fieldLink RX5 41 "HarbourPilotlineModel" "ship" "[I", Cond.methodLink RX5 111 yX5_isConference, Cond.instanceMethod yX5_isConference, Cond.selects RX5 yX5_isConference yX5_isConference, Cond.initialized RX5, Cond.code yX5_isConference cX5_isConference 2 (some .boolean), Cond.fieldLink RX5 71 "HarbourPilotlineModel" "conferences" "I", Cond.methodLink RX5 65 yX5_in, Cond.static yX5_in, Cond.code yX5_in cX5_in 3 (some .boolean), Cond.methodLink RX5 95 yX5_tideDoes, Cond.instanceMethod yX5_tideDoes, Cond.selects RX5 yX5_tideDoes yX5_tideDoes, Cond.code yX5_tideDoes cX5_tideDoes 7 (some .boolean), Cond.fieldLink RX5 26 "HarbourPilotlineModel" "takes" "[I", Cond.fieldLink RX5 7 "HarbourPilotlineModel" "depth" "I", Cond.fieldLink RX5 19 "HarbourPilotlineModel" "draught" "[I", Cond.methodLink RX5 74 yX5_levelAt, Cond.instanceMethod yX5_levelAt, Cond.selects RX5 yX5_levelAt yX5_levelAt, Cond.code yX5_levelAt cX5_levelAt 3 (some .int)]
def wsX5_why_r2 : List Cond := [Cond.fieldLink RX5 13 "HarbourPilotlineModel" "rise" "I", Cond.methodLink RX5 102 yX5_pilotDoes, Cond.instanceMethod yX5_pilotDoes, Cond.selects RX5 yX5_pilotDoes yX5_pilotDoes, Cond.code yX5_pilotDoes cX5_pilotDoes 7 (some .boolean), Cond.fieldLink RX5 56 "HarbourPilotlineModel" "slot" "[I", Cond.methodLink RX5 78 yX5_hasSlot, Cond.instanceMethod yX5_hasSlot, Cond.selects RX5 yX5_hasSlot yX5_hasSlot, Cond.code yX5_hasSlot cX5_hasSlot 2 (some .boolean), Cond.fieldLink RX5 53 "HarbourPilotlineModel" "state" "[I", Cond.methodLink RX5 82 yX5_over, Cond.instanceMethod yX5_over, Cond.selects RX5 yX5_over yX5_over, Cond.code yX5_over cX5_over 2 (some .int), Cond.methodLink RX5 85 yX5_rest, Cond.static yX5_rest, Cond.code yX5_rest cX5_rest 1 (some .int), Cond.methodLink RX5 105 yX5_tugsDo, Cond.instanceMethod yX5_tugsDo, Cond.selects RX5 yX5_tugsDo yX5_tugsDo, Cond.code yX5_tugsDo cX5_tugsDo 5 (some .boolean), Cond.fieldLink RX5 29 "HarbourPilotlineModel" "needs" "[I", Cond.fieldLink RX5 16 "HarbourPilotlineModel" "tugs" "I"]
def wsX5_why_r3 : List Cond := [Cond.methodLink RX5 88 yX5_tugsIn, Cond.instanceMethod yX5_tugsIn, Cond.selects RX5 yX5_tugsIn yX5_tugsIn, Cond.code yX5_tugsIn cX5_tugsIn 5 (some .int), Cond.methodLink RX5 99 yX5_channelDoes, Cond.instanceMethod yX5_channelDoes, Cond.selects RX5 yX5_channelDoes yX5_channelDoes, Cond.code yX5_channelDoes cX5_channelDoes 5 (some .boolean)]
def wsX5_why : List Cond := .code yX5_why cX5_why 3 (some .int) :: ((wsX5_why_r1 ++ (wsX5_why_r2 ++ wsX5_why_r3)) ++ wsX50)
def wsX5_rested_r1 : List Cond := [Cond.fieldLink RX5 59 "HarbourPilotlineModel" "thrown" "I", Cond.fieldLink RX5 92 "HarbourPilotlineModel" "now" "I", Cond.fieldLink RX5 71 "HarbourPilotlineModel" "conferences" "I", Cond.fieldLink RX5 50 "HarbourPilotlineModel" "pilot" "[I", Cond.fieldLink RX5 26 "HarbourPilotlineModel" "takes" "[I", Cond.fieldLink RX5 41 "HarbourPilotlineModel" "ship" "[I", Cond.methodLink RX5 114 yX5_isPilot, Cond.instanceMethod yX5_isPilot, Cond.selects RX5 yX5_isPilot yX5_isPilot, Cond.initialized RX5, Cond.code yX5_isPilot cX5_isPilot 2 (some .boolean), Cond.fieldLink RX5 68 "HarbourPilotlineModel" "pilots" "I", Cond.methodLink RX5 65 yX5_in, Cond.static yX5_in, Cond.code yX5_in cX5_in 3 (some .boolean), Cond.methodLink RX5 78 yX5_hasSlot, Cond.instanceMethod yX5_hasSlot, Cond.selects RX5 yX5_hasSlot yX5_hasSlot, Cond.code yX5_hasSlot cX5_hasSlot 2 (some .boolean), Cond.fieldLink RX5 53 "HarbourPilotlineModel" "state" "[I", Cond.methodLink RX5 82 yX5_over, Cond.instanceMethod yX5_over, Cond.selects RX5 yX5_over yX5_over, Cond.code yX5_over cX5_over 2 (some .int)]
def wsX5_rested_r2 : List Cond := [Cond.fieldLink RX5 56 "HarbourPilotlineModel" "slot" "[I", Cond.methodLink RX5 85 yX5_rest, Cond.static yX5_rest, Cond.code yX5_rest cX5_rest 1 (some .int)]
def wsX5_rested : List Cond := .code yX5_rested cX5_rested 5 (some .int) :: ((wsX5_rested_r1 ++ wsX5_rested_r2) ++ wsX50)
def wsX5_restedAnew_r1 : List Cond := [Cond.methodLink RX5 140 yX5_rested, Cond.instanceMethod yX5_rested, Cond.selects RX5 yX5_rested yX5_rested, Cond.initialized RX5, Cond.code yX5_rested cX5_rested 5 (some .int), Cond.fieldLink RX5 59 "HarbourPilotlineModel" "thrown" "I", Cond.fieldLink RX5 92 "HarbourPilotlineModel" "now" "I", Cond.fieldLink RX5 71 "HarbourPilotlineModel" "conferences" "I", Cond.fieldLink RX5 50 "HarbourPilotlineModel" "pilot" "[I", Cond.fieldLink RX5 26 "HarbourPilotlineModel" "takes" "[I", Cond.fieldLink RX5 41 "HarbourPilotlineModel" "ship" "[I", Cond.methodLink RX5 114 yX5_isPilot, Cond.instanceMethod yX5_isPilot, Cond.selects RX5 yX5_isPilot yX5_isPilot, Cond.code yX5_isPilot cX5_isPilot 2 (some .boolean), Cond.fieldLink RX5 68 "HarbourPilotlineModel" "pilots" "I", Cond.methodLink RX5 65 yX5_in, Cond.static yX5_in, Cond.code yX5_in cX5_in 3 (some .boolean), Cond.methodLink RX5 78 yX5_hasSlot, Cond.instanceMethod yX5_hasSlot, Cond.selects RX5 yX5_hasSlot yX5_hasSlot, Cond.code yX5_hasSlot cX5_hasSlot 2 (some .boolean), Cond.fieldLink RX5 53 "HarbourPilotlineModel" "state" "[I"]
def wsX5_restedAnew_r2 : List Cond := [Cond.methodLink RX5 82 yX5_over, Cond.instanceMethod yX5_over, Cond.selects RX5 yX5_over yX5_over, Cond.code yX5_over cX5_over 2 (some .int), Cond.fieldLink RX5 56 "HarbourPilotlineModel" "slot" "[I", Cond.methodLink RX5 85 yX5_rest, Cond.static yX5_rest, Cond.code yX5_rest cX5_rest 1 (some .int)]
def wsX5_restedAnew : List Cond := .code yX5_restedAnew cX5_restedAnew 2 (some .int) :: ((wsX5_restedAnew_r1 ++ wsX5_restedAnew_r2) ++ wsX50)
def wsX5_bill : List Cond := .code yX5_bill cX5_bill 2 (some .int) :: ([.fieldLink RX5 59 "HarbourPilotlineModel" "thrown" "I", .fieldLink RX5 32 "HarbourPilotlineModel" "owes" "[I", .methodLink RX5 108 yX5_isShip, .instanceMethod yX5_isShip, .selects RX5 yX5_isShip yX5_isShip, .initialized RX5, .code yX5_isShip cX5_isShip 2 (some .boolean), .fieldLink RX5 62 "HarbourPilotlineModel" "ships" "I", .methodLink RX5 65 yX5_in, .static yX5_in, .code yX5_in cX5_in 3 (some .boolean)] ++ wsX50)
def wsX5_ofPilot : List Cond := .code yX5_ofPilot cX5_ofPilot 6 (some .int) :: ([.fieldLink RX5 59 "HarbourPilotlineModel" "thrown" "I", .fieldLink RX5 71 "HarbourPilotlineModel" "conferences" "I", .fieldLink RX5 50 "HarbourPilotlineModel" "pilot" "[I", .fieldLink RX5 53 "HarbourPilotlineModel" "state" "[I", .fieldLink RX5 26 "HarbourPilotlineModel" "takes" "[I", .fieldLink RX5 41 "HarbourPilotlineModel" "ship" "[I", .fieldLink RX5 38 "HarbourPilotlineModel" "rate" "[I", .methodLink RX5 114 yX5_isPilot, .instanceMethod yX5_isPilot, .selects RX5 yX5_isPilot yX5_isPilot, .initialized RX5, .code yX5_isPilot cX5_isPilot 2 (some .boolean), .fieldLink RX5 68 "HarbourPilotlineModel" "pilots" "I", .methodLink RX5 65 yX5_in, .static yX5_in, .code yX5_in cX5_in 3 (some .boolean)] ++ wsX50)
def wsX5_bills : List Cond := .code yX5_bills cX5_bills 3 (some .int) :: ([.fieldLink RX5 62 "HarbourPilotlineModel" "ships" "I", .fieldLink RX5 32 "HarbourPilotlineModel" "owes" "[I"] ++ wsX50)
def wsX5_count : List Cond := .code yX5_count cX5_count 4 (some .int) :: ([.fieldLink RX5 59 "HarbourPilotlineModel" "thrown" "I", .fieldLink RX5 127 "HarbourPilotlineModel" "moved" "I", .fieldLink RX5 71 "HarbourPilotlineModel" "conferences" "I", .fieldLink RX5 53 "HarbourPilotlineModel" "state" "[I", .fieldLink RX5 29 "HarbourPilotlineModel" "needs" "[I", .fieldLink RX5 41 "HarbourPilotlineModel" "ship" "[I", .methodLink RX5 65 yX5_in, .static yX5_in, .initialized RX5, .code yX5_in cX5_in 3 (some .boolean), .methodLink RX5 143 yX5_bills, .instanceMethod yX5_bills, .selects RX5 yX5_bills yX5_bills, .code yX5_bills cX5_bills 3 (some .int), .fieldLink RX5 62 "HarbourPilotlineModel" "ships" "I", .fieldLink RX5 32 "HarbourPilotlineModel" "owes" "[I"] ++ wsX50)
def wsJ9_abs_0f7a4 : List Cond := .code yJ9_abs_0f7a4 cJ9_abs_0f7a4 1 (some .int) :: ([])
def wsJ9_max_7cf53 : List Cond := .code yJ9_max_7cf53 cJ9_max_7cf53 2 (some .int) :: ([])
def wsJ9_min_7cf53 : List Cond := .code yJ9_min_7cf53 cJ9_min_7cf53 2 (some .int) :: ([])
def wsL_tide : List Cond := .codeWith yL_tide cL_tide 4 (some .int) [(0, 6, 9, 13)] :: ([.classLink RL 13 "java/lang/IllegalArgumentException", .methodLink RL 7 yX4_tide, .instanceMethod yX4_tide, .selects RX4 yX4_tide yX4_tide, .initialized RX4, .code yX4_tide cX4_tide 3 none, .fieldLink RX4 10 "HarbourPilotline" "tide" "LHarbourPilotline$Tide;", .fieldLink RX4 37 "HarbourPilotline$Tide" "depth" "I", .fieldLink RX4 40 "HarbourPilotline$Tide" "rise" "I", .methodLink RX4 33 yX4_demandWithin, .static yX4_demandWithin, .code yX4_demandWithin cX4_demandWithin 3 none, .classLink RX4 222 "java/lang/IllegalArgumentException", .initialized "java/lang/IllegalArgumentException"] ++ wsX40 ++ wsX30 ++ (vx_atS RX4 226 "java/lang/IllegalArgumentException" ["java/lang/RuntimeException", "java/lang/Exception"]).filter goodWord)
def wsL_tugs : List Cond := .codeWith yL_tugs cL_tugs 4 (some .int) [(0, 9, 12, 13)] :: ([.classLink RL 13 "java/lang/IllegalArgumentException", .methodLink RL 15 yX4_tugs, .instanceMethod yX4_tugs, .selects RX4 yX4_tugs yX4_tugs, .initialized RX4, .code yX4_tugs cX4_tugs 3 (some .int), .fieldLink RX4 29 "HarbourPilotline" "tugs" "I", .methodLink RX4 33 yX4_demandWithin, .static yX4_demandWithin, .code yX4_demandWithin cX4_demandWithin 3 none, .classLink RX4 222 "java/lang/IllegalArgumentException", .initialized "java/lang/IllegalArgumentException"] ++ wsX40 ++ (vx_atS RX4 226 "java/lang/IllegalArgumentException" ["java/lang/RuntimeException", "java/lang/Exception"]).filter goodWord)
def wsL_ship_r1 : List Cond := [Cond.classLink RL 13 "java/lang/IllegalArgumentException", Cond.classLink RL 23 "java/lang/IllegalStateException", Cond.methodLink RL 19 yX4_ship, Cond.instanceMethod yX4_ship, Cond.selects RX4 yX4_ship yX4_ship, Cond.initialized RX4, Cond.code yX4_ship cX4_ship 6 (some .int), Cond.fieldLink RX4 19 "HarbourPilotline" "ships" "Ljava/util/ArrayList;", Cond.classLink RX4 51 RX2, Cond.instantiable RX2 6, Cond.initialized RX2, Cond.methodLink RX4 33 yX4_demandWithin, Cond.static yX4_demandWithin, Cond.code yX4_demandWithin cX4_demandWithin 3 none, Cond.classLink RX4 222 "java/lang/IllegalArgumentException", Cond.initialized "java/lang/IllegalArgumentException", Cond.methodLink RX4 43 yJx4a65c_size_8abf5, Cond.instanceMethod yJx4a65c_size_8abf5, Cond.selects RJx4a65c yJx4a65c_size_8abf5 yJx4a65c_size_8abf5, Cond.initialized RJx4a65c, Cond.code yJx4a65c_size_8abf5 cJx4a65c_size_8abf5 1 (some .int), Cond.fieldLink RJx4a65c 48 "java/util/ArrayList" "size" "I", Cond.methodLink RX4 47 yX4_demandRoom, Cond.static yX4_demandRoom]
def wsL_ship_r2 : List Cond := [Cond.code yX4_demandRoom cX4_demandRoom 2 none, Cond.classLink RX4 92 "java/lang/IllegalStateException", Cond.initialized "java/lang/IllegalStateException", Cond.methodLink RX4 53 yX2_init, Cond.instanceMethod yX2_init, Cond.code yX2_init cX2_init 6 none, Cond.methodLink RX2 1 objectInit, Cond.instanceMethod objectInit, Cond.code objectInit ⟨#[0xb1]⟩ 1 none, Cond.fieldLink RX2 7 "HarbourPilotline$Ship" "number" "I", Cond.fieldLink RX2 13 "HarbourPilotline$Ship" "draught" "I", Cond.fieldLink RX2 16 "HarbourPilotline$Ship" "tons" "I", Cond.fieldLink RX2 19 "HarbourPilotline$Ship" "minutes" "I", Cond.fieldLink RX2 22 "HarbourPilotline$Ship" "tugs" "I", Cond.methodLink RX4 56 yJx4a65c_add_9ea2d, Cond.instanceMethod yJx4a65c_add_9ea2d, Cond.selects RJx4a65c yJx4a65c_add_9ea2d yJx4a65c_add_9ea2d, Cond.code yJx4a65c_add_9ea2d cJx4a65c_add_9ea2d 2 (some .boolean), Cond.fieldLink RJx4a65c 63 "java/util/ArrayList" "modCount" "I", Cond.sameField "java/util/ArrayList" "java/util/AbstractList" "modCount" "I", Cond.fieldLink RJx4a65c 9 "java/util/ArrayList" "elementData" "[Ljava/lang/Object;", Cond.methodLink RJx4a65c 131 yJx4a65c_add_72be8, Cond.instanceMethod yJx4a65c_add_72be8, Cond.selects RJx4a65c yJx4a65c_add_72be8 yJx4a65c_add_72be8]
def wsL_ship_r3 : List Cond := [Cond.code yJx4a65c_add_72be8 cJx4a65c_add_72be8 4 none, Cond.methodLink RJx4a65c 129 yJx4a65c_grow_d5877, Cond.instanceMethod yJx4a65c_grow_d5877, Cond.selects RJx4a65c yJx4a65c_grow_d5877 yJx4a65c_grow_d5877, Cond.code yJx4a65c_grow_d5877 cJx4a65c_grow_d5877 1 (some (.array (.object "java/lang/Object"))), Cond.methodLink RJx4a65c 69 yJx4a65c_grow_92f84, Cond.instanceMethod yJx4a65c_grow_92f84, Cond.selects RJx4a65c yJx4a65c_grow_92f84 yJx4a65c_grow_92f84, Cond.code yJx4a65c_grow_92f84 cJx4a65c_grow_92f84 4 (some (.array (.object "java/lang/Object"))), Cond.fieldLink RJx4a65c 39 "java/util/ArrayList" "DEFAULTCAPACITY_EMPTY_ELEMENTDATA" "[Ljava/lang/Object;", Cond.methodLink RJx4a65c 79 Lib.Math.max.name, Cond.static Lib.Math.max.name, Cond.initialized "java/lang/Math", Cond.code Lib.Math.max.name Lib.Math.max.code 2 (some .int), Cond.classLink RJx4a65c 7 "java/lang/Object", Cond.methodLink RJx4a65c 73 yJ8_newLength_cabcc, Cond.static yJ8_newLength_cabcc, Cond.initialized RJ8, Cond.code yJ8_newLength_cabcc cJ8_newLength_cabcc 4 (some .int), Cond.methodLink RJ8 194 Lib.Math.max.name, Cond.constant RJ8 200 (2147483639), Cond.methodLink RJ8 201 yJ8_hugeLength_7cf53, Cond.static yJ8_hugeLength_7cf53, Cond.code yJ8_hugeLength_7cf53 cJ8_hugeLength_7cf53 3 (some .int)]
def wsL_ship_r4 : List Cond := [Cond.methodLink RJx4a65c 66 yJ7_copyOf_1904c, Cond.static yJ7_copyOf_1904c, Cond.initialized RJ7, Cond.code yJ7_copyOf_1904c cJ7_copyOf_1904c 2 (some (.array (.object "java/lang/Object"))), Cond.methodLink RJ7 86 ⟨"java/lang/Object", "getClass", "()Ljava/lang/Class;"⟩, Cond.selects "[Ljava/lang/Object;" ⟨"java/lang/Object", "getClass", "()Ljava/lang/Class;"⟩ ⟨"java/lang/Object", "getClass", "()Ljava/lang/Class;"⟩, Cond.instanceMethod ⟨"java/lang/Object", "getClass", "()Ljava/lang/Class;"⟩, Cond.native ⟨"java/lang/Object", "getClass", "()Ljava/lang/Class;"⟩, Cond.methodLink RJ7 300 yJ7_copyOf_6403c, Cond.static yJ7_copyOf_6403c, Cond.code yJ7_copyOf_6403c cJ7_copyOf_6403c 4 (some (.array (.object "java/lang/Object"))), Cond.classLink RJ7 110 "[Ljava/lang/Object;", Cond.classLink RJ7 2 "java/lang/Object", Cond.methodLink RJ7 304 Lib.Math.min.name, Cond.static Lib.Math.min.name, Cond.code Lib.Math.min.name Lib.Math.min.code 2 (some .int), Cond.methodLink RJ7 150 arraycopyName, Cond.native arraycopyName, Cond.static arraycopyName, Cond.initialized "java/lang/System"]
def wsL_ship : List Cond := .codeWith yL_ship cL_ship 7 (some .int) [(0, 14, 17, 13), (0, 14, 21, 23)] :: ((wsL_ship_r1 ++ (wsL_ship_r2 ++ (wsL_ship_r3 ++ wsL_ship_r4))) ++ wsX40 ++ wsX20 ++ wsJx4a65c0 ++ (vx_atS RX4 226 "java/lang/IllegalArgumentException" ["java/lang/RuntimeException", "java/lang/Exception"]).filter goodWord ++ (vx_atS RX4 96 "java/lang/IllegalStateException" ["java/lang/RuntimeException", "java/lang/Exception"]).filter goodWord)
def wsL_pilot_r1 : List Cond := [Cond.classLink RL 13 "java/lang/IllegalArgumentException", Cond.classLink RL 23 "java/lang/IllegalStateException", Cond.methodLink RL 25 yX4_pilot, Cond.instanceMethod yX4_pilot, Cond.selects RX4 yX4_pilot yX4_pilot, Cond.initialized RX4, Cond.code yX4_pilot cX4_pilot 4 (some .int), Cond.fieldLink RX4 23 "HarbourPilotline" "pilots" "Ljava/util/ArrayList;", Cond.classLink RX4 60 RX1, Cond.instantiable RX1 5, Cond.initialized RX1, Cond.methodLink RX4 33 yX4_demandWithin, Cond.static yX4_demandWithin, Cond.code yX4_demandWithin cX4_demandWithin 3 none, Cond.classLink RX4 222 "java/lang/IllegalArgumentException", Cond.initialized "java/lang/IllegalArgumentException", Cond.methodLink RX4 43 yJx4a65c_size_8abf5, Cond.instanceMethod yJx4a65c_size_8abf5, Cond.selects RJx4a65c yJx4a65c_size_8abf5 yJx4a65c_size_8abf5, Cond.initialized RJx4a65c, Cond.code yJx4a65c_size_8abf5 cJx4a65c_size_8abf5 1 (some .int), Cond.fieldLink RJx4a65c 48 "java/util/ArrayList" "size" "I", Cond.methodLink RX4 47 yX4_demandRoom, Cond.static yX4_demandRoom]
def wsL_pilot_r2 : List Cond := [Cond.code yX4_demandRoom cX4_demandRoom 2 none, Cond.classLink RX4 92 "java/lang/IllegalStateException", Cond.initialized "java/lang/IllegalStateException", Cond.methodLink RX4 62 yX1_init, Cond.instanceMethod yX1_init, Cond.code yX1_init cX1_init 4 none, Cond.methodLink RX1 1 objectInit, Cond.instanceMethod objectInit, Cond.code objectInit ⟨#[0xb1]⟩ 1 none, Cond.fieldLink RX1 7 "HarbourPilotline$Pilot" "number" "I", Cond.fieldLink RX1 13 "HarbourPilotline$Pilot" "licence" "I", Cond.fieldLink RX1 16 "HarbourPilotline$Pilot" "rate" "I", Cond.methodLink RX4 56 yJx4a65c_add_9ea2d, Cond.instanceMethod yJx4a65c_add_9ea2d, Cond.selects RJx4a65c yJx4a65c_add_9ea2d yJx4a65c_add_9ea2d, Cond.code yJx4a65c_add_9ea2d cJx4a65c_add_9ea2d 2 (some .boolean), Cond.fieldLink RJx4a65c 63 "java/util/ArrayList" "modCount" "I", Cond.sameField "java/util/ArrayList" "java/util/AbstractList" "modCount" "I", Cond.fieldLink RJx4a65c 9 "java/util/ArrayList" "elementData" "[Ljava/lang/Object;", Cond.methodLink RJx4a65c 131 yJx4a65c_add_72be8, Cond.instanceMethod yJx4a65c_add_72be8, Cond.selects RJx4a65c yJx4a65c_add_72be8 yJx4a65c_add_72be8, Cond.code yJx4a65c_add_72be8 cJx4a65c_add_72be8 4 none, Cond.methodLink RJx4a65c 129 yJx4a65c_grow_d5877]
def wsL_pilot_r3 : List Cond := [Cond.instanceMethod yJx4a65c_grow_d5877, Cond.selects RJx4a65c yJx4a65c_grow_d5877 yJx4a65c_grow_d5877, Cond.code yJx4a65c_grow_d5877 cJx4a65c_grow_d5877 1 (some (.array (.object "java/lang/Object"))), Cond.methodLink RJx4a65c 69 yJx4a65c_grow_92f84, Cond.instanceMethod yJx4a65c_grow_92f84, Cond.selects RJx4a65c yJx4a65c_grow_92f84 yJx4a65c_grow_92f84, Cond.code yJx4a65c_grow_92f84 cJx4a65c_grow_92f84 4 (some (.array (.object "java/lang/Object"))), Cond.fieldLink RJx4a65c 39 "java/util/ArrayList" "DEFAULTCAPACITY_EMPTY_ELEMENTDATA" "[Ljava/lang/Object;", Cond.methodLink RJx4a65c 79 Lib.Math.max.name, Cond.static Lib.Math.max.name, Cond.initialized "java/lang/Math", Cond.code Lib.Math.max.name Lib.Math.max.code 2 (some .int), Cond.classLink RJx4a65c 7 "java/lang/Object", Cond.methodLink RJx4a65c 73 yJ8_newLength_cabcc, Cond.static yJ8_newLength_cabcc, Cond.initialized RJ8, Cond.code yJ8_newLength_cabcc cJ8_newLength_cabcc 4 (some .int), Cond.methodLink RJ8 194 Lib.Math.max.name, Cond.constant RJ8 200 (2147483639), Cond.methodLink RJ8 201 yJ8_hugeLength_7cf53, Cond.static yJ8_hugeLength_7cf53, Cond.code yJ8_hugeLength_7cf53 cJ8_hugeLength_7cf53 3 (some .int), Cond.methodLink RJx4a65c 66 yJ7_copyOf_1904c, Cond.static yJ7_copyOf_1904c]
def wsL_pilot_r4 : List Cond := [Cond.initialized RJ7, Cond.code yJ7_copyOf_1904c cJ7_copyOf_1904c 2 (some (.array (.object "java/lang/Object"))), Cond.methodLink RJ7 86 ⟨"java/lang/Object", "getClass", "()Ljava/lang/Class;"⟩, Cond.selects "[Ljava/lang/Object;" ⟨"java/lang/Object", "getClass", "()Ljava/lang/Class;"⟩ ⟨"java/lang/Object", "getClass", "()Ljava/lang/Class;"⟩, Cond.instanceMethod ⟨"java/lang/Object", "getClass", "()Ljava/lang/Class;"⟩, Cond.native ⟨"java/lang/Object", "getClass", "()Ljava/lang/Class;"⟩, Cond.methodLink RJ7 300 yJ7_copyOf_6403c, Cond.static yJ7_copyOf_6403c, Cond.code yJ7_copyOf_6403c cJ7_copyOf_6403c 4 (some (.array (.object "java/lang/Object"))), Cond.classLink RJ7 110 "[Ljava/lang/Object;", Cond.classLink RJ7 2 "java/lang/Object", Cond.methodLink RJ7 304 Lib.Math.min.name, Cond.static Lib.Math.min.name, Cond.code Lib.Math.min.name Lib.Math.min.code 2 (some .int), Cond.methodLink RJ7 150 arraycopyName, Cond.native arraycopyName, Cond.static arraycopyName, Cond.initialized "java/lang/System"]
def wsL_pilot : List Cond := .codeWith yL_pilot cL_pilot 5 (some .int) [(0, 10, 13, 13), (0, 10, 17, 23)] :: ((wsL_pilot_r1 ++ (wsL_pilot_r2 ++ (wsL_pilot_r3 ++ wsL_pilot_r4))) ++ wsX40 ++ wsX10 ++ wsJx4a65c0 ++ (vx_atS RX4 226 "java/lang/IllegalArgumentException" ["java/lang/RuntimeException", "java/lang/Exception"]).filter goodWord ++ (vx_atS RX4 96 "java/lang/IllegalStateException" ["java/lang/RuntimeException", "java/lang/Exception"]).filter goodWord)
def wsL_call_r1 : List Cond := [Cond.classLink RL 32 "java/lang/IndexOutOfBoundsException", Cond.classLink RL 13 "java/lang/IllegalArgumentException", Cond.classLink RL 23 "java/lang/IllegalStateException", Cond.methodLink RL 29 yX4_call, Cond.instanceMethod yX4_call, Cond.selects RX4 yX4_call yX4_call, Cond.initialized RX4, Cond.code yX4_call cX4_call 5 (some .int), Cond.fieldLink RX4 68 "HarbourPilotline" "now" "I", Cond.fieldLink RX4 26 "HarbourPilotline" "conferences" "Ljava/util/ArrayList;", Cond.classLink RX4 71 RX0, Cond.instantiable RX0 7, Cond.initialized RX0, Cond.methodLink RX4 64 yX4_shipAt, Cond.instanceMethod yX4_shipAt, Cond.selects RX4 yX4_shipAt yX4_shipAt, Cond.code yX4_shipAt cX4_shipAt 2 (some (.object "HarbourPilotline$Ship")), Cond.classLink RX4 175 "java/lang/IndexOutOfBoundsException", Cond.initialized "java/lang/IndexOutOfBoundsException", Cond.fieldLink RX4 19 "HarbourPilotline" "ships" "Ljava/util/ArrayList;", Cond.classLink RX4 51 "HarbourPilotline$Ship", Cond.methodLink RX4 43 yJx4a65c_size_8abf5, Cond.instanceMethod yJx4a65c_size_8abf5, Cond.selects RJx4a65c yJx4a65c_size_8abf5 yJx4a65c_size_8abf5]
def wsL_call_r2 : List Cond := [Cond.initialized RJx4a65c, Cond.code yJx4a65c_size_8abf5 cJx4a65c_size_8abf5 1 (some .int), Cond.fieldLink RJx4a65c 48 "java/util/ArrayList" "size" "I", Cond.methodLink RX4 145 yJx4a65c_get_915e3, Cond.instanceMethod yJx4a65c_get_915e3, Cond.selects RJx4a65c yJx4a65c_get_915e3 yJx4a65c_get_915e3, Cond.code yJx4a65c_get_915e3 cJx4a65c_get_915e3 2 (some (.object "java/lang/Object")), Cond.methodLink RJx4a65c 118 yJ15_checkIndex_7cf53, Cond.static yJ15_checkIndex_7cf53, Cond.initialized RJ15, Cond.code yJ15_checkIndex_7cf53 cJ15_checkIndex_7cf53 2 (some .int), Cond.methodLink RJ15 105 yJ3_checkIndex_8e157, Cond.static yJ3_checkIndex_8e157, Cond.initialized RJ3, Cond.code yJ3_checkIndex_8e157 cJ3_checkIndex_8e157 3 (some .int), Cond.methodLink RJx4a65c 123 yJx4a65c_elementData_915e3, Cond.instanceMethod yJx4a65c_elementData_915e3, Cond.selects RJx4a65c yJx4a65c_elementData_915e3 yJx4a65c_elementData_915e3, Cond.code yJx4a65c_elementData_915e3 cJx4a65c_elementData_915e3 2 (some (.object "java/lang/Object")), Cond.fieldLink RJx4a65c 9 "java/util/ArrayList" "elementData" "[Ljava/lang/Object;", Cond.methodLink RX4 33 yX4_demandWithin, Cond.static yX4_demandWithin, Cond.code yX4_demandWithin cX4_demandWithin 3 none, Cond.classLink RX4 222 "java/lang/IllegalArgumentException"]
def wsL_call_r3 : List Cond := [Cond.initialized "java/lang/IllegalArgumentException", Cond.methodLink RX4 47 yX4_demandRoom, Cond.static yX4_demandRoom, Cond.code yX4_demandRoom cX4_demandRoom 2 none, Cond.classLink RX4 92 "java/lang/IllegalStateException", Cond.initialized "java/lang/IllegalStateException", Cond.methodLink RX4 73 yX0_init, Cond.instanceMethod yX0_init, Cond.code yX0_init cX0_init 3 none, Cond.methodLink RX0 3 objectInit, Cond.instanceMethod objectInit, Cond.code objectInit ⟨#[0xb1]⟩ 1 none, Cond.fieldLink RX0 9 "HarbourPilotline$Conference" "state" "I", Cond.fieldLink RX0 15 "HarbourPilotline$Conference" "slot" "I", Cond.fieldLink RX0 18 "HarbourPilotline$Conference" "ship" "LHarbourPilotline$Ship;", Cond.fieldLink RX0 22 "HarbourPilotline$Conference" "wish" "I", Cond.methodLink RX4 56 yJx4a65c_add_9ea2d, Cond.instanceMethod yJx4a65c_add_9ea2d, Cond.selects RJx4a65c yJx4a65c_add_9ea2d yJx4a65c_add_9ea2d, Cond.code yJx4a65c_add_9ea2d cJx4a65c_add_9ea2d 2 (some .boolean), Cond.fieldLink RJx4a65c 63 "java/util/ArrayList" "modCount" "I", Cond.sameField "java/util/ArrayList" "java/util/AbstractList" "modCount" "I", Cond.methodLink RJx4a65c 131 yJx4a65c_add_72be8, Cond.instanceMethod yJx4a65c_add_72be8]
def wsL_call_r4 : List Cond := [Cond.selects RJx4a65c yJx4a65c_add_72be8 yJx4a65c_add_72be8, Cond.code yJx4a65c_add_72be8 cJx4a65c_add_72be8 4 none, Cond.methodLink RJx4a65c 129 yJx4a65c_grow_d5877, Cond.instanceMethod yJx4a65c_grow_d5877, Cond.selects RJx4a65c yJx4a65c_grow_d5877 yJx4a65c_grow_d5877, Cond.code yJx4a65c_grow_d5877 cJx4a65c_grow_d5877 1 (some (.array (.object "java/lang/Object"))), Cond.methodLink RJx4a65c 69 yJx4a65c_grow_92f84, Cond.instanceMethod yJx4a65c_grow_92f84, Cond.selects RJx4a65c yJx4a65c_grow_92f84 yJx4a65c_grow_92f84, Cond.code yJx4a65c_grow_92f84 cJx4a65c_grow_92f84 4 (some (.array (.object "java/lang/Object"))), Cond.fieldLink RJx4a65c 39 "java/util/ArrayList" "DEFAULTCAPACITY_EMPTY_ELEMENTDATA" "[Ljava/lang/Object;", Cond.methodLink RJx4a65c 79 Lib.Math.max.name, Cond.static Lib.Math.max.name, Cond.initialized "java/lang/Math", Cond.code Lib.Math.max.name Lib.Math.max.code 2 (some .int), Cond.classLink RJx4a65c 7 "java/lang/Object", Cond.methodLink RJx4a65c 73 yJ8_newLength_cabcc, Cond.static yJ8_newLength_cabcc, Cond.initialized RJ8, Cond.code yJ8_newLength_cabcc cJ8_newLength_cabcc 4 (some .int), Cond.methodLink RJ8 194 Lib.Math.max.name, Cond.constant RJ8 200 (2147483639), Cond.methodLink RJ8 201 yJ8_hugeLength_7cf53, Cond.static yJ8_hugeLength_7cf53]
def wsL_call_r5 : List Cond := [Cond.code yJ8_hugeLength_7cf53 cJ8_hugeLength_7cf53 3 (some .int), Cond.methodLink RJx4a65c 66 yJ7_copyOf_1904c, Cond.static yJ7_copyOf_1904c, Cond.initialized RJ7, Cond.code yJ7_copyOf_1904c cJ7_copyOf_1904c 2 (some (.array (.object "java/lang/Object"))), Cond.methodLink RJ7 86 ⟨"java/lang/Object", "getClass", "()Ljava/lang/Class;"⟩, Cond.selects "[Ljava/lang/Object;" ⟨"java/lang/Object", "getClass", "()Ljava/lang/Class;"⟩ ⟨"java/lang/Object", "getClass", "()Ljava/lang/Class;"⟩, Cond.instanceMethod ⟨"java/lang/Object", "getClass", "()Ljava/lang/Class;"⟩, Cond.native ⟨"java/lang/Object", "getClass", "()Ljava/lang/Class;"⟩, Cond.methodLink RJ7 300 yJ7_copyOf_6403c, Cond.static yJ7_copyOf_6403c, Cond.code yJ7_copyOf_6403c cJ7_copyOf_6403c 4 (some (.array (.object "java/lang/Object"))), Cond.classLink RJ7 110 "[Ljava/lang/Object;", Cond.classLink RJ7 2 "java/lang/Object", Cond.methodLink RJ7 304 Lib.Math.min.name, Cond.static Lib.Math.min.name, Cond.code Lib.Math.min.name Lib.Math.min.code 2 (some .int), Cond.methodLink RJ7 150 arraycopyName, Cond.native arraycopyName, Cond.static arraycopyName, Cond.initialized "java/lang/System"]
def wsL_call : List Cond := .codeWith yL_call cL_call 5 (some .int) [(0, 10, 13, 32), (0, 10, 17, 13), (0, 10, 21, 23)] :: ((wsL_call_r1 ++ (wsL_call_r2 ++ (wsL_call_r3 ++ (wsL_call_r4 ++ wsL_call_r5)))) ++ wsX40 ++ wsX00 ++ wsJx4a65c0 ++ (vx_atS RX4 179 "java/lang/IndexOutOfBoundsException" ["java/lang/RuntimeException", "java/lang/Exception"]).filter goodWord ++ (vx_atS RX4 226 "java/lang/IllegalArgumentException" ["java/lang/RuntimeException", "java/lang/Exception"]).filter goodWord ++ (vx_atS RX4 96 "java/lang/IllegalStateException" ["java/lang/RuntimeException", "java/lang/Exception"]).filter goodWord)
def wsL_join_r1 : List Cond := [Cond.classLink RL 32 "java/lang/IndexOutOfBoundsException", Cond.classLink RL 23 "java/lang/IllegalStateException", Cond.methodLink RL 34 yX4_join, Cond.instanceMethod yX4_join, Cond.selects RX4 yX4_join yX4_join, Cond.initialized RX4, Cond.code yX4_join cX4_join 6 (some .int), Cond.classLink RX4 92 "java/lang/IllegalStateException", Cond.initialized "java/lang/IllegalStateException", Cond.fieldLink RX4 99 "HarbourPilotline$Pilot" "licence" "I", Cond.fieldLink RX4 102 "HarbourPilotline$Conference" "ship" "LHarbourPilotline$Ship;", Cond.fieldLink RX4 106 "HarbourPilotline$Ship" "tons" "I", Cond.fieldLink RX4 122 "HarbourPilotline$Conference" "slot" "I", Cond.methodLink RX4 76 yX4_conferenceAt, Cond.instanceMethod yX4_conferenceAt, Cond.selects RX4 yX4_conferenceAt yX4_conferenceAt, Cond.code yX4_conferenceAt cX4_conferenceAt 2 (some (.object "HarbourPilotline$Conference")), Cond.classLink RX4 175 "java/lang/IndexOutOfBoundsException", Cond.initialized "java/lang/IndexOutOfBoundsException", Cond.fieldLink RX4 26 "HarbourPilotline" "conferences" "Ljava/util/ArrayList;", Cond.classLink RX4 71 "HarbourPilotline$Conference", Cond.methodLink RX4 43 yJx4a65c_size_8abf5, Cond.instanceMethod yJx4a65c_size_8abf5, Cond.selects RJx4a65c yJx4a65c_size_8abf5 yJx4a65c_size_8abf5]
def wsL_join_r2 : List Cond := [Cond.initialized RJx4a65c, Cond.code yJx4a65c_size_8abf5 cJx4a65c_size_8abf5 1 (some .int), Cond.fieldLink RJx4a65c 48 "java/util/ArrayList" "size" "I", Cond.methodLink RX4 145 yJx4a65c_get_915e3, Cond.instanceMethod yJx4a65c_get_915e3, Cond.selects RJx4a65c yJx4a65c_get_915e3 yJx4a65c_get_915e3, Cond.code yJx4a65c_get_915e3 cJx4a65c_get_915e3 2 (some (.object "java/lang/Object")), Cond.methodLink RJx4a65c 118 yJ15_checkIndex_7cf53, Cond.static yJ15_checkIndex_7cf53, Cond.initialized RJ15, Cond.code yJ15_checkIndex_7cf53 cJ15_checkIndex_7cf53 2 (some .int), Cond.methodLink RJ15 105 yJ3_checkIndex_8e157, Cond.static yJ3_checkIndex_8e157, Cond.initialized RJ3, Cond.code yJ3_checkIndex_8e157 cJ3_checkIndex_8e157 3 (some .int), Cond.methodLink RJx4a65c 123 yJx4a65c_elementData_915e3, Cond.instanceMethod yJx4a65c_elementData_915e3, Cond.selects RJx4a65c yJx4a65c_elementData_915e3 yJx4a65c_elementData_915e3, Cond.code yJx4a65c_elementData_915e3 cJx4a65c_elementData_915e3 2 (some (.object "java/lang/Object")), Cond.fieldLink RJx4a65c 9 "java/util/ArrayList" "elementData" "[Ljava/lang/Object;", Cond.methodLink RX4 80 yX4_demandWho, Cond.static yX4_demandWho, Cond.code yX4_demandWho cX4_demandWho 1 none, Cond.methodLink RX4 84 yX4_pilotAt]
def wsL_join_r3 : List Cond := [Cond.instanceMethod yX4_pilotAt, Cond.selects RX4 yX4_pilotAt yX4_pilotAt, Cond.code yX4_pilotAt cX4_pilotAt 2 (some (.object "HarbourPilotline$Pilot")), Cond.fieldLink RX4 23 "HarbourPilotline" "pilots" "Ljava/util/ArrayList;", Cond.classLink RX4 60 "HarbourPilotline$Pilot", Cond.methodLink RX4 88 yX0_hasIn, Cond.instanceMethod yX0_hasIn, Cond.selects RX0 yX0_hasIn yX0_hasIn, Cond.initialized RX0, Cond.code yX0_hasIn cX0_hasIn 2 (some .boolean), Cond.fieldLink RX0 25 "HarbourPilotline$Conference" "shipIn" "Z", Cond.fieldLink RX0 29 "HarbourPilotline$Conference" "towerIn" "Z", Cond.fieldLink RX0 32 "HarbourPilotline$Conference" "pilot" "LHarbourPilotline$Pilot;", Cond.methodLink RX4 111 yX0_letIn, Cond.instanceMethod yX0_letIn, Cond.selects RX0 yX0_letIn yX0_letIn, Cond.code yX0_letIn cX0_letIn 3 none, Cond.methodLink RX4 115 yX0_howManyIn, Cond.instanceMethod yX0_howManyIn, Cond.selects RX0 yX0_howManyIn yX0_howManyIn, Cond.code yX0_howManyIn cX0_howManyIn 1 (some .int), Cond.methodLink RX4 118 yX4_lookForSlot, Cond.instanceMethod yX4_lookForSlot, Cond.selects RX4 yX4_lookForSlot yX4_lookForSlot]
def wsL_join_r4 : List Cond := [Cond.code yX4_lookForSlot cX4_lookForSlot 2 none, Cond.fieldLink RX4 125 "HarbourPilotline$Conference" "state" "I", Cond.fieldLink RX4 68 "HarbourPilotline" "now" "I", Cond.methodLink RX4 237 yX4_earliestSlot, Cond.instanceMethod yX4_earliestSlot, Cond.selects RX4 yX4_earliestSlot yX4_earliestSlot, Cond.code yX4_earliestSlot cX4_earliestSlot 6 (some .int), Cond.fieldLink RX4 241 "HarbourPilotline$Conference" "wish" "I", Cond.methodLink RX4 161 Lib.Math.max.name, Cond.static Lib.Math.max.name, Cond.initialized "java/lang/Math", Cond.code Lib.Math.max.name Lib.Math.max.code 2 (some .int), Cond.fieldLink RX4 10 "HarbourPilotline" "tide" "LHarbourPilotline$Tide;", Cond.methodLink RX4 157 yX3_pastShallows, Cond.instanceMethod yX3_pastShallows, Cond.selects RX3 yX3_pastShallows yX3_pastShallows, Cond.initialized RX3, Cond.code yX3_pastShallows cX3_pastShallows 5 (some .int), Cond.fieldLink RX3 22 "HarbourPilotline$Ship" "draught" "I", Cond.fieldLink RX3 27 "HarbourPilotline$Ship" "minutes" "I", Cond.fieldLink RX3 7 "HarbourPilotline$Tide" "depth" "I", Cond.methodLink RX3 30 yX3_aboveDepth, Cond.instanceMethod yX3_aboveDepth, Cond.selects RX3 yX3_aboveDepth yX3_aboveDepth]
def wsL_join_r5 : List Cond := [Cond.code yX3_aboveDepth cX3_aboveDepth 3 (some .int), Cond.methodLink RX3 16 Lib.Math.min.name, Cond.static Lib.Math.min.name, Cond.code Lib.Math.min.name Lib.Math.min.code 2 (some .int), Cond.fieldLink RX3 13 "HarbourPilotline$Tide" "rise" "I", Cond.methodLink RX4 182 yX4_pastRests, Cond.instanceMethod yX4_pastRests, Cond.selects RX4 yX4_pastRests yX4_pastRests, Cond.code yX4_pastRests cX4_pastRests 7 (some .int), Cond.fieldLink RX4 167 "HarbourPilotline$Conference" "pilot" "LHarbourPilotline$Pilot;", Cond.methodLink RX4 244 yX2_minutesWithRest, Cond.instanceMethod yX2_minutesWithRest, Cond.selects RX2 yX2_minutesWithRest yX2_minutesWithRest, Cond.initialized RX2, Cond.code yX2_minutesWithRest cX2_minutesWithRest 1 (some .int), Cond.fieldLink RX2 19 "HarbourPilotline$Ship" "minutes" "I", Cond.methodLink RX2 25 Lib.Math.max.name, Cond.methodLink RX4 189 yX4_pastChannel, Cond.instanceMethod yX4_pastChannel, Cond.selects RX4 yX4_pastChannel yX4_pastChannel, Cond.code yX4_pastChannel cX4_pastChannel 6 (some .int), Cond.methodLink RX4 251 Lib.Math.abs.name, Cond.static Lib.Math.abs.name, Cond.code Lib.Math.abs.name Lib.Math.abs.code 1 (some .int)]
def wsL_join_r6 : List Cond := [Cond.methodLink RX4 186 yX4_pastTugs, Cond.instanceMethod yX4_pastTugs, Cond.selects RX4 yX4_pastTugs yX4_pastTugs, Cond.code yX4_pastTugs cX4_pastTugs 6 (some .int), Cond.fieldLink RX4 247 "HarbourPilotline$Ship" "minutes" "I", Cond.fieldLink RX4 29 "HarbourPilotline" "tugs" "I", Cond.fieldLink RX4 250 "HarbourPilotline$Ship" "tugs" "I", Cond.methodLink RX4 212 yX4_tugsOfOthers, Cond.instanceMethod yX4_tugsOfOthers, Cond.selects RX4 yX4_tugsOfOthers yX4_tugsOfOthers, Cond.code yX4_tugsOfOthers cX4_tugsOfOthers 7 (some .int)]
def wsL_join : List Cond := .codeWith yL_join cL_join 6 (some .int) [(0, 12, 15, 32), (0, 12, 19, 23)] :: ((wsL_join_r1 ++ (wsL_join_r2 ++ (wsL_join_r3 ++ (wsL_join_r4 ++ (wsL_join_r5 ++ wsL_join_r6))))) ++ wsX10 ++ wsX00 ++ wsX20 ++ wsX40 ++ wsJx4a65c0 ++ wsX30 ++ (vx_atS RX4 96 "java/lang/IllegalStateException" ["java/lang/RuntimeException", "java/lang/Exception"]).filter goodWord ++ (vx_atS RX4 179 "java/lang/IndexOutOfBoundsException" ["java/lang/RuntimeException", "java/lang/Exception"]).filter goodWord)
def wsL_again_r1 : List Cond := [Cond.classLink RL 32 "java/lang/IndexOutOfBoundsException", Cond.classLink RL 23 "java/lang/IllegalStateException", Cond.methodLink RL 38 yX4_again, Cond.instanceMethod yX4_again, Cond.selects RX4 yX4_again yX4_again, Cond.initialized RX4, Cond.code yX4_again cX4_again 3 (some .int), Cond.classLink RX4 92 "java/lang/IllegalStateException", Cond.initialized "java/lang/IllegalStateException", Cond.fieldLink RX4 125 "HarbourPilotline$Conference" "state" "I", Cond.fieldLink RX4 122 "HarbourPilotline$Conference" "slot" "I", Cond.methodLink RX4 76 yX4_conferenceAt, Cond.instanceMethod yX4_conferenceAt, Cond.selects RX4 yX4_conferenceAt yX4_conferenceAt, Cond.code yX4_conferenceAt cX4_conferenceAt 2 (some (.object "HarbourPilotline$Conference")), Cond.classLink RX4 175 "java/lang/IndexOutOfBoundsException", Cond.initialized "java/lang/IndexOutOfBoundsException", Cond.fieldLink RX4 26 "HarbourPilotline" "conferences" "Ljava/util/ArrayList;", Cond.classLink RX4 71 "HarbourPilotline$Conference", Cond.methodLink RX4 43 yJx4a65c_size_8abf5, Cond.instanceMethod yJx4a65c_size_8abf5, Cond.selects RJx4a65c yJx4a65c_size_8abf5 yJx4a65c_size_8abf5, Cond.initialized RJx4a65c, Cond.code yJx4a65c_size_8abf5 cJx4a65c_size_8abf5 1 (some .int)]
def wsL_again_r2 : List Cond := [Cond.fieldLink RJx4a65c 48 "java/util/ArrayList" "size" "I", Cond.methodLink RX4 145 yJx4a65c_get_915e3, Cond.instanceMethod yJx4a65c_get_915e3, Cond.selects RJx4a65c yJx4a65c_get_915e3 yJx4a65c_get_915e3, Cond.code yJx4a65c_get_915e3 cJx4a65c_get_915e3 2 (some (.object "java/lang/Object")), Cond.methodLink RJx4a65c 118 yJ15_checkIndex_7cf53, Cond.static yJ15_checkIndex_7cf53, Cond.initialized RJ15, Cond.code yJ15_checkIndex_7cf53 cJ15_checkIndex_7cf53 2 (some .int), Cond.methodLink RJ15 105 yJ3_checkIndex_8e157, Cond.static yJ3_checkIndex_8e157, Cond.initialized RJ3, Cond.code yJ3_checkIndex_8e157 cJ3_checkIndex_8e157 3 (some .int), Cond.methodLink RJx4a65c 123 yJx4a65c_elementData_915e3, Cond.instanceMethod yJx4a65c_elementData_915e3, Cond.selects RJx4a65c yJx4a65c_elementData_915e3 yJx4a65c_elementData_915e3, Cond.code yJx4a65c_elementData_915e3 cJx4a65c_elementData_915e3 2 (some (.object "java/lang/Object")), Cond.fieldLink RJx4a65c 9 "java/util/ArrayList" "elementData" "[Ljava/lang/Object;", Cond.methodLink RX4 118 yX4_lookForSlot, Cond.instanceMethod yX4_lookForSlot, Cond.selects RX4 yX4_lookForSlot yX4_lookForSlot, Cond.code yX4_lookForSlot cX4_lookForSlot 2 none, Cond.fieldLink RX4 68 "HarbourPilotline" "now" "I", Cond.methodLink RX4 237 yX4_earliestSlot]
def wsL_again_r3 : List Cond := [Cond.instanceMethod yX4_earliestSlot, Cond.selects RX4 yX4_earliestSlot yX4_earliestSlot, Cond.code yX4_earliestSlot cX4_earliestSlot 6 (some .int), Cond.fieldLink RX4 241 "HarbourPilotline$Conference" "wish" "I", Cond.methodLink RX4 161 Lib.Math.max.name, Cond.static Lib.Math.max.name, Cond.initialized "java/lang/Math", Cond.code Lib.Math.max.name Lib.Math.max.code 2 (some .int), Cond.fieldLink RX4 10 "HarbourPilotline" "tide" "LHarbourPilotline$Tide;", Cond.fieldLink RX4 102 "HarbourPilotline$Conference" "ship" "LHarbourPilotline$Ship;", Cond.methodLink RX4 157 yX3_pastShallows, Cond.instanceMethod yX3_pastShallows, Cond.selects RX3 yX3_pastShallows yX3_pastShallows, Cond.initialized RX3, Cond.code yX3_pastShallows cX3_pastShallows 5 (some .int), Cond.fieldLink RX3 22 "HarbourPilotline$Ship" "draught" "I", Cond.fieldLink RX3 27 "HarbourPilotline$Ship" "minutes" "I", Cond.fieldLink RX3 7 "HarbourPilotline$Tide" "depth" "I", Cond.methodLink RX3 30 yX3_aboveDepth, Cond.instanceMethod yX3_aboveDepth, Cond.selects RX3 yX3_aboveDepth yX3_aboveDepth, Cond.code yX3_aboveDepth cX3_aboveDepth 3 (some .int), Cond.methodLink RX3 16 Lib.Math.min.name, Cond.static Lib.Math.min.name]
def wsL_again_r4 : List Cond := [Cond.code Lib.Math.min.name Lib.Math.min.code 2 (some .int), Cond.fieldLink RX3 13 "HarbourPilotline$Tide" "rise" "I", Cond.methodLink RX4 182 yX4_pastRests, Cond.instanceMethod yX4_pastRests, Cond.selects RX4 yX4_pastRests yX4_pastRests, Cond.code yX4_pastRests cX4_pastRests 7 (some .int), Cond.fieldLink RX4 167 "HarbourPilotline$Conference" "pilot" "LHarbourPilotline$Pilot;", Cond.methodLink RX4 244 yX2_minutesWithRest, Cond.instanceMethod yX2_minutesWithRest, Cond.selects RX2 yX2_minutesWithRest yX2_minutesWithRest, Cond.initialized RX2, Cond.code yX2_minutesWithRest cX2_minutesWithRest 1 (some .int), Cond.fieldLink RX2 19 "HarbourPilotline$Ship" "minutes" "I", Cond.methodLink RX2 25 Lib.Math.max.name, Cond.methodLink RX4 189 yX4_pastChannel, Cond.instanceMethod yX4_pastChannel, Cond.selects RX4 yX4_pastChannel yX4_pastChannel, Cond.code yX4_pastChannel cX4_pastChannel 6 (some .int), Cond.methodLink RX4 251 Lib.Math.abs.name, Cond.static Lib.Math.abs.name, Cond.code Lib.Math.abs.name Lib.Math.abs.code 1 (some .int), Cond.methodLink RX4 186 yX4_pastTugs, Cond.instanceMethod yX4_pastTugs, Cond.selects RX4 yX4_pastTugs yX4_pastTugs]
def wsL_again_r5 : List Cond := [Cond.code yX4_pastTugs cX4_pastTugs 6 (some .int), Cond.fieldLink RX4 247 "HarbourPilotline$Ship" "minutes" "I", Cond.fieldLink RX4 29 "HarbourPilotline" "tugs" "I", Cond.fieldLink RX4 250 "HarbourPilotline$Ship" "tugs" "I", Cond.methodLink RX4 212 yX4_tugsOfOthers, Cond.instanceMethod yX4_tugsOfOthers, Cond.selects RX4 yX4_tugsOfOthers yX4_tugsOfOthers, Cond.code yX4_tugsOfOthers cX4_tugsOfOthers 7 (some .int)]
def wsL_again : List Cond := .codeWith yL_again cL_again 4 (some .int) [(0, 9, 12, 32), (0, 9, 15, 23)] :: ((wsL_again_r1 ++ (wsL_again_r2 ++ (wsL_again_r3 ++ (wsL_again_r4 ++ wsL_again_r5)))) ++ wsX00 ++ wsX40 ++ wsJx4a65c0 ++ wsX20 ++ wsX30 ++ (vx_atS RX4 96 "java/lang/IllegalStateException" ["java/lang/RuntimeException", "java/lang/Exception"]).filter goodWord ++ (vx_atS RX4 179 "java/lang/IndexOutOfBoundsException" ["java/lang/RuntimeException", "java/lang/Exception"]).filter goodWord)
def wsL_drop_r1 : List Cond := [Cond.classLink RL 32 "java/lang/IndexOutOfBoundsException", Cond.classLink RL 23 "java/lang/IllegalStateException", Cond.methodLink RL 41 yX4_drop, Cond.instanceMethod yX4_drop, Cond.selects RX4 yX4_drop yX4_drop, Cond.initialized RX4, Cond.code yX4_drop cX4_drop 6 (some .int), Cond.classLink RX4 92 "java/lang/IllegalStateException", Cond.initialized "java/lang/IllegalStateException", Cond.fieldLink RX4 125 "HarbourPilotline$Conference" "state" "I", Cond.fieldLink RX4 122 "HarbourPilotline$Conference" "slot" "I", Cond.fieldLink RX4 140 "HarbourPilotline" "toldByDrops" "I", Cond.methodLink RX4 76 yX4_conferenceAt, Cond.instanceMethod yX4_conferenceAt, Cond.selects RX4 yX4_conferenceAt yX4_conferenceAt, Cond.code yX4_conferenceAt cX4_conferenceAt 2 (some (.object "HarbourPilotline$Conference")), Cond.classLink RX4 175 "java/lang/IndexOutOfBoundsException", Cond.initialized "java/lang/IndexOutOfBoundsException", Cond.fieldLink RX4 26 "HarbourPilotline" "conferences" "Ljava/util/ArrayList;", Cond.classLink RX4 71 "HarbourPilotline$Conference", Cond.methodLink RX4 43 yJx4a65c_size_8abf5, Cond.instanceMethod yJx4a65c_size_8abf5, Cond.selects RJx4a65c yJx4a65c_size_8abf5 yJx4a65c_size_8abf5, Cond.initialized RJx4a65c]
def wsL_drop_r2 : List Cond := [Cond.code yJx4a65c_size_8abf5 cJx4a65c_size_8abf5 1 (some .int), Cond.fieldLink RJx4a65c 48 "java/util/ArrayList" "size" "I", Cond.methodLink RX4 145 yJx4a65c_get_915e3, Cond.instanceMethod yJx4a65c_get_915e3, Cond.selects RJx4a65c yJx4a65c_get_915e3 yJx4a65c_get_915e3, Cond.code yJx4a65c_get_915e3 cJx4a65c_get_915e3 2 (some (.object "java/lang/Object")), Cond.methodLink RJx4a65c 118 yJ15_checkIndex_7cf53, Cond.static yJ15_checkIndex_7cf53, Cond.initialized RJ15, Cond.code yJ15_checkIndex_7cf53 cJ15_checkIndex_7cf53 2 (some .int), Cond.methodLink RJ15 105 yJ3_checkIndex_8e157, Cond.static yJ3_checkIndex_8e157, Cond.initialized RJ3, Cond.code yJ3_checkIndex_8e157 cJ3_checkIndex_8e157 3 (some .int), Cond.methodLink RJx4a65c 123 yJx4a65c_elementData_915e3, Cond.instanceMethod yJx4a65c_elementData_915e3, Cond.selects RJx4a65c yJx4a65c_elementData_915e3 yJx4a65c_elementData_915e3, Cond.code yJx4a65c_elementData_915e3 cJx4a65c_elementData_915e3 2 (some (.object "java/lang/Object")), Cond.fieldLink RJx4a65c 9 "java/util/ArrayList" "elementData" "[Ljava/lang/Object;", Cond.methodLink RX4 80 yX4_demandWho, Cond.static yX4_demandWho, Cond.code yX4_demandWho cX4_demandWho 1 none, Cond.methodLink RX4 88 yX0_hasIn, Cond.instanceMethod yX0_hasIn]
def wsL_drop_r3 : List Cond := [Cond.selects RX0 yX0_hasIn yX0_hasIn, Cond.initialized RX0, Cond.code yX0_hasIn cX0_hasIn 2 (some .boolean), Cond.fieldLink RX0 25 "HarbourPilotline$Conference" "shipIn" "Z", Cond.fieldLink RX0 29 "HarbourPilotline$Conference" "towerIn" "Z", Cond.fieldLink RX0 32 "HarbourPilotline$Conference" "pilot" "LHarbourPilotline$Pilot;", Cond.methodLink RX4 134 yX0_letOut, Cond.instanceMethod yX0_letOut, Cond.selects RX0 yX0_letOut yX0_letOut, Cond.code yX0_letOut cX0_letOut 2 none, Cond.fieldLink RX0 9 "HarbourPilotline$Conference" "state" "I", Cond.fieldLink RX0 15 "HarbourPilotline$Conference" "slot" "I", Cond.methodLink RX4 137 yX4_lookAnew, Cond.instanceMethod yX4_lookAnew, Cond.selects RX4 yX4_lookAnew yX4_lookAnew, Cond.code yX4_lookAnew cX4_lookAnew 5 (some .int), Cond.methodLink RX4 118 yX4_lookForSlot, Cond.instanceMethod yX4_lookForSlot, Cond.selects RX4 yX4_lookForSlot yX4_lookForSlot, Cond.code yX4_lookForSlot cX4_lookForSlot 2 none, Cond.fieldLink RX4 68 "HarbourPilotline" "now" "I", Cond.methodLink RX4 237 yX4_earliestSlot, Cond.instanceMethod yX4_earliestSlot, Cond.selects RX4 yX4_earliestSlot yX4_earliestSlot]
def wsL_drop_r4 : List Cond := [Cond.code yX4_earliestSlot cX4_earliestSlot 6 (some .int), Cond.fieldLink RX4 241 "HarbourPilotline$Conference" "wish" "I", Cond.methodLink RX4 161 Lib.Math.max.name, Cond.static Lib.Math.max.name, Cond.initialized "java/lang/Math", Cond.code Lib.Math.max.name Lib.Math.max.code 2 (some .int), Cond.fieldLink RX4 10 "HarbourPilotline" "tide" "LHarbourPilotline$Tide;", Cond.fieldLink RX4 102 "HarbourPilotline$Conference" "ship" "LHarbourPilotline$Ship;", Cond.methodLink RX4 157 yX3_pastShallows, Cond.instanceMethod yX3_pastShallows, Cond.selects RX3 yX3_pastShallows yX3_pastShallows, Cond.initialized RX3, Cond.code yX3_pastShallows cX3_pastShallows 5 (some .int), Cond.fieldLink RX3 22 "HarbourPilotline$Ship" "draught" "I", Cond.fieldLink RX3 27 "HarbourPilotline$Ship" "minutes" "I", Cond.fieldLink RX3 7 "HarbourPilotline$Tide" "depth" "I", Cond.methodLink RX3 30 yX3_aboveDepth, Cond.instanceMethod yX3_aboveDepth, Cond.selects RX3 yX3_aboveDepth yX3_aboveDepth, Cond.code yX3_aboveDepth cX3_aboveDepth 3 (some .int), Cond.methodLink RX3 16 Lib.Math.min.name, Cond.static Lib.Math.min.name, Cond.code Lib.Math.min.name Lib.Math.min.code 2 (some .int), Cond.fieldLink RX3 13 "HarbourPilotline$Tide" "rise" "I"]
def wsL_drop_r5 : List Cond := [Cond.methodLink RX4 182 yX4_pastRests, Cond.instanceMethod yX4_pastRests, Cond.selects RX4 yX4_pastRests yX4_pastRests, Cond.code yX4_pastRests cX4_pastRests 7 (some .int), Cond.fieldLink RX4 167 "HarbourPilotline$Conference" "pilot" "LHarbourPilotline$Pilot;", Cond.methodLink RX4 244 yX2_minutesWithRest, Cond.instanceMethod yX2_minutesWithRest, Cond.selects RX2 yX2_minutesWithRest yX2_minutesWithRest, Cond.initialized RX2, Cond.code yX2_minutesWithRest cX2_minutesWithRest 1 (some .int), Cond.fieldLink RX2 19 "HarbourPilotline$Ship" "minutes" "I", Cond.methodLink RX2 25 Lib.Math.max.name, Cond.methodLink RX4 189 yX4_pastChannel, Cond.instanceMethod yX4_pastChannel, Cond.selects RX4 yX4_pastChannel yX4_pastChannel, Cond.code yX4_pastChannel cX4_pastChannel 6 (some .int), Cond.methodLink RX4 251 Lib.Math.abs.name, Cond.static Lib.Math.abs.name, Cond.code Lib.Math.abs.name Lib.Math.abs.code 1 (some .int), Cond.methodLink RX4 186 yX4_pastTugs, Cond.instanceMethod yX4_pastTugs, Cond.selects RX4 yX4_pastTugs yX4_pastTugs, Cond.code yX4_pastTugs cX4_pastTugs 6 (some .int), Cond.fieldLink RX4 247 "HarbourPilotline$Ship" "minutes" "I"]
def wsL_drop_r6 : List Cond := [Cond.fieldLink RX4 29 "HarbourPilotline" "tugs" "I", Cond.fieldLink RX4 250 "HarbourPilotline$Ship" "tugs" "I", Cond.methodLink RX4 212 yX4_tugsOfOthers, Cond.instanceMethod yX4_tugsOfOthers, Cond.selects RX4 yX4_tugsOfOthers yX4_tugsOfOthers, Cond.code yX4_tugsOfOthers cX4_tugsOfOthers 7 (some .int)]
def wsL_drop : List Cond := .codeWith yL_drop cL_drop 5 (some .int) [(0, 10, 13, 32), (0, 10, 17, 23)] :: ((wsL_drop_r1 ++ (wsL_drop_r2 ++ (wsL_drop_r3 ++ (wsL_drop_r4 ++ (wsL_drop_r5 ++ wsL_drop_r6))))) ++ wsX00 ++ wsX40 ++ wsJx4a65c0 ++ wsX20 ++ wsX30 ++ (vx_atS RX4 96 "java/lang/IllegalStateException" ["java/lang/RuntimeException", "java/lang/Exception"]).filter goodWord ++ (vx_atS RX4 179 "java/lang/IndexOutOfBoundsException" ["java/lang/RuntimeException", "java/lang/Exception"]).filter goodWord)
def wsL_pass_r1 : List Cond := [Cond.classLink RL 13 "java/lang/IllegalArgumentException", Cond.classLink RL 23 "java/lang/IllegalStateException", Cond.methodLink RL 44 yX4_pass, Cond.instanceMethod yX4_pass, Cond.selects RX4 yX4_pass yX4_pass, Cond.initialized RX4, Cond.code yX4_pass cX4_pass 4 (some .int), Cond.classLink RX4 92 "java/lang/IllegalStateException", Cond.initialized "java/lang/IllegalStateException", Cond.fieldLink RX4 68 "HarbourPilotline" "now" "I", Cond.fieldLink RX4 26 "HarbourPilotline" "conferences" "Ljava/util/ArrayList;", Cond.classLink RX4 71 "HarbourPilotline$Conference", Cond.methodLink RX4 33 yX4_demandWithin, Cond.static yX4_demandWithin, Cond.code yX4_demandWithin cX4_demandWithin 3 none, Cond.classLink RX4 222 "java/lang/IllegalArgumentException", Cond.initialized "java/lang/IllegalArgumentException", Cond.methodLink RX4 43 yJx4a65c_size_8abf5, Cond.instanceMethod yJx4a65c_size_8abf5, Cond.selects RJx4a65c yJx4a65c_size_8abf5 yJx4a65c_size_8abf5, Cond.initialized RJx4a65c, Cond.code yJx4a65c_size_8abf5 cJx4a65c_size_8abf5 1 (some .int), Cond.fieldLink RJx4a65c 48 "java/util/ArrayList" "size" "I", Cond.methodLink RX4 145 yJx4a65c_get_915e3]
def wsL_pass_r2 : List Cond := [Cond.instanceMethod yJx4a65c_get_915e3, Cond.selects RJx4a65c yJx4a65c_get_915e3 yJx4a65c_get_915e3, Cond.code yJx4a65c_get_915e3 cJx4a65c_get_915e3 2 (some (.object "java/lang/Object")), Cond.methodLink RJx4a65c 118 yJ15_checkIndex_7cf53, Cond.static yJ15_checkIndex_7cf53, Cond.initialized RJ15, Cond.code yJ15_checkIndex_7cf53 cJ15_checkIndex_7cf53 2 (some .int), Cond.methodLink RJ15 105 yJ3_checkIndex_8e157, Cond.static yJ3_checkIndex_8e157, Cond.initialized RJ3, Cond.code yJ3_checkIndex_8e157 cJ3_checkIndex_8e157 3 (some .int), Cond.methodLink RJx4a65c 123 yJx4a65c_elementData_915e3, Cond.instanceMethod yJx4a65c_elementData_915e3, Cond.selects RJx4a65c yJx4a65c_elementData_915e3 yJx4a65c_elementData_915e3, Cond.code yJx4a65c_elementData_915e3 cJx4a65c_elementData_915e3 2 (some (.object "java/lang/Object")), Cond.fieldLink RJx4a65c 9 "java/util/ArrayList" "elementData" "[Ljava/lang/Object;", Cond.methodLink RX4 149 yX4_becomesDone, Cond.instanceMethod yX4_becomesDone, Cond.selects RX4 yX4_becomesDone yX4_becomesDone, Cond.code yX4_becomesDone cX4_becomesDone 3 (some .boolean), Cond.fieldLink RX4 125 "HarbourPilotline$Conference" "state" "I", Cond.fieldLink RX4 122 "HarbourPilotline$Conference" "slot" "I", Cond.fieldLink RX4 167 "HarbourPilotline$Conference" "pilot" "LHarbourPilotline$Pilot;", Cond.fieldLink RX4 102 "HarbourPilotline$Conference" "ship" "LHarbourPilotline$Ship;"]
def wsL_pass_r3 : List Cond := [Cond.fieldLink RX4 247 "HarbourPilotline$Ship" "minutes" "I", Cond.fieldLink RX4 196 "HarbourPilotline$Ship" "owes" "I", Cond.fieldLink RX4 209 "HarbourPilotline$Pilot" "rate" "I", Cond.fieldLink RX4 250 "HarbourPilotline$Ship" "tugs" "I", Cond.fieldLink RX4 199 "HarbourPilotline$Pilot" "movesDone" "I", Cond.fieldLink RX4 202 "HarbourPilotline$Pilot" "minutesDone" "I"]
def wsL_pass : List Cond := .codeWith yL_pass cL_pass 4 (some .int) [(0, 9, 12, 13), (0, 9, 15, 23)] :: ((wsL_pass_r1 ++ (wsL_pass_r2 ++ wsL_pass_r3)) ++ wsX40 ++ wsJx4a65c0 ++ wsX00 ++ wsX20 ++ wsX10 ++ (vx_atS RX4 96 "java/lang/IllegalStateException" ["java/lang/RuntimeException", "java/lang/Exception"]).filter goodWord ++ (vx_atS RX4 226 "java/lang/IllegalArgumentException" ["java/lang/RuntimeException", "java/lang/Exception"]).filter goodWord)
def wsL_level : List Cond := .codeWith yL_level cL_level 4 (some .int) [(0, 9, 12, 13)] :: ([.classLink RL 13 "java/lang/IllegalArgumentException", .methodLink RL 47 yX4_level, .instanceMethod yX4_level, .selects RX4 yX4_level yX4_level, .initialized RX4, .code yX4_level cX4_level 2 (some .int), .fieldLink RX4 10 "HarbourPilotline" "tide" "LHarbourPilotline$Tide;", .methodLink RX4 33 yX4_demandWithin, .static yX4_demandWithin, .code yX4_demandWithin cX4_demandWithin 3 none, .classLink RX4 222 "java/lang/IllegalArgumentException", .initialized "java/lang/IllegalArgumentException", .methodLink RX4 153 yX3_aboveDepth, .instanceMethod yX3_aboveDepth, .selects RX3 yX3_aboveDepth yX3_aboveDepth, .initialized RX3, .code yX3_aboveDepth cX3_aboveDepth 3 (some .int), .methodLink RX3 16 Lib.Math.min.name, .static Lib.Math.min.name, .initialized "java/lang/Math", .code Lib.Math.min.name Lib.Math.min.code 2 (some .int), .fieldLink RX3 13 "HarbourPilotline$Tide" "rise" "I"] ++ wsX40 ++ wsX30 ++ (vx_atS RX4 226 "java/lang/IllegalArgumentException" ["java/lang/RuntimeException", "java/lang/Exception"]).filter goodWord)
def wsL_window_r1 : List Cond := [Cond.classLink RL 32 "java/lang/IndexOutOfBoundsException", Cond.classLink RL 13 "java/lang/IllegalArgumentException", Cond.methodLink RL 50 yX4_window, Cond.instanceMethod yX4_window, Cond.selects RX4 yX4_window yX4_window, Cond.initialized RX4, Cond.code yX4_window cX4_window 7 (some .int), Cond.fieldLink RX4 10 "HarbourPilotline" "tide" "LHarbourPilotline$Tide;", Cond.methodLink RX4 161 Lib.Math.max.name, Cond.static Lib.Math.max.name, Cond.initialized "java/lang/Math", Cond.code Lib.Math.max.name Lib.Math.max.code 2 (some .int), Cond.methodLink RX4 64 yX4_shipAt, Cond.instanceMethod yX4_shipAt, Cond.selects RX4 yX4_shipAt yX4_shipAt, Cond.code yX4_shipAt cX4_shipAt 2 (some (.object "HarbourPilotline$Ship")), Cond.classLink RX4 175 "java/lang/IndexOutOfBoundsException", Cond.initialized "java/lang/IndexOutOfBoundsException", Cond.fieldLink RX4 19 "HarbourPilotline" "ships" "Ljava/util/ArrayList;", Cond.classLink RX4 51 "HarbourPilotline$Ship", Cond.methodLink RX4 43 yJx4a65c_size_8abf5, Cond.instanceMethod yJx4a65c_size_8abf5, Cond.selects RJx4a65c yJx4a65c_size_8abf5 yJx4a65c_size_8abf5, Cond.initialized RJx4a65c]
def wsL_window_r2 : List Cond := [Cond.code yJx4a65c_size_8abf5 cJx4a65c_size_8abf5 1 (some .int), Cond.fieldLink RJx4a65c 48 "java/util/ArrayList" "size" "I", Cond.methodLink RX4 145 yJx4a65c_get_915e3, Cond.instanceMethod yJx4a65c_get_915e3, Cond.selects RJx4a65c yJx4a65c_get_915e3 yJx4a65c_get_915e3, Cond.code yJx4a65c_get_915e3 cJx4a65c_get_915e3 2 (some (.object "java/lang/Object")), Cond.methodLink RJx4a65c 118 yJ15_checkIndex_7cf53, Cond.static yJ15_checkIndex_7cf53, Cond.initialized RJ15, Cond.code yJ15_checkIndex_7cf53 cJ15_checkIndex_7cf53 2 (some .int), Cond.methodLink RJ15 105 yJ3_checkIndex_8e157, Cond.static yJ3_checkIndex_8e157, Cond.initialized RJ3, Cond.code yJ3_checkIndex_8e157 cJ3_checkIndex_8e157 3 (some .int), Cond.methodLink RJx4a65c 123 yJx4a65c_elementData_915e3, Cond.instanceMethod yJx4a65c_elementData_915e3, Cond.selects RJx4a65c yJx4a65c_elementData_915e3 yJx4a65c_elementData_915e3, Cond.code yJx4a65c_elementData_915e3 cJx4a65c_elementData_915e3 2 (some (.object "java/lang/Object")), Cond.fieldLink RJx4a65c 9 "java/util/ArrayList" "elementData" "[Ljava/lang/Object;", Cond.methodLink RX4 33 yX4_demandWithin, Cond.static yX4_demandWithin, Cond.code yX4_demandWithin cX4_demandWithin 3 none, Cond.classLink RX4 222 "java/lang/IllegalArgumentException", Cond.initialized "java/lang/IllegalArgumentException"]
def wsL_window_r3 : List Cond := [Cond.methodLink RX4 157 yX3_pastShallows, Cond.instanceMethod yX3_pastShallows, Cond.selects RX3 yX3_pastShallows yX3_pastShallows, Cond.initialized RX3, Cond.code yX3_pastShallows cX3_pastShallows 5 (some .int), Cond.fieldLink RX3 22 "HarbourPilotline$Ship" "draught" "I", Cond.fieldLink RX3 27 "HarbourPilotline$Ship" "minutes" "I", Cond.fieldLink RX3 7 "HarbourPilotline$Tide" "depth" "I", Cond.methodLink RX3 30 yX3_aboveDepth, Cond.instanceMethod yX3_aboveDepth, Cond.selects RX3 yX3_aboveDepth yX3_aboveDepth, Cond.code yX3_aboveDepth cX3_aboveDepth 3 (some .int), Cond.methodLink RX3 16 Lib.Math.min.name, Cond.static Lib.Math.min.name, Cond.code Lib.Math.min.name Lib.Math.min.code 2 (some .int), Cond.fieldLink RX3 13 "HarbourPilotline$Tide" "rise" "I"]
def wsL_window : List Cond := .codeWith yL_window cL_window 5 (some .int) [(0, 10, 13, 32), (0, 10, 17, 13)] :: ((wsL_window_r1 ++ (wsL_window_r2 ++ wsL_window_r3)) ++ wsX40 ++ wsJx4a65c0 ++ wsX20 ++ wsX30 ++ (vx_atS RX4 179 "java/lang/IndexOutOfBoundsException" ["java/lang/RuntimeException", "java/lang/Exception"]).filter goodWord ++ (vx_atS RX4 226 "java/lang/IllegalArgumentException" ["java/lang/RuntimeException", "java/lang/Exception"]).filter goodWord)
def wsL_ofConference_r1 : List Cond := [Cond.classLink RL 32 "java/lang/IndexOutOfBoundsException", Cond.methodLink RL 53 yX4_ofConference, Cond.instanceMethod yX4_ofConference, Cond.selects RX4 yX4_ofConference yX4_ofConference, Cond.initialized RX4, Cond.code yX4_ofConference cX4_ofConference 4 (some .int), Cond.classLink RX4 175 "java/lang/IndexOutOfBoundsException", Cond.initialized "java/lang/IndexOutOfBoundsException", Cond.fieldLink RX4 125 "HarbourPilotline$Conference" "state" "I", Cond.fieldLink RX4 122 "HarbourPilotline$Conference" "slot" "I", Cond.fieldLink RX4 167 "HarbourPilotline$Conference" "pilot" "LHarbourPilotline$Pilot;", Cond.fieldLink RX4 171 "HarbourPilotline$Pilot" "number" "I", Cond.fieldLink RX4 102 "HarbourPilotline$Conference" "ship" "LHarbourPilotline$Ship;", Cond.fieldLink RX4 174 "HarbourPilotline$Ship" "number" "I", Cond.methodLink RX4 76 yX4_conferenceAt, Cond.instanceMethod yX4_conferenceAt, Cond.selects RX4 yX4_conferenceAt yX4_conferenceAt, Cond.code yX4_conferenceAt cX4_conferenceAt 2 (some (.object "HarbourPilotline$Conference")), Cond.fieldLink RX4 26 "HarbourPilotline" "conferences" "Ljava/util/ArrayList;", Cond.classLink RX4 71 "HarbourPilotline$Conference", Cond.methodLink RX4 43 yJx4a65c_size_8abf5, Cond.instanceMethod yJx4a65c_size_8abf5, Cond.selects RJx4a65c yJx4a65c_size_8abf5 yJx4a65c_size_8abf5, Cond.initialized RJx4a65c]
def wsL_ofConference_r2 : List Cond := [Cond.code yJx4a65c_size_8abf5 cJx4a65c_size_8abf5 1 (some .int), Cond.fieldLink RJx4a65c 48 "java/util/ArrayList" "size" "I", Cond.methodLink RX4 145 yJx4a65c_get_915e3, Cond.instanceMethod yJx4a65c_get_915e3, Cond.selects RJx4a65c yJx4a65c_get_915e3 yJx4a65c_get_915e3, Cond.code yJx4a65c_get_915e3 cJx4a65c_get_915e3 2 (some (.object "java/lang/Object")), Cond.methodLink RJx4a65c 118 yJ15_checkIndex_7cf53, Cond.static yJ15_checkIndex_7cf53, Cond.initialized RJ15, Cond.code yJ15_checkIndex_7cf53 cJ15_checkIndex_7cf53 2 (some .int), Cond.methodLink RJ15 105 yJ3_checkIndex_8e157, Cond.static yJ3_checkIndex_8e157, Cond.initialized RJ3, Cond.code yJ3_checkIndex_8e157 cJ3_checkIndex_8e157 3 (some .int), Cond.methodLink RJx4a65c 123 yJx4a65c_elementData_915e3, Cond.instanceMethod yJx4a65c_elementData_915e3, Cond.selects RJx4a65c yJx4a65c_elementData_915e3 yJx4a65c_elementData_915e3, Cond.code yJx4a65c_elementData_915e3 cJx4a65c_elementData_915e3 2 (some (.object "java/lang/Object")), Cond.fieldLink RJx4a65c 9 "java/util/ArrayList" "elementData" "[Ljava/lang/Object;", Cond.methodLink RX4 115 yX0_howManyIn, Cond.instanceMethod yX0_howManyIn, Cond.selects RX0 yX0_howManyIn yX0_howManyIn, Cond.initialized RX0, Cond.code yX0_howManyIn cX0_howManyIn 1 (some .int)]
def wsL_ofConference_r3 : List Cond := [Cond.fieldLink RX0 25 "HarbourPilotline$Conference" "shipIn" "Z", Cond.fieldLink RX0 29 "HarbourPilotline$Conference" "towerIn" "Z", Cond.fieldLink RX0 32 "HarbourPilotline$Conference" "pilot" "LHarbourPilotline$Pilot;"]
def wsL_ofConference : List Cond := .codeWith yL_ofConference cL_ofConference 5 (some .int) [(0, 10, 13, 32)] :: ((wsL_ofConference_r1 ++ (wsL_ofConference_r2 ++ wsL_ofConference_r3)) ++ wsX00 ++ wsX10 ++ wsX20 ++ wsX40 ++ wsJx4a65c0 ++ (vx_atS RX4 179 "java/lang/IndexOutOfBoundsException" ["java/lang/RuntimeException", "java/lang/Exception"]).filter goodWord)
def wsL_why_r1 : List Cond := [Cond.classLink RL 32 "java/lang/IndexOutOfBoundsException", Cond.classLink RL 13 "java/lang/IllegalArgumentException", Cond.classLink RL 23 "java/lang/IllegalStateException", Cond.methodLink RL 56 yX4_why, Cond.instanceMethod yX4_why, Cond.selects RX4 yX4_why yX4_why, Cond.initialized RX4, Cond.code yX4_why cX4_why 4 (some .int), Cond.classLink RX4 92 "java/lang/IllegalStateException", Cond.initialized "java/lang/IllegalStateException", Cond.fieldLink RX4 68 "HarbourPilotline" "now" "I", Cond.fieldLink RX4 167 "HarbourPilotline$Conference" "pilot" "LHarbourPilotline$Pilot;", Cond.fieldLink RX4 10 "HarbourPilotline" "tide" "LHarbourPilotline$Tide;", Cond.fieldLink RX4 102 "HarbourPilotline$Conference" "ship" "LHarbourPilotline$Ship;", Cond.methodLink RX4 76 yX4_conferenceAt, Cond.instanceMethod yX4_conferenceAt, Cond.selects RX4 yX4_conferenceAt yX4_conferenceAt, Cond.code yX4_conferenceAt cX4_conferenceAt 2 (some (.object "HarbourPilotline$Conference")), Cond.classLink RX4 175 "java/lang/IndexOutOfBoundsException", Cond.initialized "java/lang/IndexOutOfBoundsException", Cond.fieldLink RX4 26 "HarbourPilotline" "conferences" "Ljava/util/ArrayList;", Cond.classLink RX4 71 "HarbourPilotline$Conference", Cond.methodLink RX4 43 yJx4a65c_size_8abf5, Cond.instanceMethod yJx4a65c_size_8abf5]
def wsL_why_r2 : List Cond := [Cond.selects RJx4a65c yJx4a65c_size_8abf5 yJx4a65c_size_8abf5, Cond.initialized RJx4a65c, Cond.code yJx4a65c_size_8abf5 cJx4a65c_size_8abf5 1 (some .int), Cond.fieldLink RJx4a65c 48 "java/util/ArrayList" "size" "I", Cond.methodLink RX4 145 yJx4a65c_get_915e3, Cond.instanceMethod yJx4a65c_get_915e3, Cond.selects RJx4a65c yJx4a65c_get_915e3 yJx4a65c_get_915e3, Cond.code yJx4a65c_get_915e3 cJx4a65c_get_915e3 2 (some (.object "java/lang/Object")), Cond.methodLink RJx4a65c 118 yJ15_checkIndex_7cf53, Cond.static yJ15_checkIndex_7cf53, Cond.initialized RJ15, Cond.code yJ15_checkIndex_7cf53 cJ15_checkIndex_7cf53 2 (some .int), Cond.methodLink RJ15 105 yJ3_checkIndex_8e157, Cond.static yJ3_checkIndex_8e157, Cond.initialized RJ3, Cond.code yJ3_checkIndex_8e157 cJ3_checkIndex_8e157 3 (some .int), Cond.methodLink RJx4a65c 123 yJx4a65c_elementData_915e3, Cond.instanceMethod yJx4a65c_elementData_915e3, Cond.selects RJx4a65c yJx4a65c_elementData_915e3 yJx4a65c_elementData_915e3, Cond.code yJx4a65c_elementData_915e3 cJx4a65c_elementData_915e3 2 (some (.object "java/lang/Object")), Cond.fieldLink RJx4a65c 9 "java/util/ArrayList" "elementData" "[Ljava/lang/Object;", Cond.methodLink RX4 33 yX4_demandWithin, Cond.static yX4_demandWithin, Cond.code yX4_demandWithin cX4_demandWithin 3 none]
def wsL_why_r3 : List Cond := [Cond.classLink RX4 222 "java/lang/IllegalArgumentException", Cond.initialized "java/lang/IllegalArgumentException", Cond.methodLink RX4 157 yX3_pastShallows, Cond.instanceMethod yX3_pastShallows, Cond.selects RX3 yX3_pastShallows yX3_pastShallows, Cond.initialized RX3, Cond.code yX3_pastShallows cX3_pastShallows 5 (some .int), Cond.fieldLink RX3 22 "HarbourPilotline$Ship" "draught" "I", Cond.fieldLink RX3 27 "HarbourPilotline$Ship" "minutes" "I", Cond.fieldLink RX3 7 "HarbourPilotline$Tide" "depth" "I", Cond.methodLink RX3 30 yX3_aboveDepth, Cond.instanceMethod yX3_aboveDepth, Cond.selects RX3 yX3_aboveDepth yX3_aboveDepth, Cond.code yX3_aboveDepth cX3_aboveDepth 3 (some .int), Cond.methodLink RX3 16 Lib.Math.min.name, Cond.static Lib.Math.min.name, Cond.initialized "java/lang/Math", Cond.code Lib.Math.min.name Lib.Math.min.code 2 (some .int), Cond.fieldLink RX3 13 "HarbourPilotline$Tide" "rise" "I", Cond.methodLink RX4 182 yX4_pastRests, Cond.instanceMethod yX4_pastRests, Cond.selects RX4 yX4_pastRests yX4_pastRests, Cond.code yX4_pastRests cX4_pastRests 7 (some .int), Cond.fieldLink RX4 122 "HarbourPilotline$Conference" "slot" "I"]
def wsL_why_r4 : List Cond := [Cond.methodLink RX4 161 Lib.Math.max.name, Cond.static Lib.Math.max.name, Cond.code Lib.Math.max.name Lib.Math.max.code 2 (some .int), Cond.methodLink RX4 244 yX2_minutesWithRest, Cond.instanceMethod yX2_minutesWithRest, Cond.selects RX2 yX2_minutesWithRest yX2_minutesWithRest, Cond.initialized RX2, Cond.code yX2_minutesWithRest cX2_minutesWithRest 1 (some .int), Cond.fieldLink RX2 19 "HarbourPilotline$Ship" "minutes" "I", Cond.methodLink RX2 25 Lib.Math.max.name, Cond.methodLink RX4 186 yX4_pastTugs, Cond.instanceMethod yX4_pastTugs, Cond.selects RX4 yX4_pastTugs yX4_pastTugs, Cond.code yX4_pastTugs cX4_pastTugs 6 (some .int), Cond.fieldLink RX4 247 "HarbourPilotline$Ship" "minutes" "I", Cond.fieldLink RX4 29 "HarbourPilotline" "tugs" "I", Cond.fieldLink RX4 250 "HarbourPilotline$Ship" "tugs" "I", Cond.methodLink RX4 212 yX4_tugsOfOthers, Cond.instanceMethod yX4_tugsOfOthers, Cond.selects RX4 yX4_tugsOfOthers yX4_tugsOfOthers, Cond.code yX4_tugsOfOthers cX4_tugsOfOthers 7 (some .int), Cond.methodLink RX4 189 yX4_pastChannel, Cond.instanceMethod yX4_pastChannel, Cond.selects RX4 yX4_pastChannel yX4_pastChannel]
def wsL_why_r5 : List Cond := [Cond.code yX4_pastChannel cX4_pastChannel 6 (some .int), Cond.methodLink RX4 251 Lib.Math.abs.name, Cond.static Lib.Math.abs.name, Cond.code Lib.Math.abs.name Lib.Math.abs.code 1 (some .int)]
def wsL_why : List Cond := .codeWith yL_why cL_why 5 (some .int) [(0, 10, 13, 32), (0, 10, 17, 13), (0, 10, 21, 23)] :: ((wsL_why_r1 ++ (wsL_why_r2 ++ (wsL_why_r3 ++ (wsL_why_r4 ++ wsL_why_r5)))) ++ wsX40 ++ wsX00 ++ wsJx4a65c0 ++ wsX20 ++ wsX30 ++ (vx_atS RX4 96 "java/lang/IllegalStateException" ["java/lang/RuntimeException", "java/lang/Exception"]).filter goodWord ++ (vx_atS RX4 179 "java/lang/IndexOutOfBoundsException" ["java/lang/RuntimeException", "java/lang/Exception"]).filter goodWord ++ (vx_atS RX4 226 "java/lang/IllegalArgumentException" ["java/lang/RuntimeException", "java/lang/Exception"]).filter goodWord)
def wsL_rested_r1 : List Cond := [Cond.classLink RL 32 "java/lang/IndexOutOfBoundsException", Cond.methodLink RL 59 yX4_rested, Cond.instanceMethod yX4_rested, Cond.selects RX4 yX4_rested yX4_rested, Cond.initialized RX4, Cond.code yX4_rested cX4_rested 2 (some .int), Cond.methodLink RX4 84 yX4_pilotAt, Cond.instanceMethod yX4_pilotAt, Cond.selects RX4 yX4_pilotAt yX4_pilotAt, Cond.code yX4_pilotAt cX4_pilotAt 2 (some (.object "HarbourPilotline$Pilot")), Cond.classLink RX4 175 "java/lang/IndexOutOfBoundsException", Cond.initialized "java/lang/IndexOutOfBoundsException", Cond.fieldLink RX4 23 "HarbourPilotline" "pilots" "Ljava/util/ArrayList;", Cond.classLink RX4 60 "HarbourPilotline$Pilot", Cond.methodLink RX4 43 yJx4a65c_size_8abf5, Cond.instanceMethod yJx4a65c_size_8abf5, Cond.selects RJx4a65c yJx4a65c_size_8abf5 yJx4a65c_size_8abf5, Cond.initialized RJx4a65c, Cond.code yJx4a65c_size_8abf5 cJx4a65c_size_8abf5 1 (some .int), Cond.fieldLink RJx4a65c 48 "java/util/ArrayList" "size" "I", Cond.methodLink RX4 145 yJx4a65c_get_915e3, Cond.instanceMethod yJx4a65c_get_915e3, Cond.selects RJx4a65c yJx4a65c_get_915e3 yJx4a65c_get_915e3, Cond.code yJx4a65c_get_915e3 cJx4a65c_get_915e3 2 (some (.object "java/lang/Object"))]
def wsL_rested_r2 : List Cond := [Cond.methodLink RJx4a65c 118 yJ15_checkIndex_7cf53, Cond.static yJ15_checkIndex_7cf53, Cond.initialized RJ15, Cond.code yJ15_checkIndex_7cf53 cJ15_checkIndex_7cf53 2 (some .int), Cond.methodLink RJ15 105 yJ3_checkIndex_8e157, Cond.static yJ3_checkIndex_8e157, Cond.initialized RJ3, Cond.code yJ3_checkIndex_8e157 cJ3_checkIndex_8e157 3 (some .int), Cond.methodLink RJx4a65c 123 yJx4a65c_elementData_915e3, Cond.instanceMethod yJx4a65c_elementData_915e3, Cond.selects RJx4a65c yJx4a65c_elementData_915e3 yJx4a65c_elementData_915e3, Cond.code yJx4a65c_elementData_915e3 cJx4a65c_elementData_915e3 2 (some (.object "java/lang/Object")), Cond.fieldLink RJx4a65c 9 "java/util/ArrayList" "elementData" "[Ljava/lang/Object;", Cond.methodLink RX4 192 yX4_restedBehindSlots, Cond.instanceMethod yX4_restedBehindSlots, Cond.selects RX4 yX4_restedBehindSlots yX4_restedBehindSlots, Cond.code yX4_restedBehindSlots cX4_restedBehindSlots 5 (some .int), Cond.fieldLink RX4 68 "HarbourPilotline" "now" "I", Cond.fieldLink RX4 26 "HarbourPilotline" "conferences" "Ljava/util/ArrayList;", Cond.classLink RX4 71 "HarbourPilotline$Conference", Cond.fieldLink RX4 167 "HarbourPilotline$Conference" "pilot" "LHarbourPilotline$Pilot;", Cond.fieldLink RX4 122 "HarbourPilotline$Conference" "slot" "I", Cond.fieldLink RX4 102 "HarbourPilotline$Conference" "ship" "LHarbourPilotline$Ship;", Cond.methodLink RX4 161 Lib.Math.max.name]
def wsL_rested_r3 : List Cond := [Cond.static Lib.Math.max.name, Cond.initialized "java/lang/Math", Cond.code Lib.Math.max.name Lib.Math.max.code 2 (some .int), Cond.methodLink RX4 244 yX2_minutesWithRest, Cond.instanceMethod yX2_minutesWithRest, Cond.selects RX2 yX2_minutesWithRest yX2_minutesWithRest, Cond.initialized RX2, Cond.code yX2_minutesWithRest cX2_minutesWithRest 1 (some .int), Cond.fieldLink RX2 19 "HarbourPilotline$Ship" "minutes" "I", Cond.methodLink RX2 25 Lib.Math.max.name]
def wsL_rested : List Cond := .codeWith yL_rested cL_rested 4 (some .int) [(0, 9, 12, 32)] :: ((wsL_rested_r1 ++ (wsL_rested_r2 ++ wsL_rested_r3)) ++ wsX40 ++ wsJx4a65c0 ++ wsX00 ++ wsX20 ++ (vx_atS RX4 179 "java/lang/IndexOutOfBoundsException" ["java/lang/RuntimeException", "java/lang/Exception"]).filter goodWord)
def wsL_restedAnew_r1 : List Cond := [Cond.classLink RL 32 "java/lang/IndexOutOfBoundsException", Cond.methodLink RL 62 yX4_restedAnew, Cond.instanceMethod yX4_restedAnew, Cond.selects RX4 yX4_restedAnew yX4_restedAnew, Cond.initialized RX4, Cond.code yX4_restedAnew cX4_restedAnew 2 (some .int), Cond.methodLink RX4 84 yX4_pilotAt, Cond.instanceMethod yX4_pilotAt, Cond.selects RX4 yX4_pilotAt yX4_pilotAt, Cond.code yX4_pilotAt cX4_pilotAt 2 (some (.object "HarbourPilotline$Pilot")), Cond.classLink RX4 175 "java/lang/IndexOutOfBoundsException", Cond.initialized "java/lang/IndexOutOfBoundsException", Cond.fieldLink RX4 23 "HarbourPilotline" "pilots" "Ljava/util/ArrayList;", Cond.classLink RX4 60 "HarbourPilotline$Pilot", Cond.methodLink RX4 43 yJx4a65c_size_8abf5, Cond.instanceMethod yJx4a65c_size_8abf5, Cond.selects RJx4a65c yJx4a65c_size_8abf5 yJx4a65c_size_8abf5, Cond.initialized RJx4a65c, Cond.code yJx4a65c_size_8abf5 cJx4a65c_size_8abf5 1 (some .int), Cond.fieldLink RJx4a65c 48 "java/util/ArrayList" "size" "I", Cond.methodLink RX4 145 yJx4a65c_get_915e3, Cond.instanceMethod yJx4a65c_get_915e3, Cond.selects RJx4a65c yJx4a65c_get_915e3 yJx4a65c_get_915e3, Cond.code yJx4a65c_get_915e3 cJx4a65c_get_915e3 2 (some (.object "java/lang/Object"))]
def wsL_restedAnew_r2 : List Cond := [Cond.methodLink RJx4a65c 118 yJ15_checkIndex_7cf53, Cond.static yJ15_checkIndex_7cf53, Cond.initialized RJ15, Cond.code yJ15_checkIndex_7cf53 cJ15_checkIndex_7cf53 2 (some .int), Cond.methodLink RJ15 105 yJ3_checkIndex_8e157, Cond.static yJ3_checkIndex_8e157, Cond.initialized RJ3, Cond.code yJ3_checkIndex_8e157 cJ3_checkIndex_8e157 3 (some .int), Cond.methodLink RJx4a65c 123 yJx4a65c_elementData_915e3, Cond.instanceMethod yJx4a65c_elementData_915e3, Cond.selects RJx4a65c yJx4a65c_elementData_915e3 yJx4a65c_elementData_915e3, Cond.code yJx4a65c_elementData_915e3 cJx4a65c_elementData_915e3 2 (some (.object "java/lang/Object")), Cond.fieldLink RJx4a65c 9 "java/util/ArrayList" "elementData" "[Ljava/lang/Object;", Cond.methodLink RX4 192 yX4_restedBehindSlots, Cond.instanceMethod yX4_restedBehindSlots, Cond.selects RX4 yX4_restedBehindSlots yX4_restedBehindSlots, Cond.code yX4_restedBehindSlots cX4_restedBehindSlots 5 (some .int), Cond.fieldLink RX4 68 "HarbourPilotline" "now" "I", Cond.fieldLink RX4 26 "HarbourPilotline" "conferences" "Ljava/util/ArrayList;", Cond.classLink RX4 71 "HarbourPilotline$Conference", Cond.fieldLink RX4 167 "HarbourPilotline$Conference" "pilot" "LHarbourPilotline$Pilot;", Cond.fieldLink RX4 122 "HarbourPilotline$Conference" "slot" "I", Cond.fieldLink RX4 102 "HarbourPilotline$Conference" "ship" "LHarbourPilotline$Ship;", Cond.methodLink RX4 161 Lib.Math.max.name]
def wsL_restedAnew_r3 : List Cond := [Cond.static Lib.Math.max.name, Cond.initialized "java/lang/Math", Cond.code Lib.Math.max.name Lib.Math.max.code 2 (some .int), Cond.methodLink RX4 244 yX2_minutesWithRest, Cond.instanceMethod yX2_minutesWithRest, Cond.selects RX2 yX2_minutesWithRest yX2_minutesWithRest, Cond.initialized RX2, Cond.code yX2_minutesWithRest cX2_minutesWithRest 1 (some .int), Cond.fieldLink RX2 19 "HarbourPilotline$Ship" "minutes" "I", Cond.methodLink RX2 25 Lib.Math.max.name]
def wsL_restedAnew : List Cond := .codeWith yL_restedAnew cL_restedAnew 4 (some .int) [(0, 9, 12, 32)] :: ((wsL_restedAnew_r1 ++ (wsL_restedAnew_r2 ++ wsL_restedAnew_r3)) ++ wsX40 ++ wsJx4a65c0 ++ wsX00 ++ wsX20 ++ (vx_atS RX4 179 "java/lang/IndexOutOfBoundsException" ["java/lang/RuntimeException", "java/lang/Exception"]).filter goodWord)
def wsL_bill_r1 : List Cond := [Cond.classLink RL 32 "java/lang/IndexOutOfBoundsException", Cond.methodLink RL 65 yX4_bill, Cond.instanceMethod yX4_bill, Cond.selects RX4 yX4_bill yX4_bill, Cond.initialized RX4, Cond.code yX4_bill cX4_bill 2 (some .int), Cond.fieldLink RX4 196 "HarbourPilotline$Ship" "owes" "I", Cond.methodLink RX4 64 yX4_shipAt, Cond.instanceMethod yX4_shipAt, Cond.selects RX4 yX4_shipAt yX4_shipAt, Cond.code yX4_shipAt cX4_shipAt 2 (some (.object "HarbourPilotline$Ship")), Cond.classLink RX4 175 "java/lang/IndexOutOfBoundsException", Cond.initialized "java/lang/IndexOutOfBoundsException", Cond.fieldLink RX4 19 "HarbourPilotline" "ships" "Ljava/util/ArrayList;", Cond.classLink RX4 51 "HarbourPilotline$Ship", Cond.methodLink RX4 43 yJx4a65c_size_8abf5, Cond.instanceMethod yJx4a65c_size_8abf5, Cond.selects RJx4a65c yJx4a65c_size_8abf5 yJx4a65c_size_8abf5, Cond.initialized RJx4a65c, Cond.code yJx4a65c_size_8abf5 cJx4a65c_size_8abf5 1 (some .int), Cond.fieldLink RJx4a65c 48 "java/util/ArrayList" "size" "I", Cond.methodLink RX4 145 yJx4a65c_get_915e3, Cond.instanceMethod yJx4a65c_get_915e3, Cond.selects RJx4a65c yJx4a65c_get_915e3 yJx4a65c_get_915e3]
def wsL_bill_r2 : List Cond := [Cond.code yJx4a65c_get_915e3 cJx4a65c_get_915e3 2 (some (.object "java/lang/Object")), Cond.methodLink RJx4a65c 118 yJ15_checkIndex_7cf53, Cond.static yJ15_checkIndex_7cf53, Cond.initialized RJ15, Cond.code yJ15_checkIndex_7cf53 cJ15_checkIndex_7cf53 2 (some .int), Cond.methodLink RJ15 105 yJ3_checkIndex_8e157, Cond.static yJ3_checkIndex_8e157, Cond.initialized RJ3, Cond.code yJ3_checkIndex_8e157 cJ3_checkIndex_8e157 3 (some .int), Cond.methodLink RJx4a65c 123 yJx4a65c_elementData_915e3, Cond.instanceMethod yJx4a65c_elementData_915e3, Cond.selects RJx4a65c yJx4a65c_elementData_915e3 yJx4a65c_elementData_915e3, Cond.code yJx4a65c_elementData_915e3 cJx4a65c_elementData_915e3 2 (some (.object "java/lang/Object")), Cond.fieldLink RJx4a65c 9 "java/util/ArrayList" "elementData" "[Ljava/lang/Object;"]
def wsL_bill : List Cond := .codeWith yL_bill cL_bill 4 (some .int) [(0, 9, 12, 32)] :: ((wsL_bill_r1 ++ wsL_bill_r2) ++ wsX20 ++ wsX40 ++ wsJx4a65c0 ++ (vx_atS RX4 179 "java/lang/IndexOutOfBoundsException" ["java/lang/RuntimeException", "java/lang/Exception"]).filter goodWord)
def wsL_ofPilot_r1 : List Cond := [Cond.classLink RL 32 "java/lang/IndexOutOfBoundsException", Cond.methodLink RL 68 yX4_ofPilot, Cond.instanceMethod yX4_ofPilot, Cond.selects RX4 yX4_ofPilot yX4_ofPilot, Cond.initialized RX4, Cond.code yX4_ofPilot cX4_ofPilot 4 (some .int), Cond.classLink RX4 175 "java/lang/IndexOutOfBoundsException", Cond.initialized "java/lang/IndexOutOfBoundsException", Cond.fieldLink RX4 199 "HarbourPilotline$Pilot" "movesDone" "I", Cond.fieldLink RX4 202 "HarbourPilotline$Pilot" "minutesDone" "I", Cond.fieldLink RX4 209 "HarbourPilotline$Pilot" "rate" "I", Cond.methodLink RX4 84 yX4_pilotAt, Cond.instanceMethod yX4_pilotAt, Cond.selects RX4 yX4_pilotAt yX4_pilotAt, Cond.code yX4_pilotAt cX4_pilotAt 2 (some (.object "HarbourPilotline$Pilot")), Cond.fieldLink RX4 23 "HarbourPilotline" "pilots" "Ljava/util/ArrayList;", Cond.classLink RX4 60 "HarbourPilotline$Pilot", Cond.methodLink RX4 43 yJx4a65c_size_8abf5, Cond.instanceMethod yJx4a65c_size_8abf5, Cond.selects RJx4a65c yJx4a65c_size_8abf5 yJx4a65c_size_8abf5, Cond.initialized RJx4a65c, Cond.code yJx4a65c_size_8abf5 cJx4a65c_size_8abf5 1 (some .int), Cond.fieldLink RJx4a65c 48 "java/util/ArrayList" "size" "I", Cond.methodLink RX4 145 yJx4a65c_get_915e3]
def wsL_ofPilot_r2 : List Cond := [Cond.instanceMethod yJx4a65c_get_915e3, Cond.selects RJx4a65c yJx4a65c_get_915e3 yJx4a65c_get_915e3, Cond.code yJx4a65c_get_915e3 cJx4a65c_get_915e3 2 (some (.object "java/lang/Object")), Cond.methodLink RJx4a65c 118 yJ15_checkIndex_7cf53, Cond.static yJ15_checkIndex_7cf53, Cond.initialized RJ15, Cond.code yJ15_checkIndex_7cf53 cJ15_checkIndex_7cf53 2 (some .int), Cond.methodLink RJ15 105 yJ3_checkIndex_8e157, Cond.static yJ3_checkIndex_8e157, Cond.initialized RJ3, Cond.code yJ3_checkIndex_8e157 cJ3_checkIndex_8e157 3 (some .int), Cond.methodLink RJx4a65c 123 yJx4a65c_elementData_915e3, Cond.instanceMethod yJx4a65c_elementData_915e3, Cond.selects RJx4a65c yJx4a65c_elementData_915e3 yJx4a65c_elementData_915e3, Cond.code yJx4a65c_elementData_915e3 cJx4a65c_elementData_915e3 2 (some (.object "java/lang/Object")), Cond.fieldLink RJx4a65c 9 "java/util/ArrayList" "elementData" "[Ljava/lang/Object;", Cond.methodLink RX4 205 yX4_isAboard, Cond.instanceMethod yX4_isAboard, Cond.selects RX4 yX4_isAboard yX4_isAboard, Cond.code yX4_isAboard cX4_isAboard 4 (some .boolean), Cond.fieldLink RX4 26 "HarbourPilotline" "conferences" "Ljava/util/ArrayList;", Cond.classLink RX4 71 "HarbourPilotline$Conference", Cond.fieldLink RX4 167 "HarbourPilotline$Conference" "pilot" "LHarbourPilotline$Pilot;", Cond.fieldLink RX4 125 "HarbourPilotline$Conference" "state" "I"]
def wsL_ofPilot : List Cond := .codeWith yL_ofPilot cL_ofPilot 5 (some .int) [(0, 10, 13, 32)] :: ((wsL_ofPilot_r1 ++ wsL_ofPilot_r2) ++ wsX10 ++ wsX40 ++ wsJx4a65c0 ++ wsX00 ++ (vx_atS RX4 179 "java/lang/IndexOutOfBoundsException" ["java/lang/RuntimeException", "java/lang/Exception"]).filter goodWord)
def wsL_count_r1 : List Cond := [Cond.classLink RL 13 "java/lang/IllegalArgumentException", Cond.methodLink RL 71 yX4_count, Cond.instanceMethod yX4_count, Cond.selects RX4 yX4_count yX4_count, Cond.initialized RX4, Cond.code yX4_count cX4_count 2 (some .int), Cond.fieldLink RX4 68 "HarbourPilotline" "now" "I", Cond.fieldLink RX4 140 "HarbourPilotline" "toldByDrops" "I", Cond.methodLink RX4 33 yX4_demandWithin, Cond.static yX4_demandWithin, Cond.code yX4_demandWithin cX4_demandWithin 3 none, Cond.classLink RX4 222 "java/lang/IllegalArgumentException", Cond.initialized "java/lang/IllegalArgumentException", Cond.methodLink RX4 212 yX4_tugsOfOthers, Cond.instanceMethod yX4_tugsOfOthers, Cond.selects RX4 yX4_tugsOfOthers yX4_tugsOfOthers, Cond.code yX4_tugsOfOthers cX4_tugsOfOthers 7 (some .int), Cond.fieldLink RX4 26 "HarbourPilotline" "conferences" "Ljava/util/ArrayList;", Cond.classLink RX4 71 "HarbourPilotline$Conference", Cond.fieldLink RX4 122 "HarbourPilotline$Conference" "slot" "I", Cond.fieldLink RX4 102 "HarbourPilotline$Conference" "ship" "LHarbourPilotline$Ship;", Cond.fieldLink RX4 247 "HarbourPilotline$Ship" "minutes" "I", Cond.fieldLink RX4 250 "HarbourPilotline$Ship" "tugs" "I", Cond.methodLink RX4 43 yJx4a65c_size_8abf5]
def wsL_count_r2 : List Cond := [Cond.instanceMethod yJx4a65c_size_8abf5, Cond.selects RJx4a65c yJx4a65c_size_8abf5 yJx4a65c_size_8abf5, Cond.initialized RJx4a65c, Cond.code yJx4a65c_size_8abf5 cJx4a65c_size_8abf5 1 (some .int), Cond.fieldLink RJx4a65c 48 "java/util/ArrayList" "size" "I", Cond.methodLink RX4 145 yJx4a65c_get_915e3, Cond.instanceMethod yJx4a65c_get_915e3, Cond.selects RJx4a65c yJx4a65c_get_915e3 yJx4a65c_get_915e3, Cond.code yJx4a65c_get_915e3 cJx4a65c_get_915e3 2 (some (.object "java/lang/Object")), Cond.methodLink RJx4a65c 118 yJ15_checkIndex_7cf53, Cond.static yJ15_checkIndex_7cf53, Cond.initialized RJ15, Cond.code yJ15_checkIndex_7cf53 cJ15_checkIndex_7cf53 2 (some .int), Cond.methodLink RJ15 105 yJ3_checkIndex_8e157, Cond.static yJ3_checkIndex_8e157, Cond.initialized RJ3, Cond.code yJ3_checkIndex_8e157 cJ3_checkIndex_8e157 3 (some .int), Cond.methodLink RJx4a65c 123 yJx4a65c_elementData_915e3, Cond.instanceMethod yJx4a65c_elementData_915e3, Cond.selects RJx4a65c yJx4a65c_elementData_915e3 yJx4a65c_elementData_915e3, Cond.code yJx4a65c_elementData_915e3 cJx4a65c_elementData_915e3 2 (some (.object "java/lang/Object")), Cond.fieldLink RJx4a65c 9 "java/util/ArrayList" "elementData" "[Ljava/lang/Object;", Cond.methodLink RX4 216 yX4_allBills, Cond.instanceMethod yX4_allBills]
def wsL_count_r3 : List Cond := [Cond.selects RX4 yX4_allBills yX4_allBills, Cond.code yX4_allBills cX4_allBills 3 (some .int), Cond.fieldLink RX4 19 "HarbourPilotline" "ships" "Ljava/util/ArrayList;", Cond.classLink RX4 51 "HarbourPilotline$Ship", Cond.fieldLink RX4 196 "HarbourPilotline$Ship" "owes" "I", Cond.methodLink RX4 219 yX4_howManyAre, Cond.instanceMethod yX4_howManyAre, Cond.selects RX4 yX4_howManyAre yX4_howManyAre, Cond.code yX4_howManyAre cX4_howManyAre 4 (some .int), Cond.fieldLink RX4 125 "HarbourPilotline$Conference" "state" "I"]
def wsL_count : List Cond := .codeWith yL_count cL_count 4 (some .int) [(0, 9, 12, 13)] :: ((wsL_count_r1 ++ (wsL_count_r2 ++ wsL_count_r3)) ++ wsX40 ++ wsX00 ++ wsX20 ++ wsJx4a65c0 ++ (vx_atS RX4 226 "java/lang/IllegalArgumentException" ["java/lang/RuntimeException", "java/lang/Exception"]).filter goodWord)
def wsL_law0_r1 : List Cond := [Cond.classLink RL 8 RX4, Cond.instantiable RX4 7, Cond.initialized RX4, Cond.classLink RL 75 RX5, Cond.instantiable RX5 22, Cond.initialized RX5, Cond.arrayClass .long, Cond.methodLink RL 74 yX4_init, Cond.instanceMethod yX4_init, Cond.code yX4_init cX4_init 1 none, Cond.methodLink RX4 1 objectInit, Cond.instanceMethod objectInit, Cond.code objectInit ⟨#[0xb1]⟩ 1 none, Cond.classLink RX4 7 RX3, Cond.instantiable RX3 2, Cond.initialized RX3, Cond.fieldLink RX4 10 "HarbourPilotline" "tide" "LHarbourPilotline$Tide;", Cond.classLink RX4 16 RJx4a65c, Cond.instantiable RJx4a65c 3, Cond.initialized RJx4a65c, Cond.fieldLink RX4 19 "HarbourPilotline" "ships" "Ljava/util/ArrayList;", Cond.fieldLink RX4 23 "HarbourPilotline" "pilots" "Ljava/util/ArrayList;", Cond.fieldLink RX4 26 "HarbourPilotline" "conferences" "Ljava/util/ArrayList;", Cond.fieldLink RX4 29 "HarbourPilotline" "tugs" "I"]
def wsL_law0_r2 : List Cond := [Cond.instanceMethod yX3_init, Cond.code yX3_init cX3_init 1 none, Cond.methodLink RX3 1 objectInit, Cond.fieldLink RX3 7 "HarbourPilotline$Tide" "depth" "I", Cond.fieldLink RX3 13 "HarbourPilotline$Tide" "rise" "I", Cond.methodLink RX4 18 yJx4a65c_init_da8c8, Cond.instanceMethod yJx4a65c_init_da8c8, Cond.code yJx4a65c_init_da8c8 cJx4a65c_init_da8c8 1 none, Cond.fieldLink RJx4a65c 39 "java/util/ArrayList" "DEFAULTCAPACITY_EMPTY_ELEMENTDATA" "[Ljava/lang/Object;", Cond.fieldLink RJx4a65c 9 "java/util/ArrayList" "elementData" "[Ljava/lang/Object;", Cond.methodLink RJx4a65c 1 yJxc12de_init_da8c8, Cond.instanceMethod yJxc12de_init_da8c8, Cond.initialized RJxc12de, Cond.code yJxc12de_init_da8c8 cJxc12de_init_da8c8 1 none, Cond.fieldLink RJxc12de 7 "java/util/AbstractList" "modCount" "I", Cond.methodLink RJxc12de 1 yJxa1e45_init_da8c8, Cond.instanceMethod yJxa1e45_init_da8c8, Cond.initialized RJxa1e45, Cond.code yJxa1e45_init_da8c8 cJxa1e45_init_da8c8 1 none, Cond.methodLink RJxa1e45 1 objectInit, Cond.methodLink RL 77 yX5_init, Cond.instanceMethod yX5_init, Cond.code yX5_init cX5_init 1 none, Cond.methodLink RX5 1 objectInit]
def wsL_law0_r3 : List Cond := [Cond.fieldLink RX5 7 "HarbourPilotlineModel" "depth" "I", Cond.fieldLink RX5 13 "HarbourPilotlineModel" "rise" "I", Cond.fieldLink RX5 16 "HarbourPilotlineModel" "tugs" "I", Cond.arrayClass .int, Cond.fieldLink RX5 19 "HarbourPilotlineModel" "draught" "[I", Cond.fieldLink RX5 23 "HarbourPilotlineModel" "tons" "[I", Cond.fieldLink RX5 26 "HarbourPilotlineModel" "takes" "[I", Cond.fieldLink RX5 29 "HarbourPilotlineModel" "needs" "[I", Cond.fieldLink RX5 32 "HarbourPilotlineModel" "owes" "[I", Cond.fieldLink RX5 35 "HarbourPilotlineModel" "licence" "[I", Cond.fieldLink RX5 38 "HarbourPilotlineModel" "rate" "[I", Cond.fieldLink RX5 41 "HarbourPilotlineModel" "ship" "[I", Cond.fieldLink RX5 44 "HarbourPilotlineModel" "wish" "[I", Cond.fieldLink RX5 47 "HarbourPilotlineModel" "in" "[I", Cond.fieldLink RX5 50 "HarbourPilotlineModel" "pilot" "[I", Cond.fieldLink RX5 53 "HarbourPilotlineModel" "state" "[I", Cond.fieldLink RX5 56 "HarbourPilotlineModel" "slot" "[I", Cond.methodLink RL 78 yL_tide, Cond.static yL_tide, Cond.initialized RL, Cond.codeWith yL_tide cL_tide 4 (some .int) [(0, 6, 9, 13)], Cond.classLink RL 13 "java/lang/IllegalArgumentException", Cond.methodLink RL 7 yX4_tide, Cond.instanceMethod yX4_tide]
def wsL_law0_r4 : List Cond := [Cond.selects RX4 yX4_tide yX4_tide, Cond.code yX4_tide cX4_tide 3 none, Cond.fieldLink RX4 37 "HarbourPilotline$Tide" "depth" "I", Cond.fieldLink RX4 40 "HarbourPilotline$Tide" "rise" "I", Cond.methodLink RX4 33 yX4_demandWithin, Cond.static yX4_demandWithin, Cond.code yX4_demandWithin cX4_demandWithin 3 none, Cond.classLink RX4 222 "java/lang/IllegalArgumentException", Cond.initialized "java/lang/IllegalArgumentException", Cond.methodLink RL 83 yX5_tide, Cond.instanceMethod yX5_tide, Cond.selects RX5 yX5_tide yX5_tide, Cond.code yX5_tide cX5_tide 3 none, Cond.fieldLink RX5 59 "HarbourPilotlineModel" "thrown" "I", Cond.methodLink RX5 65 yX5_in, Cond.static yX5_in, Cond.code yX5_in cX5_in 3 (some .boolean), Cond.methodLink RL 84 yX5_thrown, Cond.instanceMethod yX5_thrown, Cond.selects RX5 yX5_thrown yX5_thrown, Cond.code yX5_thrown cX5_thrown 1 (some .int), Cond.methodLink RL 88 yL_tugs, Cond.static yL_tugs, Cond.codeWith yL_tugs cL_tugs 4 (some .int) [(0, 9, 12, 13)]]
def wsL_law0_r5 : List Cond := [Cond.methodLink RL 15 yX4_tugs, Cond.instanceMethod yX4_tugs, Cond.selects RX4 yX4_tugs yX4_tugs, Cond.code yX4_tugs cX4_tugs 3 (some .int), Cond.methodLink RL 91 yX5_tugs, Cond.instanceMethod yX5_tugs, Cond.selects RX5 yX5_tugs yX5_tugs, Cond.code yX5_tugs cX5_tugs 3 (some .int), Cond.methodLink RL 92 yL_ship, Cond.static yL_ship, Cond.codeWith yL_ship cL_ship 7 (some .int) [(0, 14, 17, 13), (0, 14, 21, 23)], Cond.classLink RL 23 "java/lang/IllegalStateException", Cond.methodLink RL 19 yX4_ship, Cond.instanceMethod yX4_ship, Cond.selects RX4 yX4_ship yX4_ship, Cond.code yX4_ship cX4_ship 6 (some .int), Cond.classLink RX4 51 RX2, Cond.instantiable RX2 6, Cond.initialized RX2, Cond.methodLink RX4 43 yJx4a65c_size_8abf5, Cond.instanceMethod yJx4a65c_size_8abf5, Cond.selects RJx4a65c yJx4a65c_size_8abf5 yJx4a65c_size_8abf5, Cond.code yJx4a65c_size_8abf5 cJx4a65c_size_8abf5 1 (some .int), Cond.fieldLink RJx4a65c 48 "java/util/ArrayList" "size" "I"]
def wsL_law0_r6 : List Cond := [Cond.methodLink RX4 47 yX4_demandRoom, Cond.static yX4_demandRoom, Cond.code yX4_demandRoom cX4_demandRoom 2 none, Cond.classLink RX4 92 "java/lang/IllegalStateException", Cond.initialized "java/lang/IllegalStateException", Cond.methodLink RX4 53 yX2_init, Cond.instanceMethod yX2_init, Cond.code yX2_init cX2_init 6 none, Cond.methodLink RX2 1 objectInit, Cond.fieldLink RX2 7 "HarbourPilotline$Ship" "number" "I", Cond.fieldLink RX2 13 "HarbourPilotline$Ship" "draught" "I", Cond.fieldLink RX2 16 "HarbourPilotline$Ship" "tons" "I", Cond.fieldLink RX2 19 "HarbourPilotline$Ship" "minutes" "I", Cond.fieldLink RX2 22 "HarbourPilotline$Ship" "tugs" "I", Cond.methodLink RX4 56 yJx4a65c_add_9ea2d, Cond.instanceMethod yJx4a65c_add_9ea2d, Cond.selects RJx4a65c yJx4a65c_add_9ea2d yJx4a65c_add_9ea2d, Cond.code yJx4a65c_add_9ea2d cJx4a65c_add_9ea2d 2 (some .boolean), Cond.fieldLink RJx4a65c 63 "java/util/ArrayList" "modCount" "I", Cond.sameField "java/util/ArrayList" "java/util/AbstractList" "modCount" "I", Cond.methodLink RJx4a65c 131 yJx4a65c_add_72be8, Cond.instanceMethod yJx4a65c_add_72be8, Cond.selects RJx4a65c yJx4a65c_add_72be8 yJx4a65c_add_72be8, Cond.code yJx4a65c_add_72be8 cJx4a65c_add_72be8 4 none]
def wsL_law0_r7 : List Cond := [Cond.methodLink RJx4a65c 129 yJx4a65c_grow_d5877, Cond.instanceMethod yJx4a65c_grow_d5877, Cond.selects RJx4a65c yJx4a65c_grow_d5877 yJx4a65c_grow_d5877, Cond.code yJx4a65c_grow_d5877 cJx4a65c_grow_d5877 1 (some (.array (.object "java/lang/Object"))), Cond.methodLink RJx4a65c 69 yJx4a65c_grow_92f84, Cond.instanceMethod yJx4a65c_grow_92f84, Cond.selects RJx4a65c yJx4a65c_grow_92f84 yJx4a65c_grow_92f84, Cond.code yJx4a65c_grow_92f84 cJx4a65c_grow_92f84 4 (some (.array (.object "java/lang/Object"))), Cond.methodLink RJx4a65c 79 Lib.Math.max.name, Cond.static Lib.Math.max.name, Cond.initialized "java/lang/Math", Cond.code Lib.Math.max.name Lib.Math.max.code 2 (some .int), Cond.classLink RJx4a65c 7 "java/lang/Object", Cond.methodLink RJx4a65c 73 yJ8_newLength_cabcc, Cond.static yJ8_newLength_cabcc, Cond.initialized RJ8, Cond.code yJ8_newLength_cabcc cJ8_newLength_cabcc 4 (some .int), Cond.methodLink RJ8 194 Lib.Math.max.name, Cond.constant RJ8 200 (2147483639), Cond.methodLink RJ8 201 yJ8_hugeLength_7cf53, Cond.static yJ8_hugeLength_7cf53, Cond.code yJ8_hugeLength_7cf53 cJ8_hugeLength_7cf53 3 (some .int), Cond.methodLink RJx4a65c 66 yJ7_copyOf_1904c, Cond.static yJ7_copyOf_1904c]
def wsL_law0_r8 : List Cond := [Cond.initialized RJ7, Cond.code yJ7_copyOf_1904c cJ7_copyOf_1904c 2 (some (.array (.object "java/lang/Object"))), Cond.methodLink RJ7 86 ⟨"java/lang/Object", "getClass", "()Ljava/lang/Class;"⟩, Cond.selects "[Ljava/lang/Object;" ⟨"java/lang/Object", "getClass", "()Ljava/lang/Class;"⟩ ⟨"java/lang/Object", "getClass", "()Ljava/lang/Class;"⟩, Cond.instanceMethod ⟨"java/lang/Object", "getClass", "()Ljava/lang/Class;"⟩, Cond.native ⟨"java/lang/Object", "getClass", "()Ljava/lang/Class;"⟩, Cond.methodLink RJ7 300 yJ7_copyOf_6403c, Cond.static yJ7_copyOf_6403c, Cond.code yJ7_copyOf_6403c cJ7_copyOf_6403c 4 (some (.array (.object "java/lang/Object"))), Cond.classLink RJ7 110 "[Ljava/lang/Object;", Cond.classLink RJ7 2 "java/lang/Object", Cond.methodLink RJ7 304 Lib.Math.min.name, Cond.static Lib.Math.min.name, Cond.code Lib.Math.min.name Lib.Math.min.code 2 (some .int), Cond.methodLink RJ7 150 arraycopyName, Cond.native arraycopyName, Cond.static arraycopyName, Cond.initialized "java/lang/System", Cond.methodLink RL 95 yX5_ship, Cond.instanceMethod yX5_ship, Cond.selects RX5 yX5_ship yX5_ship, Cond.code yX5_ship cX5_ship 6 (some .int), Cond.fieldLink RX5 62 "HarbourPilotlineModel" "ships" "I", Cond.methodLink RL 96 yL_pilot]
def wsL_law0_r9 : List Cond := [Cond.static yL_pilot, Cond.codeWith yL_pilot cL_pilot 5 (some .int) [(0, 10, 13, 13), (0, 10, 17, 23)], Cond.methodLink RL 25 yX4_pilot, Cond.instanceMethod yX4_pilot, Cond.selects RX4 yX4_pilot yX4_pilot, Cond.code yX4_pilot cX4_pilot 4 (some .int), Cond.classLink RX4 60 RX1, Cond.instantiable RX1 5, Cond.initialized RX1, Cond.methodLink RX4 62 yX1_init, Cond.instanceMethod yX1_init, Cond.code yX1_init cX1_init 4 none, Cond.methodLink RX1 1 objectInit, Cond.fieldLink RX1 7 "HarbourPilotline$Pilot" "number" "I", Cond.fieldLink RX1 13 "HarbourPilotline$Pilot" "licence" "I", Cond.fieldLink RX1 16 "HarbourPilotline$Pilot" "rate" "I", Cond.methodLink RL 99 yX5_pilot, Cond.instanceMethod yX5_pilot, Cond.selects RX5 yX5_pilot yX5_pilot, Cond.code yX5_pilot cX5_pilot 4 (some .int), Cond.fieldLink RX5 68 "HarbourPilotlineModel" "pilots" "I", Cond.methodLink RL 100 yL_call, Cond.static yL_call, Cond.codeWith yL_call cL_call 5 (some .int) [(0, 10, 13, 32), (0, 10, 17, 13), (0, 10, 21, 23)]]
def wsL_law0_r10 : List Cond := [Cond.classLink RL 32 "java/lang/IndexOutOfBoundsException", Cond.methodLink RL 29 yX4_call, Cond.instanceMethod yX4_call, Cond.selects RX4 yX4_call yX4_call, Cond.code yX4_call cX4_call 5 (some .int), Cond.fieldLink RX4 68 "HarbourPilotline" "now" "I", Cond.classLink RX4 71 RX0, Cond.instantiable RX0 7, Cond.initialized RX0, Cond.methodLink RX4 64 yX4_shipAt, Cond.instanceMethod yX4_shipAt, Cond.selects RX4 yX4_shipAt yX4_shipAt, Cond.code yX4_shipAt cX4_shipAt 2 (some (.object "HarbourPilotline$Ship")), Cond.classLink RX4 175 "java/lang/IndexOutOfBoundsException", Cond.initialized "java/lang/IndexOutOfBoundsException", Cond.classLink RX4 51 "HarbourPilotline$Ship", Cond.methodLink RX4 145 yJx4a65c_get_915e3, Cond.instanceMethod yJx4a65c_get_915e3, Cond.selects RJx4a65c yJx4a65c_get_915e3 yJx4a65c_get_915e3, Cond.code yJx4a65c_get_915e3 cJx4a65c_get_915e3 2 (some (.object "java/lang/Object")), Cond.methodLink RJx4a65c 118 yJ15_checkIndex_7cf53, Cond.static yJ15_checkIndex_7cf53, Cond.initialized RJ15, Cond.code yJ15_checkIndex_7cf53 cJ15_checkIndex_7cf53 2 (some .int)]
def wsL_law0_r11 : List Cond := [Cond.methodLink RJ15 105 yJ3_checkIndex_8e157, Cond.static yJ3_checkIndex_8e157, Cond.initialized RJ3, Cond.code yJ3_checkIndex_8e157 cJ3_checkIndex_8e157 3 (some .int), Cond.methodLink RJx4a65c 123 yJx4a65c_elementData_915e3, Cond.instanceMethod yJx4a65c_elementData_915e3, Cond.selects RJx4a65c yJx4a65c_elementData_915e3 yJx4a65c_elementData_915e3, Cond.code yJx4a65c_elementData_915e3 cJx4a65c_elementData_915e3 2 (some (.object "java/lang/Object")), Cond.methodLink RX4 73 yX0_init, Cond.instanceMethod yX0_init, Cond.code yX0_init cX0_init 3 none, Cond.methodLink RX0 3 objectInit, Cond.fieldLink RX0 9 "HarbourPilotline$Conference" "state" "I", Cond.fieldLink RX0 15 "HarbourPilotline$Conference" "slot" "I", Cond.fieldLink RX0 18 "HarbourPilotline$Conference" "ship" "LHarbourPilotline$Ship;", Cond.fieldLink RX0 22 "HarbourPilotline$Conference" "wish" "I", Cond.methodLink RL 102 yX5_call, Cond.instanceMethod yX5_call, Cond.selects RX5 yX5_call yX5_call, Cond.code yX5_call cX5_call 3 (some .int), Cond.fieldLink RX5 92 "HarbourPilotlineModel" "now" "I", Cond.fieldLink RX5 71 "HarbourPilotlineModel" "conferences" "I", Cond.methodLink RX5 108 yX5_isShip, Cond.instanceMethod yX5_isShip]
def wsL_law0_r12 : List Cond := [Cond.selects RX5 yX5_isShip yX5_isShip, Cond.code yX5_isShip cX5_isShip 2 (some .boolean), Cond.methodLink RL 103 yL_join, Cond.static yL_join, Cond.codeWith yL_join cL_join 6 (some .int) [(0, 12, 15, 32), (0, 12, 19, 23)], Cond.methodLink RL 34 yX4_join, Cond.instanceMethod yX4_join, Cond.selects RX4 yX4_join yX4_join, Cond.code yX4_join cX4_join 6 (some .int), Cond.fieldLink RX4 99 "HarbourPilotline$Pilot" "licence" "I", Cond.fieldLink RX4 102 "HarbourPilotline$Conference" "ship" "LHarbourPilotline$Ship;", Cond.fieldLink RX4 106 "HarbourPilotline$Ship" "tons" "I", Cond.fieldLink RX4 122 "HarbourPilotline$Conference" "slot" "I", Cond.methodLink RX4 76 yX4_conferenceAt, Cond.instanceMethod yX4_conferenceAt, Cond.selects RX4 yX4_conferenceAt yX4_conferenceAt, Cond.code yX4_conferenceAt cX4_conferenceAt 2 (some (.object "HarbourPilotline$Conference")), Cond.classLink RX4 71 "HarbourPilotline$Conference", Cond.methodLink RX4 80 yX4_demandWho, Cond.static yX4_demandWho, Cond.code yX4_demandWho cX4_demandWho 1 none, Cond.methodLink RX4 84 yX4_pilotAt, Cond.instanceMethod yX4_pilotAt, Cond.selects RX4 yX4_pilotAt yX4_pilotAt]
def wsL_law0_r13 : List Cond := [Cond.code yX4_pilotAt cX4_pilotAt 2 (some (.object "HarbourPilotline$Pilot")), Cond.classLink RX4 60 "HarbourPilotline$Pilot", Cond.methodLink RX4 88 yX0_hasIn, Cond.instanceMethod yX0_hasIn, Cond.selects RX0 yX0_hasIn yX0_hasIn, Cond.code yX0_hasIn cX0_hasIn 2 (some .boolean), Cond.fieldLink RX0 25 "HarbourPilotline$Conference" "shipIn" "Z", Cond.fieldLink RX0 29 "HarbourPilotline$Conference" "towerIn" "Z", Cond.fieldLink RX0 32 "HarbourPilotline$Conference" "pilot" "LHarbourPilotline$Pilot;", Cond.methodLink RX4 111 yX0_letIn, Cond.instanceMethod yX0_letIn, Cond.selects RX0 yX0_letIn yX0_letIn, Cond.code yX0_letIn cX0_letIn 3 none, Cond.methodLink RX4 115 yX0_howManyIn, Cond.instanceMethod yX0_howManyIn, Cond.selects RX0 yX0_howManyIn yX0_howManyIn, Cond.code yX0_howManyIn cX0_howManyIn 1 (some .int), Cond.methodLink RX4 118 yX4_lookForSlot, Cond.instanceMethod yX4_lookForSlot, Cond.selects RX4 yX4_lookForSlot yX4_lookForSlot, Cond.code yX4_lookForSlot cX4_lookForSlot 2 none, Cond.fieldLink RX4 125 "HarbourPilotline$Conference" "state" "I", Cond.methodLink RX4 237 yX4_earliestSlot, Cond.instanceMethod yX4_earliestSlot]
def wsL_law0_r14 : List Cond := [Cond.selects RX4 yX4_earliestSlot yX4_earliestSlot, Cond.code yX4_earliestSlot cX4_earliestSlot 6 (some .int), Cond.fieldLink RX4 241 "HarbourPilotline$Conference" "wish" "I", Cond.methodLink RX4 161 Lib.Math.max.name, Cond.methodLink RX4 157 yX3_pastShallows, Cond.instanceMethod yX3_pastShallows, Cond.selects RX3 yX3_pastShallows yX3_pastShallows, Cond.code yX3_pastShallows cX3_pastShallows 5 (some .int), Cond.fieldLink RX3 22 "HarbourPilotline$Ship" "draught" "I", Cond.fieldLink RX3 27 "HarbourPilotline$Ship" "minutes" "I", Cond.methodLink RX3 30 yX3_aboveDepth, Cond.instanceMethod yX3_aboveDepth, Cond.selects RX3 yX3_aboveDepth yX3_aboveDepth, Cond.code yX3_aboveDepth cX3_aboveDepth 3 (some .int), Cond.methodLink RX3 16 Lib.Math.min.name, Cond.methodLink RX4 182 yX4_pastRests, Cond.instanceMethod yX4_pastRests, Cond.selects RX4 yX4_pastRests yX4_pastRests, Cond.code yX4_pastRests cX4_pastRests 7 (some .int), Cond.fieldLink RX4 167 "HarbourPilotline$Conference" "pilot" "LHarbourPilotline$Pilot;", Cond.methodLink RX4 244 yX2_minutesWithRest, Cond.instanceMethod yX2_minutesWithRest, Cond.selects RX2 yX2_minutesWithRest yX2_minutesWithRest, Cond.code yX2_minutesWithRest cX2_minutesWithRest 1 (some .int)]
def wsL_law0_r15 : List Cond := [Cond.methodLink RX2 25 Lib.Math.max.name, Cond.methodLink RX4 189 yX4_pastChannel, Cond.instanceMethod yX4_pastChannel, Cond.selects RX4 yX4_pastChannel yX4_pastChannel, Cond.code yX4_pastChannel cX4_pastChannel 6 (some .int), Cond.methodLink RX4 251 Lib.Math.abs.name, Cond.static Lib.Math.abs.name, Cond.code Lib.Math.abs.name Lib.Math.abs.code 1 (some .int), Cond.methodLink RX4 186 yX4_pastTugs, Cond.instanceMethod yX4_pastTugs, Cond.selects RX4 yX4_pastTugs yX4_pastTugs, Cond.code yX4_pastTugs cX4_pastTugs 6 (some .int), Cond.fieldLink RX4 247 "HarbourPilotline$Ship" "minutes" "I", Cond.fieldLink RX4 250 "HarbourPilotline$Ship" "tugs" "I", Cond.methodLink RX4 212 yX4_tugsOfOthers, Cond.instanceMethod yX4_tugsOfOthers, Cond.selects RX4 yX4_tugsOfOthers yX4_tugsOfOthers, Cond.code yX4_tugsOfOthers cX4_tugsOfOthers 7 (some .int), Cond.methodLink RL 106 yX5_join, Cond.instanceMethod yX5_join, Cond.selects RX5 yX5_join yX5_join, Cond.code yX5_join cX5_join 6 (some .int), Cond.methodLink RX5 111 yX5_isConference, Cond.instanceMethod yX5_isConference]
def wsL_law0_r16 : List Cond := [Cond.selects RX5 yX5_isConference yX5_isConference, Cond.code yX5_isConference cX5_isConference 2 (some .boolean), Cond.methodLink RX5 114 yX5_isPilot, Cond.instanceMethod yX5_isPilot, Cond.selects RX5 yX5_isPilot yX5_isPilot, Cond.code yX5_isPilot cX5_isPilot 2 (some .boolean), Cond.methodLink RX5 117 yX5_isIn, Cond.instanceMethod yX5_isIn, Cond.selects RX5 yX5_isIn yX5_isIn, Cond.code yX5_isIn cX5_isIn 3 (some .boolean), Cond.methodLink RX5 120 yX5_looks, Cond.instanceMethod yX5_looks, Cond.selects RX5 yX5_looks yX5_looks, Cond.code yX5_looks cX5_looks 6 none, Cond.methodLink RX5 95 yX5_tideDoes, Cond.instanceMethod yX5_tideDoes, Cond.selects RX5 yX5_tideDoes yX5_tideDoes, Cond.code yX5_tideDoes cX5_tideDoes 7 (some .boolean), Cond.methodLink RX5 74 yX5_levelAt, Cond.instanceMethod yX5_levelAt, Cond.selects RX5 yX5_levelAt yX5_levelAt, Cond.code yX5_levelAt cX5_levelAt 3 (some .int), Cond.methodLink RX5 99 yX5_channelDoes, Cond.instanceMethod yX5_channelDoes]
def wsL_law0_r17 : List Cond := [Cond.selects RX5 yX5_channelDoes yX5_channelDoes, Cond.code yX5_channelDoes cX5_channelDoes 5 (some .boolean), Cond.methodLink RX5 78 yX5_hasSlot, Cond.instanceMethod yX5_hasSlot, Cond.selects RX5 yX5_hasSlot yX5_hasSlot, Cond.code yX5_hasSlot cX5_hasSlot 2 (some .boolean), Cond.methodLink RX5 102 yX5_pilotDoes, Cond.instanceMethod yX5_pilotDoes, Cond.selects RX5 yX5_pilotDoes yX5_pilotDoes, Cond.code yX5_pilotDoes cX5_pilotDoes 7 (some .boolean), Cond.methodLink RX5 82 yX5_over, Cond.instanceMethod yX5_over, Cond.selects RX5 yX5_over yX5_over, Cond.code yX5_over cX5_over 2 (some .int), Cond.methodLink RX5 85 yX5_rest, Cond.static yX5_rest, Cond.code yX5_rest cX5_rest 1 (some .int), Cond.methodLink RX5 105 yX5_tugsDo, Cond.instanceMethod yX5_tugsDo, Cond.selects RX5 yX5_tugsDo yX5_tugsDo, Cond.code yX5_tugsDo cX5_tugsDo 5 (some .boolean), Cond.methodLink RX5 88 yX5_tugsIn, Cond.instanceMethod yX5_tugsIn, Cond.selects RX5 yX5_tugsIn yX5_tugsIn]
def wsL_law0_r18 : List Cond := [Cond.code yX5_tugsIn cX5_tugsIn 5 (some .int), Cond.methodLink RL 107 yL_again, Cond.static yL_again, Cond.codeWith yL_again cL_again 4 (some .int) [(0, 9, 12, 32), (0, 9, 15, 23)], Cond.methodLink RL 38 yX4_again, Cond.instanceMethod yX4_again, Cond.selects RX4 yX4_again yX4_again, Cond.code yX4_again cX4_again 3 (some .int), Cond.methodLink RL 109 yX5_again, Cond.instanceMethod yX5_again, Cond.selects RX5 yX5_again yX5_again, Cond.code yX5_again cX5_again 2 (some .int), Cond.methodLink RL 110 yL_drop, Cond.static yL_drop, Cond.codeWith yL_drop cL_drop 5 (some .int) [(0, 10, 13, 32), (0, 10, 17, 23)], Cond.methodLink RL 41 yX4_drop, Cond.instanceMethod yX4_drop, Cond.selects RX4 yX4_drop yX4_drop, Cond.code yX4_drop cX4_drop 6 (some .int), Cond.fieldLink RX4 140 "HarbourPilotline" "toldByDrops" "I", Cond.methodLink RX4 134 yX0_letOut, Cond.instanceMethod yX0_letOut, Cond.selects RX0 yX0_letOut yX0_letOut, Cond.code yX0_letOut cX0_letOut 2 none]
def wsL_law0_r19 : List Cond := [Cond.methodLink RX4 137 yX4_lookAnew, Cond.instanceMethod yX4_lookAnew, Cond.selects RX4 yX4_lookAnew yX4_lookAnew, Cond.code yX4_lookAnew cX4_lookAnew 5 (some .int), Cond.methodLink RL 112 yX5_drop, Cond.instanceMethod yX5_drop, Cond.selects RX5 yX5_drop yX5_drop, Cond.code yX5_drop cX5_drop 6 (some .int), Cond.fieldLink RX5 127 "HarbourPilotlineModel" "moved" "I", Cond.methodLink RX5 124 yX5_looksAnew, Cond.instanceMethod yX5_looksAnew, Cond.selects RX5 yX5_looksAnew yX5_looksAnew, Cond.code yX5_looksAnew cX5_looksAnew 3 (some .boolean), Cond.methodLink RL 113 yL_pass, Cond.static yL_pass, Cond.codeWith yL_pass cL_pass 4 (some .int) [(0, 9, 12, 13), (0, 9, 15, 23)], Cond.methodLink RL 44 yX4_pass, Cond.instanceMethod yX4_pass, Cond.selects RX4 yX4_pass yX4_pass, Cond.code yX4_pass cX4_pass 4 (some .int), Cond.methodLink RX4 149 yX4_becomesDone, Cond.instanceMethod yX4_becomesDone, Cond.selects RX4 yX4_becomesDone yX4_becomesDone, Cond.code yX4_becomesDone cX4_becomesDone 3 (some .boolean)]
def wsL_law0_r20 : List Cond := [Cond.fieldLink RX4 196 "HarbourPilotline$Ship" "owes" "I", Cond.fieldLink RX4 209 "HarbourPilotline$Pilot" "rate" "I", Cond.fieldLink RX4 199 "HarbourPilotline$Pilot" "movesDone" "I", Cond.fieldLink RX4 202 "HarbourPilotline$Pilot" "minutesDone" "I", Cond.methodLink RL 115 yX5_pass, Cond.instanceMethod yX5_pass, Cond.selects RX5 yX5_pass yX5_pass, Cond.code yX5_pass cX5_pass 4 (some .int), Cond.methodLink RX5 133 yX5_passesOne, Cond.instanceMethod yX5_passesOne, Cond.selects RX5 yX5_passesOne yX5_passesOne, Cond.code yX5_passesOne cX5_passesOne 3 (some .int), Cond.methodLink RX5 130 yX5_billOf, Cond.instanceMethod yX5_billOf, Cond.selects RX5 yX5_billOf yX5_billOf, Cond.code yX5_billOf cX5_billOf 2 (some .int), Cond.methodLink RL 116 yX4_minute, Cond.instanceMethod yX4_minute, Cond.selects RX4 yX4_minute yX4_minute, Cond.code yX4_minute cX4_minute 1 (some .int), Cond.methodLink RL 119 yX5_minute, Cond.instanceMethod yX5_minute, Cond.selects RX5 yX5_minute yX5_minute, Cond.code yX5_minute cX5_minute 1 (some .int)]
def wsL_law0_r21 : List Cond := [Cond.methodLink RL 120 yL_level, Cond.static yL_level, Cond.codeWith yL_level cL_level 4 (some .int) [(0, 9, 12, 13)], Cond.methodLink RL 47 yX4_level, Cond.instanceMethod yX4_level, Cond.selects RX4 yX4_level yX4_level, Cond.code yX4_level cX4_level 2 (some .int), Cond.methodLink RX4 153 yX3_aboveDepth, Cond.methodLink RL 122 yX5_level, Cond.instanceMethod yX5_level, Cond.selects RX5 yX5_level yX5_level, Cond.code yX5_level cX5_level 2 (some .int), Cond.methodLink RL 123 yL_window, Cond.static yL_window, Cond.codeWith yL_window cL_window 5 (some .int) [(0, 10, 13, 32), (0, 10, 17, 13)], Cond.methodLink RL 50 yX4_window, Cond.instanceMethod yX4_window, Cond.selects RX4 yX4_window yX4_window, Cond.code yX4_window cX4_window 7 (some .int), Cond.methodLink RL 125 yX5_window, Cond.instanceMethod yX5_window, Cond.selects RX5 yX5_window yX5_window, Cond.code yX5_window cX5_window 5 (some .int), Cond.methodLink RL 126 yL_ofConference]
def wsL_law0_r22 : List Cond := [Cond.static yL_ofConference, Cond.codeWith yL_ofConference cL_ofConference 5 (some .int) [(0, 10, 13, 32)], Cond.methodLink RL 53 yX4_ofConference, Cond.instanceMethod yX4_ofConference, Cond.selects RX4 yX4_ofConference yX4_ofConference, Cond.code yX4_ofConference cX4_ofConference 4 (some .int), Cond.fieldLink RX4 171 "HarbourPilotline$Pilot" "number" "I", Cond.fieldLink RX4 174 "HarbourPilotline$Ship" "number" "I", Cond.methodLink RL 128 yX5_ofConference, Cond.instanceMethod yX5_ofConference, Cond.selects RX5 yX5_ofConference yX5_ofConference, Cond.code yX5_ofConference cX5_ofConference 3 (some .int), Cond.methodLink RX5 137 yX5_many, Cond.static yX5_many, Cond.code yX5_many cX5_many 1 (some .int), Cond.methodLink RL 129 yL_why, Cond.static yL_why, Cond.codeWith yL_why cL_why 5 (some .int) [(0, 10, 13, 32), (0, 10, 17, 13), (0, 10, 21, 23)], Cond.methodLink RL 56 yX4_why, Cond.instanceMethod yX4_why, Cond.selects RX4 yX4_why yX4_why, Cond.code yX4_why cX4_why 4 (some .int), Cond.methodLink RL 131 yX5_why, Cond.instanceMethod yX5_why]
def wsL_law0_r23 : List Cond := [Cond.selects RX5 yX5_why yX5_why, Cond.code yX5_why cX5_why 3 (some .int), Cond.methodLink RL 132 yL_rested, Cond.static yL_rested, Cond.codeWith yL_rested cL_rested 4 (some .int) [(0, 9, 12, 32)], Cond.methodLink RL 59 yX4_rested, Cond.instanceMethod yX4_rested, Cond.selects RX4 yX4_rested yX4_rested, Cond.code yX4_rested cX4_rested 2 (some .int), Cond.methodLink RX4 192 yX4_restedBehindSlots, Cond.instanceMethod yX4_restedBehindSlots, Cond.selects RX4 yX4_restedBehindSlots yX4_restedBehindSlots, Cond.code yX4_restedBehindSlots cX4_restedBehindSlots 5 (some .int), Cond.methodLink RL 134 yX5_rested, Cond.instanceMethod yX5_rested, Cond.selects RX5 yX5_rested yX5_rested, Cond.code yX5_rested cX5_rested 5 (some .int), Cond.methodLink RL 135 yL_restedAnew, Cond.static yL_restedAnew, Cond.codeWith yL_restedAnew cL_restedAnew 4 (some .int) [(0, 9, 12, 32)], Cond.methodLink RL 62 yX4_restedAnew, Cond.instanceMethod yX4_restedAnew, Cond.selects RX4 yX4_restedAnew yX4_restedAnew, Cond.code yX4_restedAnew cX4_restedAnew 2 (some .int)]
def wsL_law0_r24 : List Cond := [Cond.methodLink RL 137 yX5_restedAnew, Cond.instanceMethod yX5_restedAnew, Cond.selects RX5 yX5_restedAnew yX5_restedAnew, Cond.code yX5_restedAnew cX5_restedAnew 2 (some .int), Cond.methodLink RX5 140 yX5_rested, Cond.methodLink RL 138 yL_bill, Cond.static yL_bill, Cond.codeWith yL_bill cL_bill 4 (some .int) [(0, 9, 12, 32)], Cond.methodLink RL 65 yX4_bill, Cond.instanceMethod yX4_bill, Cond.selects RX4 yX4_bill yX4_bill, Cond.code yX4_bill cX4_bill 2 (some .int), Cond.methodLink RL 140 yX5_bill, Cond.instanceMethod yX5_bill, Cond.selects RX5 yX5_bill yX5_bill, Cond.code yX5_bill cX5_bill 2 (some .int), Cond.methodLink RL 141 yL_ofPilot, Cond.static yL_ofPilot, Cond.codeWith yL_ofPilot cL_ofPilot 5 (some .int) [(0, 10, 13, 32)], Cond.methodLink RL 68 yX4_ofPilot, Cond.instanceMethod yX4_ofPilot, Cond.selects RX4 yX4_ofPilot yX4_ofPilot, Cond.code yX4_ofPilot cX4_ofPilot 4 (some .int), Cond.methodLink RX4 205 yX4_isAboard]
def wsL_law0_r25 : List Cond := [Cond.instanceMethod yX4_isAboard, Cond.selects RX4 yX4_isAboard yX4_isAboard, Cond.code yX4_isAboard cX4_isAboard 4 (some .boolean), Cond.methodLink RL 143 yX5_ofPilot, Cond.instanceMethod yX5_ofPilot, Cond.selects RX5 yX5_ofPilot yX5_ofPilot, Cond.code yX5_ofPilot cX5_ofPilot 6 (some .int), Cond.methodLink RL 144 yL_count, Cond.static yL_count, Cond.codeWith yL_count cL_count 4 (some .int) [(0, 9, 12, 13)], Cond.methodLink RL 71 yX4_count, Cond.instanceMethod yX4_count, Cond.selects RX4 yX4_count yX4_count, Cond.code yX4_count cX4_count 2 (some .int), Cond.methodLink RX4 216 yX4_allBills, Cond.instanceMethod yX4_allBills, Cond.selects RX4 yX4_allBills yX4_allBills, Cond.code yX4_allBills cX4_allBills 3 (some .int), Cond.methodLink RX4 219 yX4_howManyAre, Cond.instanceMethod yX4_howManyAre, Cond.selects RX4 yX4_howManyAre yX4_howManyAre, Cond.code yX4_howManyAre cX4_howManyAre 4 (some .int), Cond.methodLink RL 146 yX5_count, Cond.instanceMethod yX5_count]
def wsL_law0_r26 : List Cond := [Cond.selects RX5 yX5_count yX5_count, Cond.code yX5_count cX5_count 4 (some .int), Cond.methodLink RX5 143 yX5_bills, Cond.instanceMethod yX5_bills, Cond.selects RX5 yX5_bills yX5_bills, Cond.code yX5_bills cX5_bills 3 (some .int)]
def wsL_law0 : List Cond := (wsL_law0_r1 ++ (wsL_law0_r2 ++ (wsL_law0_r3 ++ (wsL_law0_r4 ++ (wsL_law0_r5 ++ (wsL_law0_r6 ++ (wsL_law0_r7 ++ (wsL_law0_r8 ++ (wsL_law0_r9 ++ (wsL_law0_r10 ++ (wsL_law0_r11 ++ (wsL_law0_r12 ++ (wsL_law0_r13 ++ (wsL_law0_r14 ++ (wsL_law0_r15 ++ (wsL_law0_r16 ++ (wsL_law0_r17 ++ (wsL_law0_r18 ++ (wsL_law0_r19 ++ (wsL_law0_r20 ++ (wsL_law0_r21 ++ (wsL_law0_r22 ++ (wsL_law0_r23 ++ (wsL_law0_r24 ++ (wsL_law0_r25 ++ wsL_law0_r26))))))))))))))))))))))))) ++ wsX40 ++ wsX50 ++ wsX30 ++ wsJx4a65c0 ++ wsX20 ++ wsX10 ++ wsX00 ++ ([] : List Cond)
def wsL_law : List Cond := wsL_law0 ++ (vx_atS RX4 226 "java/lang/IllegalArgumentException" ["java/lang/RuntimeException", "java/lang/Exception"]).filter goodWord ++ (vx_atS RX4 96 "java/lang/IllegalStateException" ["java/lang/RuntimeException", "java/lang/Exception"]).filter goodWord ++ (vx_atS RX4 179 "java/lang/IndexOutOfBoundsException" ["java/lang/RuntimeException", "java/lang/Exception"]).filter goodWord
end
section
set_option maxRecDepth 20000 in
theorem ggX3_pastShallows_X3_aboveDepth : GoodIn wsX3_pastShallows wsX3_aboveDepth := goodIn_r _ [8, 9, 10, 11, 12, 13, 20, 21] (by decide +kernel) (by decide +kernel)
set_option maxRecDepth 20000 in
theorem gX3_pastShallows_X3_aboveDepth : GoodIn wsX3_pastShallows (wsV RX3 30 RX3 yX3_aboveDepth wsX3_aboveDepth) := goodIn_app (goodIn_of _ (by decide +kernel)) ggX3_pastShallows_X3_aboveDepth
set_option maxRecDepth 20000 in
theorem ggX4_init_X3_init : GoodIn wsX4_init wsX3_init := goodIn_r _ [16, 17, 2, 3, 18, 19, 35, 36] (by decide +kernel) (by decide +kernel)
set_option maxRecDepth 20000 in
theorem gX4_init_X3_init_n9 : GoodIn wsX4_init (wsX3_init) := ggX4_init_X3_init
set_option maxRecDepth 20000 in
theorem ggX4_init_Jx4a65c_init_da8c8 : GoodIn wsX4_init wsJx4a65c_init_da8c8 := goodIn_r _ [22, 23, 24, 25, 26, 27, 28, 29, 30, 31, 32, 33, 34, 2, 3, 44, 45, 46] (by decide +kernel) (by decide +kernel)
set_option maxRecDepth 20000 in
theorem gX4_init_Jx4a65c_init_da8c8 : GoodIn wsX4_init (wsJx4a65c_init_da8c8) := ggX4_init_Jx4a65c_init_da8c8
set_option maxRecDepth 20000 in
theorem ggX4_tide_X4_demandWithin : GoodIn wsX4_tide wsX4_demandWithin := goodIn_ca (goodIn_r _ [7, 8, 9] (by decide +kernel) (by decide +kernel)) (goodIn_sub (fun _ h => List.mem_cons_of_mem _ (List.mem_append_right _ h)) (by decide +kernel))
set_option maxRecDepth 20000 in
theorem gX4_tide_X4_demandWithin : GoodIn wsX4_tide (va_wsS RX4 33 yX4_demandWithin wsX4_demandWithin) := goodIn_app (goodIn_of _ (by decide +kernel)) ggX4_tide_X4_demandWithin
set_option maxRecDepth 20000 in
theorem ggX4_tugs_X4_demandWithin : GoodIn wsX4_tugs wsX4_demandWithin := goodIn_ca (goodIn_r _ [5, 6, 7] (by decide +kernel) (by decide +kernel)) (goodIn_sub (fun _ h => List.mem_cons_of_mem _ (List.mem_append_right _ h)) (by decide +kernel))
set_option maxRecDepth 20000 in
theorem gX4_tugs_X4_demandWithin : GoodIn wsX4_tugs (va_wsS RX4 33 yX4_demandWithin wsX4_demandWithin) := goodIn_app (goodIn_of _ (by decide +kernel)) ggX4_tugs_X4_demandWithin
set_option maxRecDepth 20000 in
theorem ggX4_ship_X4_demandWithin : GoodIn wsX4_ship wsX4_demandWithin := goodIn_ca (goodIn_r _ [8, 9, 10] (by decide +kernel) (by decide +kernel)) (goodIn_sub (fun _ h => List.mem_cons_of_mem _ (List.mem_append_left _ (List.mem_append_right _ h))) (by decide +kernel))
set_option maxRecDepth 20000 in
theorem gX4_ship_X4_demandWithin : GoodIn wsX4_ship (va_wsS RX4 33 yX4_demandWithin wsX4_demandWithin) := goodIn_app (goodIn_of _ (by decide +kernel)) ggX4_ship_X4_demandWithin
set_option maxRecDepth 20000 in
theorem ggX4_ship_Jx4a65c_size_8abf5 : GoodIn wsX4_ship wsJx4a65c_size_8abf5 := goodIn_r _ [15, 16, 100, 101, 102] (by decide +kernel) (by decide +kernel)
set_option maxRecDepth 20000 in
theorem gX4_ship_Jx4a65c_size_8abf5 : GoodIn wsX4_ship (wsV RX4 43 RJx4a65c yJx4a65c_size_8abf5 wsJx4a65c_size_8abf5) := goodIn_app (goodIn_of _ (by decide +kernel)) ggX4_ship_Jx4a65c_size_8abf5
set_option maxRecDepth 20000 in
theorem ggX4_ship_X4_demandRoom : GoodIn wsX4_ship wsX4_demandRoom := goodIn_ca (goodIn_r _ [19, 20, 21] (by decide +kernel) (by decide +kernel)) (goodIn_sub (fun _ h => List.mem_cons_of_mem _ (List.mem_append_right _ h)) (by decide +kernel))
set_option maxRecDepth 20000 in
theorem gX4_ship_X4_demandRoom : GoodIn wsX4_ship (va_wsS RX4 47 yX4_demandRoom wsX4_demandRoom) := goodIn_app (goodIn_of _ (by decide +kernel)) ggX4_ship_X4_demandRoom
set_option maxRecDepth 20000 in
theorem ggX4_ship_X2_init : GoodIn wsX4_ship wsX2_init := goodIn_r _ [24, 25, 26, 27, 28, 29, 30, 31, 32, 94, 95, 96, 97, 98, 99] (by decide +kernel) (by decide +kernel)
set_option maxRecDepth 20000 in
theorem gX4_ship_X2_init : GoodIn wsX4_ship (wsX2_init) := ggX4_ship_X2_init
set_option maxRecDepth 20000 in
theorem ggX4_ship_Jx4a65c_add_9ea2d : GoodIn wsX4_ship wsJx4a65c_add_9ea2d := goodIn_r _ [36, 37, 38, 39, 16, 40, 41, 42, 14, 43, 44, 45, 46, 47, 48, 49, 50, 51, 52, 53, 54, 55, 56, 57, 58, 59, 60, 61, 62, 63, 64, 65, 66, 67, 68, 69, 70, 71, 72, 73, 74, 75, 76, 77, 78, 79, 80, 81, 82, 83, 84, 85, 86, 100, 101, 102] (by decide +kernel) (by decide +kernel)
set_option maxRecDepth 20000 in
theorem gX4_ship_Jx4a65c_add_9ea2d : GoodIn wsX4_ship (wsV RX4 56 RJx4a65c yJx4a65c_add_9ea2d wsJx4a65c_add_9ea2d) := goodIn_app (goodIn_of _ (by decide +kernel)) ggX4_ship_Jx4a65c_add_9ea2d
set_option maxRecDepth 20000 in
theorem ggX4_pilot_X4_demandWithin : GoodIn wsX4_pilot wsX4_demandWithin := goodIn_ca (goodIn_r _ [8, 9, 10] (by decide +kernel) (by decide +kernel)) (goodIn_sub (fun _ h => List.mem_cons_of_mem _ (List.mem_append_left _ (List.mem_append_right _ h))) (by decide +kernel))
set_option maxRecDepth 20000 in
theorem gX4_pilot_X4_demandWithin : GoodIn wsX4_pilot (va_wsS RX4 33 yX4_demandWithin wsX4_demandWithin) := goodIn_app (goodIn_of _ (by decide +kernel)) ggX4_pilot_X4_demandWithin
set_option maxRecDepth 20000 in
theorem ggX4_pilot_Jx4a65c_size_8abf5 : GoodIn wsX4_pilot wsJx4a65c_size_8abf5 := goodIn_r _ [15, 16, 97, 98, 99] (by decide +kernel) (by decide +kernel)
set_option maxRecDepth 20000 in
theorem gX4_pilot_Jx4a65c_size_8abf5 : GoodIn wsX4_pilot (wsV RX4 43 RJx4a65c yJx4a65c_size_8abf5 wsJx4a65c_size_8abf5) := goodIn_app (goodIn_of _ (by decide +kernel)) ggX4_pilot_Jx4a65c_size_8abf5
set_option maxRecDepth 20000 in
theorem ggX4_pilot_X4_demandRoom : GoodIn wsX4_pilot wsX4_demandRoom := goodIn_ca (goodIn_r _ [19, 20, 21] (by decide +kernel) (by decide +kernel)) (goodIn_sub (fun _ h => List.mem_cons_of_mem _ (List.mem_append_right _ h)) (by decide +kernel))
set_option maxRecDepth 20000 in
theorem gX4_pilot_X4_demandRoom : GoodIn wsX4_pilot (va_wsS RX4 47 yX4_demandRoom wsX4_demandRoom) := goodIn_app (goodIn_of _ (by decide +kernel)) ggX4_pilot_X4_demandRoom
set_option maxRecDepth 20000 in
theorem ggX4_pilot_X1_init : GoodIn wsX4_pilot wsX1_init := goodIn_r _ [24, 25, 26, 27, 28, 29, 30, 92, 93, 94, 95, 96] (by decide +kernel) (by decide +kernel)
set_option maxRecDepth 20000 in
theorem gX4_pilot_X1_init : GoodIn wsX4_pilot (wsX1_init) := ggX4_pilot_X1_init
set_option maxRecDepth 20000 in
theorem ggX4_pilot_Jx4a65c_add_9ea2d : GoodIn wsX4_pilot wsJx4a65c_add_9ea2d := goodIn_r _ [34, 35, 36, 37, 16, 38, 39, 40, 14, 41, 42, 43, 44, 45, 46, 47, 48, 49, 50, 51, 52, 53, 54, 55, 56, 57, 58, 59, 60, 61, 62, 63, 64, 65, 66, 67, 68, 69, 70, 71, 72, 73, 74, 75, 76, 77, 78, 79, 80, 81, 82, 83, 84, 97, 98, 99] (by decide +kernel) (by decide +kernel)
set_option maxRecDepth 20000 in
theorem gX4_pilot_Jx4a65c_add_9ea2d : GoodIn wsX4_pilot (wsV RX4 56 RJx4a65c yJx4a65c_add_9ea2d wsJx4a65c_add_9ea2d) := goodIn_app (goodIn_of _ (by decide +kernel)) ggX4_pilot_Jx4a65c_add_9ea2d
set_option maxRecDepth 20000 in
theorem ggX4_call_X4_shipAt : GoodIn wsX4_call wsX4_shipAt := goodIn_ca (goodIn_r _ [10, 11, 12, 13, 14, 15, 16, 17, 18, 19, 20, 21, 22, 23, 24, 25, 26, 27, 28, 29, 30, 31, 32, 33, 34, 35, 36, 37, 111, 112, 113, 114, 115, 116, 117, 125, 126, 127] (by decide +kernel) (by decide +kernel)) (goodIn_sub (fun _ h => List.mem_cons_of_mem _ (List.mem_append_left _ (List.mem_append_left _ (List.mem_append_right _ h)))) (by decide +kernel))
set_option maxRecDepth 20000 in
theorem gX4_call_X4_shipAt : GoodIn wsX4_call (wsV RX4 64 RX4 yX4_shipAt wsX4_shipAt) := goodIn_app (goodIn_of _ (by decide +kernel)) ggX4_call_X4_shipAt
set_option maxRecDepth 20000 in
theorem ggX4_call_X4_demandWithin : GoodIn wsX4_call wsX4_demandWithin := goodIn_ca (goodIn_r _ [40, 41, 42] (by decide +kernel) (by decide +kernel)) (goodIn_sub (fun _ h => List.mem_cons_of_mem _ (List.mem_append_left _ (List.mem_append_right _ h))) (by decide +kernel))
set_option maxRecDepth 20000 in
theorem gX4_call_X4_demandWithin : GoodIn wsX4_call (va_wsS RX4 33 yX4_demandWithin wsX4_demandWithin) := goodIn_app (goodIn_of _ (by decide +kernel)) ggX4_call_X4_demandWithin
set_option maxRecDepth 20000 in
theorem ggX4_call_Jx4a65c_size_8abf5 : GoodIn wsX4_call wsJx4a65c_size_8abf5 := goodIn_r _ [19, 20, 125, 126, 127] (by decide +kernel) (by decide +kernel)
set_option maxRecDepth 20000 in
theorem gX4_call_Jx4a65c_size_8abf5 : GoodIn wsX4_call (wsV RX4 43 RJx4a65c yJx4a65c_size_8abf5 wsJx4a65c_size_8abf5) := goodIn_app (goodIn_of _ (by decide +kernel)) ggX4_call_Jx4a65c_size_8abf5
set_option maxRecDepth 20000 in
theorem ggX4_call_X4_demandRoom : GoodIn wsX4_call wsX4_demandRoom := goodIn_ca (goodIn_r _ [45, 46, 47] (by decide +kernel) (by decide +kernel)) (goodIn_sub (fun _ h => List.mem_cons_of_mem _ (List.mem_append_right _ h)) (by decide +kernel))
set_option maxRecDepth 20000 in
theorem gX4_call_X4_demandRoom : GoodIn wsX4_call (va_wsS RX4 47 yX4_demandRoom wsX4_demandRoom) := goodIn_app (goodIn_of _ (by decide +kernel)) ggX4_call_X4_demandRoom
set_option maxRecDepth 20000 in
theorem ggX4_call_X0_init : GoodIn wsX4_call wsX0_init := goodIn_r _ [50, 51, 52, 53, 54, 55, 56, 57, 118, 119, 120, 121, 122, 123, 124] (by decide +kernel) (by decide +kernel)
set_option maxRecDepth 20000 in
theorem gX4_call_X0_init : GoodIn wsX4_call (wsX0_init) := ggX4_call_X0_init
set_option maxRecDepth 20000 in
theorem ggX4_call_Jx4a65c_add_9ea2d : GoodIn wsX4_call wsJx4a65c_add_9ea2d := goodIn_r _ [61, 62, 63, 37, 20, 64, 65, 66, 18, 67, 68, 69, 70, 71, 72, 73, 74, 75, 76, 77, 78, 79, 80, 81, 82, 83, 84, 85, 86, 87, 88, 89, 90, 91, 92, 93, 94, 95, 96, 97, 98, 99, 100, 101, 102, 103, 104, 105, 106, 107, 108, 109, 110, 125, 126, 127] (by decide +kernel) (by decide +kernel)
set_option maxRecDepth 20000 in
theorem gX4_call_Jx4a65c_add_9ea2d : GoodIn wsX4_call (wsV RX4 56 RJx4a65c yJx4a65c_add_9ea2d wsJx4a65c_add_9ea2d) := goodIn_app (goodIn_of _ (by decide +kernel)) ggX4_call_Jx4a65c_add_9ea2d
set_option maxRecDepth 20000 in
theorem ggX4_join_X4_conferenceAt : GoodIn wsX4_join wsX4_conferenceAt := goodIn_ca (goodIn_r _ [11, 12, 13, 14, 15, 16, 17, 18, 19, 20, 21, 22, 23, 24, 25, 26, 27, 28, 29, 30, 31, 32, 33, 34, 35, 36, 37, 38, 144, 145, 146, 147, 148, 149, 150, 151, 152, 153] (by decide +kernel) (by decide +kernel)) (goodIn_sub (fun _ h => List.mem_cons_of_mem _ (List.mem_append_right _ h)) (by decide +kernel))
set_option maxRecDepth 20000 in
theorem gX4_join_X4_conferenceAt : GoodIn wsX4_join (wsV RX4 76 RX4 yX4_conferenceAt wsX4_conferenceAt) := goodIn_app (goodIn_of _ (by decide +kernel)) ggX4_join_X4_conferenceAt
set_option maxRecDepth 20000 in
theorem ggX4_join_X4_demandWho : GoodIn wsX4_join wsX4_demandWho := goodIn_ca (goodIn_r _ [41, 12, 13] (by decide +kernel) (by decide +kernel)) (goodIn_sub (fun _ h => List.mem_cons_of_mem _ (List.mem_append_right _ h)) (by decide +kernel))
set_option maxRecDepth 20000 in
theorem gX4_join_X4_demandWho : GoodIn wsX4_join (va_wsS RX4 80 yX4_demandWho wsX4_demandWho) := goodIn_app (goodIn_of _ (by decide +kernel)) ggX4_join_X4_demandWho
set_option maxRecDepth 20000 in
theorem ggX4_join_X4_pilotAt : GoodIn wsX4_join wsX4_pilotAt := goodIn_ca (goodIn_r _ [45, 12, 13, 46, 47, 16, 17, 18, 19, 20, 21, 22, 23, 24, 25, 26, 27, 28, 29, 30, 31, 32, 33, 34, 35, 36, 37, 38, 144, 145, 146, 147, 148, 149, 150, 151, 152, 153] (by decide +kernel) (by decide +kernel)) (goodIn_sub (fun _ h => List.mem_cons_of_mem _ (List.mem_append_right _ h)) (by decide +kernel))
set_option maxRecDepth 20000 in
theorem gX4_join_X4_pilotAt : GoodIn wsX4_join (wsV RX4 84 RX4 yX4_pilotAt wsX4_pilotAt) := goodIn_app (goodIn_of _ (by decide +kernel)) ggX4_join_X4_pilotAt
set_option maxRecDepth 20000 in
theorem ggX4_join_X0_hasIn : GoodIn wsX4_join wsX0_hasIn := goodIn_r _ [52, 53, 54, 55, 131, 132, 133, 134, 135, 136, 137] (by decide +kernel) (by decide +kernel)
set_option maxRecDepth 20000 in
theorem gX4_join_X0_hasIn : GoodIn wsX4_join (wsV RX4 88 RX0 yX0_hasIn wsX0_hasIn) := goodIn_app (goodIn_of _ (by decide +kernel)) ggX4_join_X0_hasIn
set_option maxRecDepth 20000 in
theorem ggX4_join_X0_letIn : GoodIn wsX4_join wsX0_letIn := goodIn_r _ [59, 53, 54, 55, 131, 132, 133, 134, 135, 136, 137] (by decide +kernel) (by decide +kernel)
set_option maxRecDepth 20000 in
theorem gX4_join_X0_letIn : GoodIn wsX4_join (wsV RX4 111 RX0 yX0_letIn wsX0_letIn) := goodIn_app (goodIn_of _ (by decide +kernel)) ggX4_join_X0_letIn
set_option maxRecDepth 20000 in
theorem ggX4_join_X0_howManyIn : GoodIn wsX4_join wsX0_howManyIn := goodIn_r _ [63, 53, 54, 55, 131, 132, 133, 134, 135, 136, 137] (by decide +kernel) (by decide +kernel)
set_option maxRecDepth 20000 in
theorem gX4_join_X0_howManyIn : GoodIn wsX4_join (wsV RX4 115 RX0 yX0_howManyIn wsX0_howManyIn) := goodIn_app (goodIn_of _ (by decide +kernel)) ggX4_join_X0_howManyIn
set_option maxRecDepth 20000 in
theorem ggX4_join_X4_lookForSlot : GoodIn wsX4_join wsX4_lookForSlot := goodIn_r _ [67, 6, 68, 69, 70, 71, 72, 10, 73, 74, 75, 76, 77, 78, 79, 4, 80, 81, 82, 83, 84, 85, 86, 87, 88, 89, 90, 91, 92, 93, 94, 95, 96, 97, 98, 99, 14, 15, 100, 16, 17, 18, 19, 20, 21, 22, 23, 24, 25, 26, 27, 28, 29, 30, 31, 32, 33, 34, 35, 36, 37, 38, 101, 102, 103, 104, 105, 106, 107, 108, 109, 110, 111, 112, 113, 114, 115, 116, 117, 118, 119, 120, 121, 122, 123, 124, 125, 131, 132, 133, 134, 135, 136, 137, 144, 145, 146, 147, 148, 149, 150, 138, 139, 140, 141, 142, 143, 154, 155, 151, 152, 153] (by decide +kernel) (by decide +kernel)
set_option maxRecDepth 20000 in
theorem gX4_join_X4_lookForSlot : GoodIn wsX4_join (wsV RX4 118 RX4 yX4_lookForSlot wsX4_lookForSlot) := goodIn_app (goodIn_of _ (by decide +kernel)) ggX4_join_X4_lookForSlot
set_option maxRecDepth 20000 in
theorem ggX4_again_X4_conferenceAt : GoodIn wsX4_again wsX4_conferenceAt := goodIn_ca (goodIn_r _ [9, 10, 11, 12, 13, 14, 15, 16, 17, 18, 19, 20, 21, 22, 23, 24, 25, 26, 27, 28, 29, 30, 31, 32, 33, 34, 35, 36, 106, 107, 108, 109, 110, 111, 112, 113, 114, 115] (by decide +kernel) (by decide +kernel)) (goodIn_sub (fun _ h => List.mem_cons_of_mem _ (List.mem_append_right _ h)) (by decide +kernel))
set_option maxRecDepth 20000 in
theorem gX4_again_X4_conferenceAt : GoodIn wsX4_again (wsV RX4 76 RX4 yX4_conferenceAt wsX4_conferenceAt) := goodIn_app (goodIn_of _ (by decide +kernel)) ggX4_again_X4_conferenceAt
set_option maxRecDepth 20000 in
theorem ggX4_again_X4_lookForSlot : GoodIn wsX4_again wsX4_lookForSlot := goodIn_r _ [40, 4, 3, 41, 42, 43, 44, 8, 45, 46, 47, 48, 49, 50, 51, 52, 53, 54, 55, 56, 57, 58, 59, 60, 61, 62, 63, 64, 65, 66, 67, 68, 69, 70, 71, 72, 12, 13, 73, 14, 15, 16, 17, 18, 19, 20, 21, 22, 23, 24, 25, 26, 27, 28, 29, 30, 31, 32, 33, 34, 35, 36, 74, 75, 76, 77, 78, 79, 80, 81, 82, 83, 84, 85, 86, 87, 88, 89, 90, 91, 92, 93, 94, 95, 96, 97, 98, 99, 100, 101, 102, 103, 104, 105, 106, 107, 108, 109, 110, 111, 112, 116, 117, 118, 119, 120, 121, 122, 123, 113, 114, 115] (by decide +kernel) (by decide +kernel)
set_option maxRecDepth 20000 in
theorem gX4_again_X4_lookForSlot : GoodIn wsX4_again (wsV RX4 118 RX4 yX4_lookForSlot wsX4_lookForSlot) := goodIn_app (goodIn_of _ (by decide +kernel)) ggX4_again_X4_lookForSlot
set_option maxRecDepth 20000 in
theorem ggX4_drop_X4_conferenceAt : GoodIn wsX4_drop wsX4_conferenceAt := goodIn_ca (goodIn_r _ [10, 11, 12, 13, 14, 15, 16, 17, 18, 19, 20, 21, 22, 23, 24, 25, 26, 27, 28, 29, 30, 31, 32, 33, 34, 35, 36, 37, 128, 129, 130, 131, 132, 133, 134, 135, 136, 137] (by decide +kernel) (by decide +kernel)) (goodIn_sub (fun _ h => List.mem_cons_of_mem _ (List.mem_append_right _ h)) (by decide +kernel))
set_option maxRecDepth 20000 in
theorem gX4_drop_X4_conferenceAt : GoodIn wsX4_drop (wsV RX4 76 RX4 yX4_conferenceAt wsX4_conferenceAt) := goodIn_app (goodIn_of _ (by decide +kernel)) ggX4_drop_X4_conferenceAt
set_option maxRecDepth 20000 in
theorem ggX4_drop_X4_demandWho : GoodIn wsX4_drop wsX4_demandWho := goodIn_ca (goodIn_r _ [40, 11, 12] (by decide +kernel) (by decide +kernel)) (goodIn_sub (fun _ h => List.mem_cons_of_mem _ (List.mem_append_right _ h)) (by decide +kernel))
set_option maxRecDepth 20000 in
theorem gX4_drop_X4_demandWho : GoodIn wsX4_drop (va_wsS RX4 80 yX4_demandWho wsX4_demandWho) := goodIn_app (goodIn_of _ (by decide +kernel)) ggX4_drop_X4_demandWho
set_option maxRecDepth 20000 in
theorem ggX4_drop_X0_hasIn : GoodIn wsX4_drop wsX0_hasIn := goodIn_r _ [45, 46, 47, 48, 121, 122, 123, 124, 125, 126, 127] (by decide +kernel) (by decide +kernel)
set_option maxRecDepth 20000 in
theorem gX4_drop_X0_hasIn : GoodIn wsX4_drop (wsV RX4 88 RX0 yX0_hasIn wsX0_hasIn) := goodIn_app (goodIn_of _ (by decide +kernel)) ggX4_drop_X0_hasIn
set_option maxRecDepth 20000 in
theorem ggX4_drop_X0_letOut : GoodIn wsX4_drop wsX0_letOut := goodIn_r _ [52, 46, 47, 48, 53, 54, 121, 122, 123, 124, 125, 126, 127] (by decide +kernel) (by decide +kernel)
set_option maxRecDepth 20000 in
theorem gX4_drop_X0_letOut : GoodIn wsX4_drop (wsV RX4 134 RX0 yX0_letOut wsX0_letOut) := goodIn_app (goodIn_of _ (by decide +kernel)) ggX4_drop_X0_letOut
set_option maxRecDepth 20000 in
theorem ggX4_drop_X4_lookAnew : GoodIn wsX4_drop wsX4_lookAnew := goodIn_r _ [58, 13, 14, 3, 4, 15, 16, 17, 18, 19, 20, 21, 22, 23, 24, 25, 26, 27, 28, 29, 30, 31, 32, 33, 34, 35, 36, 37, 59, 60, 61, 9, 62, 63, 64, 65, 66, 67, 68, 69, 70, 71, 72, 73, 74, 75, 76, 77, 78, 79, 80, 81, 82, 83, 84, 85, 86, 87, 88, 89, 90, 91, 92, 93, 94, 95, 96, 97, 98, 99, 100, 101, 102, 103, 104, 105, 106, 107, 108, 109, 110, 111, 112, 113, 114, 115, 116, 117, 118, 119, 120, 128, 129, 130, 131, 132, 133, 134, 121, 122, 123, 124, 125, 126, 127, 135, 136, 137, 138, 139, 140, 141, 142, 143, 144, 145] (by decide +kernel) (by decide +kernel)
set_option maxRecDepth 20000 in
theorem gX4_drop_X4_lookAnew : GoodIn wsX4_drop (wsV RX4 137 RX4 yX4_lookAnew wsX4_lookAnew) := goodIn_app (goodIn_of _ (by decide +kernel)) ggX4_drop_X4_lookAnew
set_option maxRecDepth 20000 in
theorem ggX4_pass_X4_demandWithin : GoodIn wsX4_pass wsX4_demandWithin := goodIn_ca (goodIn_r _ [9, 10, 11] (by decide +kernel) (by decide +kernel)) (goodIn_sub (fun _ h => List.mem_cons_of_mem _ (List.mem_append_right _ h)) (by decide +kernel))
set_option maxRecDepth 20000 in
theorem gX4_pass_X4_demandWithin : GoodIn wsX4_pass (va_wsS RX4 33 yX4_demandWithin wsX4_demandWithin) := goodIn_app (goodIn_of _ (by decide +kernel)) ggX4_pass_X4_demandWithin
set_option maxRecDepth 20000 in
theorem ggX4_pass_Jx4a65c_size_8abf5 : GoodIn wsX4_pass wsJx4a65c_size_8abf5 := goodIn_r _ [16, 17, 56, 57, 58] (by decide +kernel) (by decide +kernel)
set_option maxRecDepth 20000 in
theorem gX4_pass_Jx4a65c_size_8abf5 : GoodIn wsX4_pass (wsV RX4 43 RJx4a65c yJx4a65c_size_8abf5 wsJx4a65c_size_8abf5) := goodIn_app (goodIn_of _ (by decide +kernel)) ggX4_pass_Jx4a65c_size_8abf5
set_option maxRecDepth 20000 in
theorem ggX4_pass_Jx4a65c_get_915e3 : GoodIn wsX4_pass wsJx4a65c_get_915e3 := goodIn_r _ [21, 17, 22, 23, 24, 25, 26, 27, 28, 29, 30, 31, 32, 15, 33, 34, 56, 57, 58] (by decide +kernel) (by decide +kernel)
set_option maxRecDepth 20000 in
theorem gX4_pass_Jx4a65c_get_915e3 : GoodIn wsX4_pass (wsV RX4 145 RJx4a65c yJx4a65c_get_915e3 wsJx4a65c_get_915e3) := goodIn_app (goodIn_of _ (by decide +kernel)) ggX4_pass_Jx4a65c_get_915e3
set_option maxRecDepth 20000 in
theorem ggX4_pass_X4_becomesDone : GoodIn wsX4_pass wsX4_becomesDone := goodIn_r _ [38, 39, 40, 3, 41, 42, 43, 44, 45, 46, 47, 48, 59, 60, 61, 62, 63, 64, 65, 49, 50, 51, 52, 53, 54, 55, 66, 67, 68, 69, 70, 71, 72, 73, 74, 75, 76] (by decide +kernel) (by decide +kernel)
set_option maxRecDepth 20000 in
theorem gX4_pass_X4_becomesDone : GoodIn wsX4_pass (wsV RX4 149 RX4 yX4_becomesDone wsX4_becomesDone) := goodIn_app (goodIn_of _ (by decide +kernel)) ggX4_pass_X4_becomesDone
set_option maxRecDepth 20000 in
theorem ggX4_level_X4_demandWithin : GoodIn wsX4_level wsX4_demandWithin := goodIn_ca (goodIn_r _ [5, 6, 7] (by decide +kernel) (by decide +kernel)) (goodIn_sub (fun _ h => List.mem_cons_of_mem _ (List.mem_append_right _ h)) (by decide +kernel))
set_option maxRecDepth 20000 in
theorem gX4_level_X4_demandWithin : GoodIn wsX4_level (va_wsS RX4 33 yX4_demandWithin wsX4_demandWithin) := goodIn_app (goodIn_of _ (by decide +kernel)) ggX4_level_X4_demandWithin
set_option maxRecDepth 20000 in
theorem ggX4_level_X3_aboveDepth : GoodIn wsX4_level wsX3_aboveDepth := goodIn_r _ [12, 13, 14, 15, 16, 17, 25, 26] (by decide +kernel) (by decide +kernel)
set_option maxRecDepth 20000 in
theorem gX4_level_X3_aboveDepth : GoodIn wsX4_level (wsV RX4 153 RX3 yX3_aboveDepth wsX3_aboveDepth) := goodIn_app (goodIn_of _ (by decide +kernel)) ggX4_level_X3_aboveDepth
set_option maxRecDepth 20000 in
theorem ggX4_window_X4_shipAt : GoodIn wsX4_window wsX4_shipAt := goodIn_ca (goodIn_r _ [10, 11, 12, 13, 14, 15, 16, 17, 18, 19, 20, 21, 22, 23, 24, 25, 26, 27, 28, 29, 30, 31, 32, 33, 34, 35, 36, 37, 59, 60, 61, 62, 63, 64, 65, 66, 67, 68] (by decide +kernel) (by decide +kernel)) (goodIn_sub (fun _ h => List.mem_cons_of_mem _ (List.mem_append_left _ (List.mem_append_right _ h))) (by decide +kernel))
set_option maxRecDepth 20000 in
theorem gX4_window_X4_shipAt : GoodIn wsX4_window (wsV RX4 64 RX4 yX4_shipAt wsX4_shipAt) := goodIn_app (goodIn_of _ (by decide +kernel)) ggX4_window_X4_shipAt
set_option maxRecDepth 20000 in
theorem ggX4_window_X4_demandWithin : GoodIn wsX4_window wsX4_demandWithin := goodIn_ca (goodIn_r _ [40, 41, 42] (by decide +kernel) (by decide +kernel)) (goodIn_sub (fun _ h => List.mem_cons_of_mem _ (List.mem_append_right _ h)) (by decide +kernel))
set_option maxRecDepth 20000 in
theorem gX4_window_X4_demandWithin : GoodIn wsX4_window (va_wsS RX4 33 yX4_demandWithin wsX4_demandWithin) := goodIn_app (goodIn_of _ (by decide +kernel)) ggX4_window_X4_demandWithin
set_option maxRecDepth 20000 in
theorem ggX4_window_X3_pastShallows : GoodIn wsX4_window wsX3_pastShallows := goodIn_r _ [47, 48, 49, 50, 51, 52, 53, 46, 54, 55, 56, 4, 57, 58, 69, 70, 71, 72, 73, 74, 75, 76] (by decide +kernel) (by decide +kernel)
set_option maxRecDepth 20000 in
theorem gX4_window_X3_pastShallows : GoodIn wsX4_window (wsV RX4 157 RX3 yX3_pastShallows wsX3_pastShallows) := goodIn_app (goodIn_of _ (by decide +kernel)) ggX4_window_X3_pastShallows
set_option maxRecDepth 20000 in
theorem ggX4_ofConference_X4_conferenceAt : GoodIn wsX4_ofConference wsX4_conferenceAt := goodIn_ca (goodIn_r _ [13, 1, 2, 14, 15, 16, 17, 18, 19, 20, 21, 22, 23, 24, 25, 26, 27, 28, 29, 30, 31, 32, 33, 34, 35, 36, 37, 38, 65, 66, 67, 68, 69, 70, 71, 72, 73, 74] (by decide +kernel) (by decide +kernel)) (goodIn_sub (fun _ h => List.mem_cons_of_mem _ (List.mem_append_right _ h)) (by decide +kernel))
set_option maxRecDepth 20000 in
theorem gX4_ofConference_X4_conferenceAt : GoodIn wsX4_ofConference (wsV RX4 76 RX4 yX4_conferenceAt wsX4_conferenceAt) := goodIn_app (goodIn_of _ (by decide +kernel)) ggX4_ofConference_X4_conferenceAt
set_option maxRecDepth 20000 in
theorem ggX4_ofConference_X0_howManyIn : GoodIn wsX4_ofConference wsX0_howManyIn := goodIn_r _ [43, 44, 45, 46, 47, 48, 49, 50, 51, 52, 53] (by decide +kernel) (by decide +kernel)
set_option maxRecDepth 20000 in
theorem gX4_ofConference_X0_howManyIn : GoodIn wsX4_ofConference (wsV RX4 115 RX0 yX0_howManyIn wsX0_howManyIn) := goodIn_app (goodIn_of _ (by decide +kernel)) ggX4_ofConference_X0_howManyIn
set_option maxRecDepth 20000 in
theorem ggX4_why_X4_conferenceAt : GoodIn wsX4_why wsX4_conferenceAt := goodIn_ca (goodIn_r _ [11, 12, 13, 14, 15, 16, 17, 18, 19, 20, 21, 22, 23, 24, 25, 26, 27, 28, 29, 30, 31, 32, 33, 34, 35, 36, 37, 38, 94, 95, 96, 97, 98, 99, 100, 108, 109, 110] (by decide +kernel) (by decide +kernel)) (goodIn_sub (fun _ h => List.mem_cons_of_mem _ (List.mem_append_left _ (List.mem_append_right _ h))) (by decide +kernel))
set_option maxRecDepth 20000 in
theorem gX4_why_X4_conferenceAt : GoodIn wsX4_why (wsV RX4 76 RX4 yX4_conferenceAt wsX4_conferenceAt) := goodIn_app (goodIn_of _ (by decide +kernel)) ggX4_why_X4_conferenceAt
set_option maxRecDepth 20000 in
theorem ggX4_why_X4_demandWithin : GoodIn wsX4_why wsX4_demandWithin := goodIn_ca (goodIn_r _ [41, 42, 43] (by decide +kernel) (by decide +kernel)) (goodIn_sub (fun _ h => List.mem_cons_of_mem _ (List.mem_append_right _ h)) (by decide +kernel))
set_option maxRecDepth 20000 in
theorem gX4_why_X4_demandWithin : GoodIn wsX4_why (va_wsS RX4 33 yX4_demandWithin wsX4_demandWithin) := goodIn_app (goodIn_of _ (by decide +kernel)) ggX4_why_X4_demandWithin
set_option maxRecDepth 20000 in
theorem ggX4_why_X3_pastShallows : GoodIn wsX4_why wsX3_pastShallows := goodIn_r _ [48, 49, 50, 51, 52, 53, 54, 47, 55, 56, 57, 58, 59, 60, 111, 112, 113, 114, 115, 116, 117, 118] (by decide +kernel) (by decide +kernel)
set_option maxRecDepth 20000 in
theorem gX4_why_X3_pastShallows : GoodIn wsX4_why (wsV RX4 157 RX3 yX3_pastShallows wsX3_pastShallows) := goodIn_app (goodIn_of _ (by decide +kernel)) ggX4_why_X3_pastShallows
set_option maxRecDepth 20000 in
theorem ggX4_why_X4_pastRests : GoodIn wsX4_why wsX4_pastRests := goodIn_r _ [64, 14, 15, 65, 4, 6, 66, 67, 58, 68, 16, 17, 18, 19, 20, 21, 22, 23, 24, 25, 26, 27, 28, 29, 30, 31, 32, 33, 34, 35, 36, 37, 38, 69, 70, 71, 72, 73, 74, 75, 94, 95, 96, 97, 98, 99, 100, 101, 102, 103, 104, 105, 106, 107, 108, 109, 110, 111, 112, 113, 114, 115, 116] (by decide +kernel) (by decide +kernel)
set_option maxRecDepth 20000 in
theorem gX4_why_X4_pastRests : GoodIn wsX4_why (wsV RX4 182 RX4 yX4_pastRests wsX4_pastRests) := goodIn_app (goodIn_of _ (by decide +kernel)) ggX4_why_X4_pastRests
set_option maxRecDepth 20000 in
theorem ggX4_why_X4_pastTugs : GoodIn wsX4_why wsX4_pastTugs := goodIn_r _ [79, 6, 80, 81, 82, 83, 84, 85, 10, 86, 14, 15, 65, 16, 17, 18, 19, 20, 21, 22, 23, 24, 25, 26, 27, 28, 29, 30, 31, 32, 33, 34, 35, 36, 37, 38, 101, 102, 103, 104, 105, 106, 107, 111, 112, 113, 114, 115, 116, 94, 95, 96, 97, 98, 99, 100, 108, 109, 110] (by decide +kernel) (by decide +kernel)
set_option maxRecDepth 20000 in
theorem gX4_why_X4_pastTugs : GoodIn wsX4_why (wsV RX4 186 RX4 yX4_pastTugs wsX4_pastTugs) := goodIn_app (goodIn_of _ (by decide +kernel)) ggX4_why_X4_pastTugs
set_option maxRecDepth 20000 in
theorem ggX4_why_X4_pastChannel : GoodIn wsX4_why wsX4_pastChannel := goodIn_r _ [90, 14, 15, 65, 91, 92, 58, 93, 66, 67, 68, 16, 17, 18, 19, 20, 21, 22, 23, 24, 25, 26, 27, 28, 29, 30, 31, 32, 33, 34, 35, 36, 37, 38, 94, 95, 96, 97, 98, 99, 100, 101, 102, 103, 104, 105, 106, 107, 108, 109, 110] (by decide +kernel) (by decide +kernel)
set_option maxRecDepth 20000 in
theorem gX4_why_X4_pastChannel : GoodIn wsX4_why (wsV RX4 189 RX4 yX4_pastChannel wsX4_pastChannel) := goodIn_app (goodIn_of _ (by decide +kernel)) ggX4_why_X4_pastChannel
set_option maxRecDepth 20000 in
theorem ggX4_rested_X4_pilotAt : GoodIn wsX4_rested wsX4_pilotAt := goodIn_ca (goodIn_r _ [5, 6, 7, 8, 9, 10, 11, 12, 13, 14, 15, 16, 17, 18, 19, 20, 21, 22, 23, 24, 25, 26, 27, 28, 29, 30, 31, 32, 54, 55, 56, 57, 58, 59, 60, 61, 62, 63] (by decide +kernel) (by decide +kernel)) (goodIn_sub (fun _ h => List.mem_cons_of_mem _ (List.mem_append_right _ h)) (by decide +kernel))
set_option maxRecDepth 20000 in
theorem gX4_rested_X4_pilotAt : GoodIn wsX4_rested (wsV RX4 84 RX4 yX4_pilotAt wsX4_pilotAt) := goodIn_app (goodIn_of _ (by decide +kernel)) ggX4_rested_X4_pilotAt
set_option maxRecDepth 20000 in
theorem ggX4_rested_X4_restedBehindSlots : GoodIn wsX4_rested wsX4_restedBehindSlots := goodIn_r _ [36, 37, 38, 39, 40, 41, 42, 43, 44, 45, 46, 10, 11, 12, 13, 14, 15, 16, 17, 18, 19, 20, 21, 22, 23, 24, 25, 26, 27, 28, 29, 30, 31, 32, 47, 48, 49, 50, 51, 52, 53, 54, 55, 56, 57, 58, 59, 60, 64, 65, 66, 67, 68, 69, 70, 61, 62, 63, 71, 72, 73, 74, 75, 76] (by decide +kernel) (by decide +kernel)
set_option maxRecDepth 20000 in
theorem gX4_rested_X4_restedBehindSlots : GoodIn wsX4_rested (wsV RX4 192 RX4 yX4_restedBehindSlots wsX4_restedBehindSlots) := goodIn_app (goodIn_of _ (by decide +kernel)) ggX4_rested_X4_restedBehindSlots
set_option maxRecDepth 20000 in
theorem ggX4_restedAnew_X4_pilotAt : GoodIn wsX4_restedAnew wsX4_pilotAt := goodIn_ca (goodIn_r _ [5, 6, 7, 8, 9, 10, 11, 12, 13, 14, 15, 16, 17, 18, 19, 20, 21, 22, 23, 24, 25, 26, 27, 28, 29, 30, 31, 32, 54, 55, 56, 57, 58, 59, 60, 61, 62, 63] (by decide +kernel) (by decide +kernel)) (goodIn_sub (fun _ h => List.mem_cons_of_mem _ (List.mem_append_right _ h)) (by decide +kernel))
set_option maxRecDepth 20000 in
theorem gX4_restedAnew_X4_pilotAt : GoodIn wsX4_restedAnew (wsV RX4 84 RX4 yX4_pilotAt wsX4_pilotAt) := goodIn_app (goodIn_of _ (by decide +kernel)) ggX4_restedAnew_X4_pilotAt
set_option maxRecDepth 20000 in
theorem ggX4_restedAnew_X4_restedBehindSlots : GoodIn wsX4_restedAnew wsX4_restedBehindSlots := goodIn_r _ [36, 37, 38, 39, 40, 41, 42, 43, 44, 45, 46, 10, 11, 12, 13, 14, 15, 16, 17, 18, 19, 20, 21, 22, 23, 24, 25, 26, 27, 28, 29, 30, 31, 32, 47, 48, 49, 50, 51, 52, 53, 54, 55, 56, 57, 58, 59, 60, 64, 65, 66, 67, 68, 69, 70, 61, 62, 63, 71, 72, 73, 74, 75, 76] (by decide +kernel) (by decide +kernel)
set_option maxRecDepth 20000 in
theorem gX4_restedAnew_X4_restedBehindSlots : GoodIn wsX4_restedAnew (wsV RX4 192 RX4 yX4_restedBehindSlots wsX4_restedBehindSlots) := goodIn_app (goodIn_of _ (by decide +kernel)) ggX4_restedAnew_X4_restedBehindSlots
set_option maxRecDepth 20000 in
theorem ggX4_bill_X4_shipAt : GoodIn wsX4_bill wsX4_shipAt := goodIn_ca (goodIn_r _ [6, 7, 8, 9, 10, 11, 12, 13, 14, 15, 16, 17, 18, 19, 20, 21, 22, 23, 24, 25, 26, 27, 28, 29, 30, 31, 32, 33, 40, 41, 42, 43, 44, 45, 46, 47, 48, 49] (by decide +kernel) (by decide +kernel)) (goodIn_sub (fun _ h => List.mem_cons_of_mem _ (List.mem_append_right _ h)) (by decide +kernel))
set_option maxRecDepth 20000 in
theorem gX4_bill_X4_shipAt : GoodIn wsX4_bill (wsV RX4 64 RX4 yX4_shipAt wsX4_shipAt) := goodIn_app (goodIn_of _ (by decide +kernel)) ggX4_bill_X4_shipAt
set_option maxRecDepth 20000 in
theorem ggX4_ofPilot_X4_pilotAt : GoodIn wsX4_ofPilot wsX4_pilotAt := goodIn_ca (goodIn_r _ [10, 1, 2, 11, 12, 13, 14, 15, 16, 17, 18, 19, 20, 21, 22, 23, 24, 25, 26, 27, 28, 29, 30, 31, 32, 33, 34, 35, 49, 50, 51, 52, 53, 54, 55, 56, 57, 58] (by decide +kernel) (by decide +kernel)) (goodIn_sub (fun _ h => List.mem_cons_of_mem _ (List.mem_append_right _ h)) (by decide +kernel))
set_option maxRecDepth 20000 in
theorem gX4_ofPilot_X4_pilotAt : GoodIn wsX4_ofPilot (wsV RX4 84 RX4 yX4_pilotAt wsX4_pilotAt) := goodIn_app (goodIn_of _ (by decide +kernel)) ggX4_ofPilot_X4_pilotAt
set_option maxRecDepth 20000 in
theorem ggX4_ofPilot_X4_isAboard : GoodIn wsX4_ofPilot wsX4_isAboard := goodIn_r _ [39, 40, 41, 42, 43, 13, 14, 15, 16, 17, 18, 19, 20, 21, 22, 23, 24, 25, 26, 27, 28, 29, 30, 31, 32, 33, 34, 35, 49, 50, 51, 52, 53, 54, 55, 59, 60, 61, 62, 63, 64, 65, 56, 57, 58] (by decide +kernel) (by decide +kernel)
set_option maxRecDepth 20000 in
theorem gX4_ofPilot_X4_isAboard : GoodIn wsX4_ofPilot (wsV RX4 205 RX4 yX4_isAboard wsX4_isAboard) := goodIn_app (goodIn_of _ (by decide +kernel)) ggX4_ofPilot_X4_isAboard
set_option maxRecDepth 20000 in
theorem ggX4_count_X4_demandWithin : GoodIn wsX4_count wsX4_demandWithin := goodIn_ca (goodIn_r _ [6, 7, 8] (by decide +kernel) (by decide +kernel)) (goodIn_sub (fun _ h => List.mem_cons_of_mem _ (List.mem_append_right _ h)) (by decide +kernel))
set_option maxRecDepth 20000 in
theorem gX4_count_X4_demandWithin : GoodIn wsX4_count (va_wsS RX4 33 yX4_demandWithin wsX4_demandWithin) := goodIn_app (goodIn_of _ (by decide +kernel)) ggX4_count_X4_demandWithin
set_option maxRecDepth 20000 in
theorem ggX4_count_X4_tugsOfOthers : GoodIn wsX4_count wsX4_tugsOfOthers := goodIn_r _ [12, 13, 14, 15, 16, 17, 18, 19, 20, 21, 22, 23, 24, 25, 26, 27, 28, 29, 30, 31, 32, 33, 34, 35, 36, 37, 38, 39, 40, 41, 54, 55, 56, 57, 58, 59, 60, 61, 62, 63, 64, 65, 66, 67, 68, 69, 70, 71, 72, 73, 74, 75, 76] (by decide +kernel) (by decide +kernel)
set_option maxRecDepth 20000 in
theorem gX4_count_X4_tugsOfOthers : GoodIn wsX4_count (wsV RX4 212 RX4 yX4_tugsOfOthers wsX4_tugsOfOthers) := goodIn_app (goodIn_of _ (by decide +kernel)) ggX4_count_X4_tugsOfOthers
set_option maxRecDepth 20000 in
theorem ggX4_count_X4_allBills : GoodIn wsX4_count wsX4_allBills := goodIn_r _ [45, 46, 47, 48, 19, 20, 21, 22, 23, 24, 25, 26, 27, 28, 29, 30, 31, 32, 33, 34, 35, 36, 37, 38, 39, 40, 41, 54, 55, 56, 57, 58, 59, 60, 68, 69, 70, 71, 72, 73, 74, 75, 76] (by decide +kernel) (by decide +kernel)
set_option maxRecDepth 20000 in
theorem gX4_count_X4_allBills : GoodIn wsX4_count (wsV RX4 216 RX4 yX4_allBills wsX4_allBills) := goodIn_app (goodIn_of _ (by decide +kernel)) ggX4_count_X4_allBills
set_option maxRecDepth 20000 in
theorem ggX4_count_X4_howManyAre : GoodIn wsX4_count wsX4_howManyAre := goodIn_r _ [52, 13, 14, 53, 19, 20, 21, 22, 23, 24, 25, 26, 27, 28, 29, 30, 31, 32, 33, 34, 35, 36, 37, 38, 39, 40, 41, 54, 55, 56, 57, 58, 59, 60, 61, 62, 63, 64, 65, 66, 67, 74, 75, 76] (by decide +kernel) (by decide +kernel)
set_option maxRecDepth 20000 in
theorem gX4_count_X4_howManyAre : GoodIn wsX4_count (wsV RX4 219 RX4 yX4_howManyAre wsX4_howManyAre) := goodIn_app (goodIn_of _ (by decide +kernel)) ggX4_count_X4_howManyAre
set_option maxRecDepth 20000 in
theorem ggX4_shipAt_Jx4a65c_size_8abf5 : GoodIn wsX4_shipAt wsJx4a65c_size_8abf5 := goodIn_r _ [9, 10, 35, 36, 37] (by decide +kernel) (by decide +kernel)
set_option maxRecDepth 20000 in
theorem gX4_shipAt_Jx4a65c_size_8abf5 : GoodIn wsX4_shipAt (wsV RX4 43 RJx4a65c yJx4a65c_size_8abf5 wsJx4a65c_size_8abf5) := goodIn_app (goodIn_of _ (by decide +kernel)) ggX4_shipAt_Jx4a65c_size_8abf5
set_option maxRecDepth 20000 in
theorem ggX4_shipAt_Jx4a65c_get_915e3 : GoodIn wsX4_shipAt wsJx4a65c_get_915e3 := goodIn_r _ [14, 10, 15, 16, 17, 18, 19, 20, 21, 22, 23, 24, 25, 8, 26, 27, 35, 36, 37] (by decide +kernel) (by decide +kernel)
set_option maxRecDepth 20000 in
theorem gX4_shipAt_Jx4a65c_get_915e3 : GoodIn wsX4_shipAt (wsV RX4 145 RJx4a65c yJx4a65c_get_915e3 wsJx4a65c_get_915e3) := goodIn_app (goodIn_of _ (by decide +kernel)) ggX4_shipAt_Jx4a65c_get_915e3
set_option maxRecDepth 20000 in
theorem ggX4_pilotAt_Jx4a65c_size_8abf5 : GoodIn wsX4_pilotAt wsJx4a65c_size_8abf5 := goodIn_r _ [9, 10, 35, 36, 37] (by decide +kernel) (by decide +kernel)
set_option maxRecDepth 20000 in
theorem gX4_pilotAt_Jx4a65c_size_8abf5 : GoodIn wsX4_pilotAt (wsV RX4 43 RJx4a65c yJx4a65c_size_8abf5 wsJx4a65c_size_8abf5) := goodIn_app (goodIn_of _ (by decide +kernel)) ggX4_pilotAt_Jx4a65c_size_8abf5
set_option maxRecDepth 20000 in
theorem ggX4_pilotAt_Jx4a65c_get_915e3 : GoodIn wsX4_pilotAt wsJx4a65c_get_915e3 := goodIn_r _ [14, 10, 15, 16, 17, 18, 19, 20, 21, 22, 23, 24, 25, 8, 26, 27, 35, 36, 37] (by decide +kernel) (by decide +kernel)
set_option maxRecDepth 20000 in
theorem gX4_pilotAt_Jx4a65c_get_915e3 : GoodIn wsX4_pilotAt (wsV RX4 145 RJx4a65c yJx4a65c_get_915e3 wsJx4a65c_get_915e3) := goodIn_app (goodIn_of _ (by decide +kernel)) ggX4_pilotAt_Jx4a65c_get_915e3
set_option maxRecDepth 20000 in
theorem ggX4_conferenceAt_Jx4a65c_size_8abf5 : GoodIn wsX4_conferenceAt wsJx4a65c_size_8abf5 := goodIn_r _ [9, 10, 35, 36, 37] (by decide +kernel) (by decide +kernel)
set_option maxRecDepth 20000 in
theorem gX4_conferenceAt_Jx4a65c_size_8abf5 : GoodIn wsX4_conferenceAt (wsV RX4 43 RJx4a65c yJx4a65c_size_8abf5 wsJx4a65c_size_8abf5) := goodIn_app (goodIn_of _ (by decide +kernel)) ggX4_conferenceAt_Jx4a65c_size_8abf5
set_option maxRecDepth 20000 in
theorem ggX4_conferenceAt_Jx4a65c_get_915e3 : GoodIn wsX4_conferenceAt wsJx4a65c_get_915e3 := goodIn_r _ [14, 10, 15, 16, 17, 18, 19, 20, 21, 22, 23, 24, 25, 8, 26, 27, 35, 36, 37] (by decide +kernel) (by decide +kernel)
set_option maxRecDepth 20000 in
theorem gX4_conferenceAt_Jx4a65c_get_915e3 : GoodIn wsX4_conferenceAt (wsV RX4 145 RJx4a65c yJx4a65c_get_915e3 wsJx4a65c_get_915e3) := goodIn_app (goodIn_of _ (by decide +kernel)) ggX4_conferenceAt_Jx4a65c_get_915e3
set_option maxRecDepth 20000 in
theorem ggX4_lookAnew_Jx4a65c_size_8abf5 : GoodIn wsX4_lookAnew wsJx4a65c_size_8abf5 := goodIn_r _ [9, 10, 105, 106, 107] (by decide +kernel) (by decide +kernel)
set_option maxRecDepth 20000 in
theorem gX4_lookAnew_Jx4a65c_size_8abf5 : GoodIn wsX4_lookAnew (wsV RX4 43 RJx4a65c yJx4a65c_size_8abf5 wsJx4a65c_size_8abf5) := goodIn_app (goodIn_of _ (by decide +kernel)) ggX4_lookAnew_Jx4a65c_size_8abf5
set_option maxRecDepth 20000 in
theorem ggX4_lookAnew_Jx4a65c_get_915e3 : GoodIn wsX4_lookAnew wsJx4a65c_get_915e3 := goodIn_r _ [14, 10, 15, 16, 17, 18, 19, 20, 21, 22, 23, 24, 25, 8, 26, 27, 105, 106, 107] (by decide +kernel) (by decide +kernel)
set_option maxRecDepth 20000 in
theorem gX4_lookAnew_Jx4a65c_get_915e3 : GoodIn wsX4_lookAnew (wsV RX4 145 RJx4a65c yJx4a65c_get_915e3 wsJx4a65c_get_915e3) := goodIn_app (goodIn_of _ (by decide +kernel)) ggX4_lookAnew_Jx4a65c_get_915e3
set_option maxRecDepth 20000 in
theorem ggX4_lookAnew_X4_lookForSlot : GoodIn wsX4_lookAnew wsX4_lookForSlot := goodIn_r _ [32, 4, 3, 33, 34, 35, 36, 31, 37, 38, 39, 40, 41, 42, 43, 44, 45, 46, 47, 48, 49, 50, 51, 52, 53, 54, 55, 56, 57, 58, 59, 60, 61, 62, 63, 64, 1, 2, 65, 5, 6, 7, 8, 9, 10, 11, 12, 13, 14, 15, 16, 17, 18, 19, 20, 21, 22, 23, 24, 25, 26, 27, 66, 67, 68, 69, 70, 71, 72, 73, 74, 75, 76, 77, 78, 79, 80, 81, 82, 83, 84, 85, 86, 87, 88, 89, 90, 98, 99, 100, 101, 102, 103, 104, 91, 92, 93, 94, 95, 96, 97, 108, 109, 110, 111, 112, 113, 114, 115, 105, 106, 107] (by decide +kernel) (by decide +kernel)
set_option maxRecDepth 20000 in
theorem gX4_lookAnew_X4_lookForSlot : GoodIn wsX4_lookAnew (wsV RX4 118 RX4 yX4_lookForSlot wsX4_lookForSlot) := goodIn_app (goodIn_of _ (by decide +kernel)) ggX4_lookAnew_X4_lookForSlot
set_option maxRecDepth 20000 in
theorem ggX4_lookForSlot_X4_earliestSlot : GoodIn wsX4_lookForSlot wsX4_earliestSlot := goodIn_r _ [8, 9, 3, 10, 11, 12, 13, 14, 15, 16, 17, 18, 19, 20, 21, 22, 23, 24, 25, 26, 27, 28, 29, 30, 31, 32, 33, 34, 7, 35, 36, 37, 1, 38, 39, 40, 41, 42, 43, 44, 45, 46, 47, 48, 49, 50, 51, 52, 53, 54, 55, 56, 57, 58, 59, 60, 61, 62, 63, 64, 65, 66, 67, 68, 69, 70, 71, 72, 73, 74, 75, 76, 77, 78, 79, 80, 81, 82, 83, 84, 85, 86, 87, 88, 89, 90, 91, 92, 93, 94, 95, 96, 97, 98, 99, 100, 101, 102, 103, 104, 105, 106, 107, 108, 109, 110, 111] (by decide +kernel) (by decide +kernel)
set_option maxRecDepth 20000 in
theorem gX4_lookForSlot_X4_earliestSlot : GoodIn wsX4_lookForSlot (wsV RX4 237 RX4 yX4_earliestSlot wsX4_earliestSlot) := goodIn_app (goodIn_of _ (by decide +kernel)) ggX4_lookForSlot_X4_earliestSlot
set_option maxRecDepth 20000 in
theorem ggX4_earliestSlot_X3_pastShallows : GoodIn wsX4_earliestSlot wsX3_pastShallows := goodIn_r _ [13, 14, 15, 16, 17, 18, 19, 12, 20, 21, 22, 5, 23, 24, 96, 97, 98, 99, 100, 101, 102, 103] (by decide +kernel) (by decide +kernel)
set_option maxRecDepth 20000 in
theorem gX4_earliestSlot_X3_pastShallows : GoodIn wsX4_earliestSlot (wsV RX4 157 RX3 yX3_pastShallows wsX3_pastShallows) := goodIn_app (goodIn_of _ (by decide +kernel)) ggX4_earliestSlot_X3_pastShallows
set_option maxRecDepth 20000 in
theorem ggX4_earliestSlot_X4_pastRests : GoodIn wsX4_earliestSlot wsX4_pastRests := goodIn_r _ [29, 30, 31, 32, 33, 8, 3, 4, 5, 6, 34, 35, 36, 37, 38, 39, 40, 41, 42, 43, 44, 45, 46, 47, 48, 49, 50, 51, 52, 53, 54, 55, 56, 57, 58, 59, 60, 61, 62, 63, 89, 90, 91, 92, 93, 94, 95, 82, 83, 84, 85, 86, 87, 88, 104, 105, 106, 96, 97, 98, 99, 100, 101] (by decide +kernel) (by decide +kernel)
set_option maxRecDepth 20000 in
theorem gX4_earliestSlot_X4_pastRests : GoodIn wsX4_earliestSlot (wsV RX4 182 RX4 yX4_pastRests wsX4_pastRests) := goodIn_app (goodIn_of _ (by decide +kernel)) ggX4_earliestSlot_X4_pastRests
set_option maxRecDepth 20000 in
theorem ggX4_earliestSlot_X4_pastChannel : GoodIn wsX4_earliestSlot wsX4_pastChannel := goodIn_r _ [67, 30, 31, 32, 68, 69, 5, 70, 3, 4, 6, 34, 35, 36, 37, 38, 39, 40, 41, 42, 43, 44, 45, 46, 47, 48, 49, 50, 51, 52, 53, 54, 55, 56, 89, 90, 91, 92, 93, 94, 95, 82, 83, 84, 85, 86, 87, 88, 104, 105, 106] (by decide +kernel) (by decide +kernel)
set_option maxRecDepth 20000 in
theorem gX4_earliestSlot_X4_pastChannel : GoodIn wsX4_earliestSlot (wsV RX4 189 RX4 yX4_pastChannel wsX4_pastChannel) := goodIn_app (goodIn_of _ (by decide +kernel)) ggX4_earliestSlot_X4_pastChannel
set_option maxRecDepth 20000 in
theorem ggX4_earliestSlot_X4_pastTugs : GoodIn wsX4_earliestSlot wsX4_pastTugs := goodIn_r _ [74, 8, 75, 76, 77, 78, 79, 80, 28, 81, 30, 31, 32, 34, 35, 36, 37, 38, 39, 40, 41, 42, 43, 44, 45, 46, 47, 48, 49, 50, 51, 52, 53, 54, 55, 56, 82, 83, 84, 85, 86, 87, 88, 96, 97, 98, 99, 100, 101, 89, 90, 91, 92, 93, 94, 95, 104, 105, 106] (by decide +kernel) (by decide +kernel)
set_option maxRecDepth 20000 in
theorem gX4_earliestSlot_X4_pastTugs : GoodIn wsX4_earliestSlot (wsV RX4 186 RX4 yX4_pastTugs wsX4_pastTugs) := goodIn_app (goodIn_of _ (by decide +kernel)) ggX4_earliestSlot_X4_pastTugs
set_option maxRecDepth 20000 in
theorem ggX4_pastRests_Jx4a65c_size_8abf5 : GoodIn wsX4_pastRests wsJx4a65c_size_8abf5 := goodIn_r _ [14, 15, 54, 55, 56] (by decide +kernel) (by decide +kernel)
set_option maxRecDepth 20000 in
theorem gX4_pastRests_Jx4a65c_size_8abf5 : GoodIn wsX4_pastRests (wsV RX4 43 RJx4a65c yJx4a65c_size_8abf5 wsJx4a65c_size_8abf5) := goodIn_app (goodIn_of _ (by decide +kernel)) ggX4_pastRests_Jx4a65c_size_8abf5
set_option maxRecDepth 20000 in
theorem ggX4_pastRests_Jx4a65c_get_915e3 : GoodIn wsX4_pastRests wsJx4a65c_get_915e3 := goodIn_r _ [19, 15, 20, 21, 22, 23, 24, 25, 26, 27, 28, 29, 30, 13, 31, 32, 54, 55, 56] (by decide +kernel) (by decide +kernel)
set_option maxRecDepth 20000 in
theorem gX4_pastRests_Jx4a65c_get_915e3 : GoodIn wsX4_pastRests (wsV RX4 145 RJx4a65c yJx4a65c_get_915e3 wsJx4a65c_get_915e3) := goodIn_app (goodIn_of _ (by decide +kernel)) ggX4_pastRests_Jx4a65c_get_915e3
set_option maxRecDepth 20000 in
theorem ggX4_pastRests_X2_minutesWithRest : GoodIn wsX4_pastRests wsX2_minutesWithRest := goodIn_r _ [37, 38, 39, 7, 8, 9, 57, 58, 59, 60, 61, 62] (by decide +kernel) (by decide +kernel)
set_option maxRecDepth 20000 in
theorem gX4_pastRests_X2_minutesWithRest : GoodIn wsX4_pastRests (wsV RX4 244 RX2 yX2_minutesWithRest wsX2_minutesWithRest) := goodIn_app (goodIn_of _ (by decide +kernel)) ggX4_pastRests_X2_minutesWithRest
set_option maxRecDepth 20000 in
theorem ggX4_pastTugs_X4_tugsOfOthers : GoodIn wsX4_pastTugs wsX4_tugsOfOthers := goodIn_r _ [9, 10, 11, 12, 1, 2, 4, 13, 14, 15, 16, 17, 18, 19, 20, 21, 22, 23, 24, 25, 26, 27, 28, 29, 30, 31, 32, 33, 34, 35, 49, 50, 51, 52, 53, 54, 55, 36, 37, 38, 39, 40, 41, 42, 43, 44, 45, 46, 47, 48, 56, 57, 58] (by decide +kernel) (by decide +kernel)
set_option maxRecDepth 20000 in
theorem gX4_pastTugs_X4_tugsOfOthers : GoodIn wsX4_pastTugs (wsV RX4 212 RX4 yX4_tugsOfOthers wsX4_tugsOfOthers) := goodIn_app (goodIn_of _ (by decide +kernel)) ggX4_pastTugs_X4_tugsOfOthers
set_option maxRecDepth 20000 in
theorem ggX4_pastChannel_Jx4a65c_size_8abf5 : GoodIn wsX4_pastChannel wsJx4a65c_size_8abf5 := goodIn_r _ [15, 16, 48, 49, 50] (by decide +kernel) (by decide +kernel)
set_option maxRecDepth 20000 in
theorem gX4_pastChannel_Jx4a65c_size_8abf5 : GoodIn wsX4_pastChannel (wsV RX4 43 RJx4a65c yJx4a65c_size_8abf5 wsJx4a65c_size_8abf5) := goodIn_app (goodIn_of _ (by decide +kernel)) ggX4_pastChannel_Jx4a65c_size_8abf5
set_option maxRecDepth 20000 in
theorem ggX4_pastChannel_Jx4a65c_get_915e3 : GoodIn wsX4_pastChannel wsJx4a65c_get_915e3 := goodIn_r _ [20, 16, 21, 22, 23, 24, 25, 26, 27, 28, 29, 30, 31, 14, 32, 33, 48, 49, 50] (by decide +kernel) (by decide +kernel)
set_option maxRecDepth 20000 in
theorem gX4_pastChannel_Jx4a65c_get_915e3 : GoodIn wsX4_pastChannel (wsV RX4 145 RJx4a65c yJx4a65c_get_915e3 wsJx4a65c_get_915e3) := goodIn_app (goodIn_of _ (by decide +kernel)) ggX4_pastChannel_Jx4a65c_get_915e3
set_option maxRecDepth 20000 in
theorem ggX4_tugsOfOthers_Jx4a65c_size_8abf5 : GoodIn wsX4_tugsOfOthers wsJx4a65c_size_8abf5 := goodIn_r _ [11, 12, 50, 51, 52] (by decide +kernel) (by decide +kernel)
set_option maxRecDepth 20000 in
theorem gX4_tugsOfOthers_Jx4a65c_size_8abf5 : GoodIn wsX4_tugsOfOthers (wsV RX4 43 RJx4a65c yJx4a65c_size_8abf5 wsJx4a65c_size_8abf5) := goodIn_app (goodIn_of _ (by decide +kernel)) ggX4_tugsOfOthers_Jx4a65c_size_8abf5
set_option maxRecDepth 20000 in
theorem ggX4_tugsOfOthers_Jx4a65c_get_915e3 : GoodIn wsX4_tugsOfOthers wsJx4a65c_get_915e3 := goodIn_r _ [16, 12, 17, 18, 19, 20, 21, 22, 23, 24, 25, 26, 27, 10, 28, 29, 50, 51, 52] (by decide +kernel) (by decide +kernel)
set_option maxRecDepth 20000 in
theorem gX4_tugsOfOthers_Jx4a65c_get_915e3 : GoodIn wsX4_tugsOfOthers (wsV RX4 145 RJx4a65c yJx4a65c_get_915e3 wsJx4a65c_get_915e3) := goodIn_app (goodIn_of _ (by decide +kernel)) ggX4_tugsOfOthers_Jx4a65c_get_915e3
set_option maxRecDepth 20000 in
theorem ggX4_restedBehindSlots_Jx4a65c_size_8abf5 : GoodIn wsX4_restedBehindSlots wsJx4a65c_size_8abf5 := goodIn_r _ [15, 16, 55, 56, 57] (by decide +kernel) (by decide +kernel)
set_option maxRecDepth 20000 in
theorem gX4_restedBehindSlots_Jx4a65c_size_8abf5 : GoodIn wsX4_restedBehindSlots (wsV RX4 43 RJx4a65c yJx4a65c_size_8abf5 wsJx4a65c_size_8abf5) := goodIn_app (goodIn_of _ (by decide +kernel)) ggX4_restedBehindSlots_Jx4a65c_size_8abf5
set_option maxRecDepth 20000 in
theorem ggX4_restedBehindSlots_Jx4a65c_get_915e3 : GoodIn wsX4_restedBehindSlots wsJx4a65c_get_915e3 := goodIn_r _ [20, 16, 21, 22, 23, 24, 25, 26, 27, 28, 29, 30, 31, 14, 32, 33, 55, 56, 57] (by decide +kernel) (by decide +kernel)
set_option maxRecDepth 20000 in
theorem gX4_restedBehindSlots_Jx4a65c_get_915e3 : GoodIn wsX4_restedBehindSlots (wsV RX4 145 RJx4a65c yJx4a65c_get_915e3 wsJx4a65c_get_915e3) := goodIn_app (goodIn_of _ (by decide +kernel)) ggX4_restedBehindSlots_Jx4a65c_get_915e3
set_option maxRecDepth 20000 in
theorem ggX4_restedBehindSlots_X2_minutesWithRest : GoodIn wsX4_restedBehindSlots wsX2_minutesWithRest := goodIn_r _ [38, 39, 40, 8, 9, 10, 58, 59, 60, 61, 62, 63] (by decide +kernel) (by decide +kernel)
set_option maxRecDepth 20000 in
theorem gX4_restedBehindSlots_X2_minutesWithRest : GoodIn wsX4_restedBehindSlots (wsV RX4 244 RX2 yX2_minutesWithRest wsX2_minutesWithRest) := goodIn_app (goodIn_of _ (by decide +kernel)) ggX4_restedBehindSlots_X2_minutesWithRest
set_option maxRecDepth 20000 in
theorem ggX4_isAboard_Jx4a65c_size_8abf5 : GoodIn wsX4_isAboard wsJx4a65c_size_8abf5 := goodIn_r _ [9, 10, 42, 43, 44] (by decide +kernel) (by decide +kernel)
set_option maxRecDepth 20000 in
theorem gX4_isAboard_Jx4a65c_size_8abf5 : GoodIn wsX4_isAboard (wsV RX4 43 RJx4a65c yJx4a65c_size_8abf5 wsJx4a65c_size_8abf5) := goodIn_app (goodIn_of _ (by decide +kernel)) ggX4_isAboard_Jx4a65c_size_8abf5
set_option maxRecDepth 20000 in
theorem ggX4_isAboard_Jx4a65c_get_915e3 : GoodIn wsX4_isAboard wsJx4a65c_get_915e3 := goodIn_r _ [14, 10, 15, 16, 17, 18, 19, 20, 21, 22, 23, 24, 25, 8, 26, 27, 42, 43, 44] (by decide +kernel) (by decide +kernel)
set_option maxRecDepth 20000 in
theorem gX4_isAboard_Jx4a65c_get_915e3 : GoodIn wsX4_isAboard (wsV RX4 145 RJx4a65c yJx4a65c_get_915e3 wsJx4a65c_get_915e3) := goodIn_app (goodIn_of _ (by decide +kernel)) ggX4_isAboard_Jx4a65c_get_915e3
set_option maxRecDepth 20000 in
theorem ggX4_howManyAre_Jx4a65c_size_8abf5 : GoodIn wsX4_howManyAre wsJx4a65c_size_8abf5 := goodIn_r _ [8, 9, 41, 42, 43] (by decide +kernel) (by decide +kernel)
set_option maxRecDepth 20000 in
theorem gX4_howManyAre_Jx4a65c_size_8abf5 : GoodIn wsX4_howManyAre (wsV RX4 43 RJx4a65c yJx4a65c_size_8abf5 wsJx4a65c_size_8abf5) := goodIn_app (goodIn_of _ (by decide +kernel)) ggX4_howManyAre_Jx4a65c_size_8abf5
set_option maxRecDepth 20000 in
theorem ggX4_howManyAre_Jx4a65c_get_915e3 : GoodIn wsX4_howManyAre wsJx4a65c_get_915e3 := goodIn_r _ [13, 9, 14, 15, 16, 17, 18, 19, 20, 21, 22, 23, 24, 7, 25, 26, 41, 42, 43] (by decide +kernel) (by decide +kernel)
set_option maxRecDepth 20000 in
theorem gX4_howManyAre_Jx4a65c_get_915e3 : GoodIn wsX4_howManyAre (wsV RX4 145 RJx4a65c yJx4a65c_get_915e3 wsJx4a65c_get_915e3) := goodIn_app (goodIn_of _ (by decide +kernel)) ggX4_howManyAre_Jx4a65c_get_915e3
set_option maxRecDepth 20000 in
theorem ggX4_allBills_Jx4a65c_size_8abf5 : GoodIn wsX4_allBills wsJx4a65c_size_8abf5 := goodIn_r _ [8, 9, 40, 41, 42] (by decide +kernel) (by decide +kernel)
set_option maxRecDepth 20000 in
theorem gX4_allBills_Jx4a65c_size_8abf5 : GoodIn wsX4_allBills (wsV RX4 43 RJx4a65c yJx4a65c_size_8abf5 wsJx4a65c_size_8abf5) := goodIn_app (goodIn_of _ (by decide +kernel)) ggX4_allBills_Jx4a65c_size_8abf5
set_option maxRecDepth 20000 in
theorem ggX4_allBills_Jx4a65c_get_915e3 : GoodIn wsX4_allBills wsJx4a65c_get_915e3 := goodIn_r _ [13, 9, 14, 15, 16, 17, 18, 19, 20, 21, 22, 23, 24, 7, 25, 26, 40, 41, 42] (by decide +kernel) (by decide +kernel)
set_option maxRecDepth 20000 in
theorem gX4_allBills_Jx4a65c_get_915e3 : GoodIn wsX4_allBills (wsV RX4 145 RJx4a65c yJx4a65c_get_915e3 wsJx4a65c_get_915e3) := goodIn_app (goodIn_of _ (by decide +kernel)) ggX4_allBills_Jx4a65c_get_915e3
set_option maxRecDepth 20000 in
theorem ggX5_isShip_X5_in : GoodIn wsX5_isShip wsX5_in := goodIn_r _ [5] (by decide +kernel) (by decide +kernel)
set_option maxRecDepth 20000 in
theorem gX5_isShip_X5_in : GoodIn wsX5_isShip (va_wsS RX5 65 yX5_in wsX5_in) := goodIn_app (goodIn_of _ (by decide +kernel)) ggX5_isShip_X5_in
set_option maxRecDepth 20000 in
theorem ggX5_isPilot_X5_in : GoodIn wsX5_isPilot wsX5_in := goodIn_r _ [5] (by decide +kernel) (by decide +kernel)
set_option maxRecDepth 20000 in
theorem gX5_isPilot_X5_in : GoodIn wsX5_isPilot (va_wsS RX5 65 yX5_in wsX5_in) := goodIn_app (goodIn_of _ (by decide +kernel)) ggX5_isPilot_X5_in
set_option maxRecDepth 20000 in
theorem ggX5_isConference_X5_in : GoodIn wsX5_isConference wsX5_in := goodIn_r _ [5] (by decide +kernel) (by decide +kernel)
set_option maxRecDepth 20000 in
theorem gX5_isConference_X5_in : GoodIn wsX5_isConference (va_wsS RX5 65 yX5_in wsX5_in) := goodIn_app (goodIn_of _ (by decide +kernel)) ggX5_isConference_X5_in
set_option maxRecDepth 20000 in
theorem ggX5_tide_X5_in : GoodIn wsX5_tide wsX5_in := goodIn_r _ [7] (by decide +kernel) (by decide +kernel)
set_option maxRecDepth 20000 in
theorem gX5_tide_X5_in : GoodIn wsX5_tide (va_wsS RX5 65 yX5_in wsX5_in) := goodIn_app (goodIn_of _ (by decide +kernel)) ggX5_tide_X5_in
set_option maxRecDepth 20000 in
theorem ggX5_tugs_X5_in : GoodIn wsX5_tugs wsX5_in := goodIn_r _ [6] (by decide +kernel) (by decide +kernel)
set_option maxRecDepth 20000 in
theorem gX5_tugs_X5_in : GoodIn wsX5_tugs (va_wsS RX5 65 yX5_in wsX5_in) := goodIn_app (goodIn_of _ (by decide +kernel)) ggX5_tugs_X5_in
set_option maxRecDepth 20000 in
theorem ggX5_ship_X5_in : GoodIn wsX5_ship wsX5_in := goodIn_r _ [10] (by decide +kernel) (by decide +kernel)
set_option maxRecDepth 20000 in
theorem gX5_ship_X5_in : GoodIn wsX5_ship (va_wsS RX5 65 yX5_in wsX5_in) := goodIn_app (goodIn_of _ (by decide +kernel)) ggX5_ship_X5_in
set_option maxRecDepth 20000 in
theorem ggX5_pilot_X5_in : GoodIn wsX5_pilot wsX5_in := goodIn_r _ [8] (by decide +kernel) (by decide +kernel)
set_option maxRecDepth 20000 in
theorem gX5_pilot_X5_in : GoodIn wsX5_pilot (va_wsS RX5 65 yX5_in wsX5_in) := goodIn_app (goodIn_of _ (by decide +kernel)) ggX5_pilot_X5_in
set_option maxRecDepth 20000 in
theorem ggX5_tideDoes_X5_levelAt : GoodIn wsX5_tideDoes wsX5_levelAt := goodIn_r _ [8, 9, 10, 11, 12, 13, 14, 15, 16, 17, 18, 19, 20, 21, 22, 23, 24, 25, 26, 27, 28, 29, 30, 31] (by decide +kernel) (by decide +kernel)
set_option maxRecDepth 20000 in
theorem gX5_tideDoes_X5_levelAt : GoodIn wsX5_tideDoes (wsV RX5 74 RX5 yX5_levelAt wsX5_levelAt) := goodIn_app (goodIn_of _ (by decide +kernel)) ggX5_tideDoes_X5_levelAt
set_option maxRecDepth 20000 in
theorem ggX5_pilotDoes_X5_hasSlot : GoodIn wsX5_pilotDoes wsX5_hasSlot := goodIn_r _ [10, 11, 19, 20, 21, 22, 23, 24, 25, 26, 27, 28, 29, 30, 31, 32, 33, 34, 35, 36, 37, 38, 39, 40] (by decide +kernel) (by decide +kernel)
set_option maxRecDepth 20000 in
theorem gX5_pilotDoes_X5_hasSlot : GoodIn wsX5_pilotDoes (wsV RX5 78 RX5 yX5_hasSlot wsX5_hasSlot) := goodIn_app (goodIn_of _ (by decide +kernel)) ggX5_pilotDoes_X5_hasSlot
set_option maxRecDepth 20000 in
theorem ggX5_pilotDoes_X5_over : GoodIn wsX5_pilotDoes wsX5_over := goodIn_r _ [15, 5, 1, 2, 19, 20, 21, 22, 23, 24, 25, 26, 27, 28, 29, 30, 31, 32, 33, 34, 35, 36, 37, 38, 39, 40] (by decide +kernel) (by decide +kernel)
set_option maxRecDepth 20000 in
theorem gX5_pilotDoes_X5_over : GoodIn wsX5_pilotDoes (wsV RX5 82 RX5 yX5_over wsX5_over) := goodIn_app (goodIn_of _ (by decide +kernel)) ggX5_pilotDoes_X5_over
set_option maxRecDepth 20000 in
theorem ggX5_pilotDoes_X5_rest : GoodIn wsX5_pilotDoes wsX5_rest := goodIn_r _ [18] (by decide +kernel) (by decide +kernel)
set_option maxRecDepth 20000 in
theorem gX5_pilotDoes_X5_rest : GoodIn wsX5_pilotDoes (va_wsS RX5 85 yX5_rest wsX5_rest) := goodIn_app (goodIn_of _ (by decide +kernel)) ggX5_pilotDoes_X5_rest
set_option maxRecDepth 20000 in
theorem ggX5_tugsIn_X5_hasSlot : GoodIn wsX5_tugsIn wsX5_hasSlot := goodIn_r _ [9, 10, 19, 20, 21, 22, 23, 24, 25, 26, 27, 28, 29, 30, 31, 32, 33, 34, 35, 36, 37, 38, 39, 40] (by decide +kernel) (by decide +kernel)
set_option maxRecDepth 20000 in
theorem gX5_tugsIn_X5_hasSlot : GoodIn wsX5_tugsIn (wsV RX5 78 RX5 yX5_hasSlot wsX5_hasSlot) := goodIn_app (goodIn_of _ (by decide +kernel)) ggX5_tugsIn_X5_hasSlot
set_option maxRecDepth 20000 in
theorem ggX5_tugsIn_X5_over : GoodIn wsX5_tugsIn wsX5_over := goodIn_r _ [14, 2, 15, 4, 19, 20, 21, 22, 23, 24, 25, 26, 27, 28, 29, 30, 31, 32, 33, 34, 35, 36, 37, 38, 39, 40] (by decide +kernel) (by decide +kernel)
set_option maxRecDepth 20000 in
theorem gX5_tugsIn_X5_over : GoodIn wsX5_tugsIn (wsV RX5 82 RX5 yX5_over wsX5_over) := goodIn_app (goodIn_of _ (by decide +kernel)) ggX5_tugsIn_X5_over
set_option maxRecDepth 20000 in
theorem ggX5_tugsIn_X5_in : GoodIn wsX5_tugsIn wsX5_in := goodIn_r _ [18] (by decide +kernel) (by decide +kernel)
set_option maxRecDepth 20000 in
theorem gX5_tugsIn_X5_in : GoodIn wsX5_tugsIn (va_wsS RX5 65 yX5_in wsX5_in) := goodIn_app (goodIn_of _ (by decide +kernel)) ggX5_tugsIn_X5_in
set_option maxRecDepth 20000 in
theorem ggX5_tugsDo_X5_tugsIn : GoodIn wsX5_tugsDo wsX5_tugsIn := goodIn_r _ [9, 10, 11, 3, 2, 12, 13, 14, 8, 15, 16, 17, 18, 19, 20, 1, 21, 22, 23, 24, 25, 26, 27, 28, 29, 30, 31, 32, 33, 34, 35, 36, 37, 38, 39, 40, 41, 42, 43, 44, 45] (by decide +kernel) (by decide +kernel)
set_option maxRecDepth 20000 in
theorem gX5_tugsDo_X5_tugsIn : GoodIn wsX5_tugsDo (wsV RX5 88 RX5 yX5_tugsIn wsX5_tugsIn) := goodIn_app (goodIn_of _ (by decide +kernel)) ggX5_tugsDo_X5_tugsIn
set_option maxRecDepth 20000 in
theorem ggX5_channelDoes_X5_hasSlot : GoodIn wsX5_channelDoes wsX5_hasSlot := goodIn_r _ [7, 8, 9, 10, 11, 12, 13, 14, 15, 16, 17, 18, 19, 20, 21, 22, 23, 24, 25, 26, 27, 28, 29, 30] (by decide +kernel) (by decide +kernel)
set_option maxRecDepth 20000 in
theorem gX5_channelDoes_X5_hasSlot : GoodIn wsX5_channelDoes (wsV RX5 78 RX5 yX5_hasSlot wsX5_hasSlot) := goodIn_app (goodIn_of _ (by decide +kernel)) ggX5_channelDoes_X5_hasSlot
set_option maxRecDepth 20000 in
theorem ggX5_looks_X5_tideDoes : GoodIn wsX5_looks wsX5_tideDoes := goodIn_r _ [10, 11, 12, 13, 14, 15, 16, 9, 17, 18, 53, 54, 55, 56, 57, 58, 59, 60, 61, 62, 63, 64, 65, 66, 67, 68, 69, 70, 71, 72, 73, 74] (by decide +kernel) (by decide +kernel)
set_option maxRecDepth 20000 in
theorem gX5_looks_X5_tideDoes : GoodIn wsX5_looks (wsV RX5 95 RX5 yX5_tideDoes wsX5_tideDoes) := goodIn_app (goodIn_of _ (by decide +kernel)) ggX5_looks_X5_tideDoes
set_option maxRecDepth 20000 in
theorem ggX5_looks_X5_channelDoes : GoodIn wsX5_looks wsX5_channelDoes := goodIn_r _ [22, 23, 4, 24, 25, 26, 9, 27, 5, 53, 54, 55, 56, 57, 58, 59, 60, 61, 62, 63, 64, 65, 66, 67, 68, 69, 70, 71, 72, 73, 74] (by decide +kernel) (by decide +kernel)
set_option maxRecDepth 20000 in
theorem gX5_looks_X5_channelDoes : GoodIn wsX5_looks (wsV RX5 99 RX5 yX5_channelDoes wsX5_channelDoes) := goodIn_app (goodIn_of _ (by decide +kernel)) ggX5_looks_X5_channelDoes
set_option maxRecDepth 20000 in
theorem ggX5_looks_X5_pilotDoes : GoodIn wsX5_looks wsX5_pilotDoes := goodIn_r _ [31, 11, 3, 23, 32, 4, 24, 25, 26, 9, 27, 5, 33, 34, 35, 36, 37, 38, 39, 53, 54, 55, 56, 57, 58, 59, 60, 61, 62, 63, 64, 65, 66, 67, 68, 69, 70, 71, 72, 73, 74] (by decide +kernel) (by decide +kernel)
set_option maxRecDepth 20000 in
theorem gX5_looks_X5_pilotDoes : GoodIn wsX5_looks (wsV RX5 102 RX5 yX5_pilotDoes wsX5_pilotDoes) := goodIn_app (goodIn_of _ (by decide +kernel)) ggX5_looks_X5_pilotDoes
set_option maxRecDepth 20000 in
theorem ggX5_looks_X5_tugsDo : GoodIn wsX5_looks wsX5_tugsDo := goodIn_r _ [43, 11, 3, 44, 45, 46, 47, 48, 9, 49, 23, 4, 24, 25, 26, 27, 5, 33, 34, 35, 36, 50, 51, 52, 53, 54, 55, 56, 57, 58, 59, 60, 61, 62, 63, 64, 65, 66, 67, 68, 69, 70, 71, 72, 73, 74] (by decide +kernel) (by decide +kernel)
set_option maxRecDepth 20000 in
theorem gX5_looks_X5_tugsDo : GoodIn wsX5_looks (wsV RX5 105 RX5 yX5_tugsDo wsX5_tugsDo) := goodIn_app (goodIn_of _ (by decide +kernel)) ggX5_looks_X5_tugsDo
set_option maxRecDepth 20000 in
theorem ggX5_call_X5_isShip : GoodIn wsX5_call wsX5_isShip := goodIn_r _ [13, 14, 15, 16, 12, 17, 18, 19, 20, 21, 22, 23, 24, 25, 26, 27, 28, 29, 30, 31, 32, 33, 34, 35, 36, 37, 38, 39] (by decide +kernel) (by decide +kernel)
set_option maxRecDepth 20000 in
theorem gX5_call_X5_isShip : GoodIn wsX5_call (wsV RX5 108 RX5 yX5_isShip wsX5_isShip) := goodIn_app (goodIn_of _ (by decide +kernel)) ggX5_call_X5_isShip
set_option maxRecDepth 20000 in
theorem ggX5_call_X5_in : GoodIn wsX5_call wsX5_in := goodIn_r _ [17] (by decide +kernel) (by decide +kernel)
set_option maxRecDepth 20000 in
theorem gX5_call_X5_in : GoodIn wsX5_call (va_wsS RX5 65 yX5_in wsX5_in) := goodIn_app (goodIn_of _ (by decide +kernel)) ggX5_call_X5_in
set_option maxRecDepth 20000 in
theorem ggX5_join_X5_isConference : GoodIn wsX5_join wsX5_isConference := goodIn_r _ [12, 13, 14, 15, 11, 16, 74, 75, 76, 77, 78, 79, 80, 81, 82, 83, 84, 85, 86, 87, 88, 89, 90, 91, 92, 93, 94, 95] (by decide +kernel) (by decide +kernel)
set_option maxRecDepth 20000 in
theorem gX5_join_X5_isConference : GoodIn wsX5_join (wsV RX5 111 RX5 yX5_isConference wsX5_isConference) := goodIn_app (goodIn_of _ (by decide +kernel)) ggX5_join_X5_isConference
set_option maxRecDepth 20000 in
theorem ggX5_join_X5_in : GoodIn wsX5_join wsX5_in := goodIn_r _ [16] (by decide +kernel) (by decide +kernel)
set_option maxRecDepth 20000 in
theorem gX5_join_X5_in : GoodIn wsX5_join (va_wsS RX5 65 yX5_in wsX5_in) := goodIn_app (goodIn_of _ (by decide +kernel)) ggX5_join_X5_in
set_option maxRecDepth 20000 in
theorem ggX5_join_X5_isPilot : GoodIn wsX5_join wsX5_isPilot := goodIn_r _ [20, 21, 14, 15, 11, 16, 74, 75, 76, 77, 78, 79, 80, 81, 82, 83, 84, 85, 86, 87, 88, 89, 90, 91, 92, 93, 94, 95] (by decide +kernel) (by decide +kernel)
set_option maxRecDepth 20000 in
theorem gX5_join_X5_isPilot : GoodIn wsX5_join (wsV RX5 114 RX5 yX5_isPilot wsX5_isPilot) := goodIn_app (goodIn_of _ (by decide +kernel)) ggX5_join_X5_isPilot
set_option maxRecDepth 20000 in
theorem ggX5_join_X5_isIn : GoodIn wsX5_join wsX5_isIn := goodIn_r _ [25, 5, 74, 75, 76, 77, 78, 79, 80, 81, 82, 83, 84, 85, 86, 87, 88, 89, 90, 91, 92, 93, 94, 95] (by decide +kernel) (by decide +kernel)
set_option maxRecDepth 20000 in
theorem gX5_join_X5_isIn : GoodIn wsX5_join (wsV RX5 117 RX5 yX5_isIn wsX5_isIn) := goodIn_app (goodIn_of _ (by decide +kernel)) ggX5_join_X5_isIn
set_option maxRecDepth 20000 in
theorem ggX5_join_X5_looks : GoodIn wsX5_join wsX5_looks := goodIn_r _ [29, 30, 31, 4, 7, 32, 33, 34, 35, 11, 36, 37, 38, 39, 40, 41, 42, 43, 44, 45, 46, 47, 48, 13, 49, 50, 51, 52, 53, 54, 55, 56, 6, 57, 58, 59, 60, 61, 62, 63, 64, 65, 66, 67, 68, 69, 70, 71, 72, 73, 14, 15, 16, 74, 75, 76, 77, 78, 79, 80, 81, 82, 83, 84, 85, 86, 87, 88, 89, 90, 91, 92, 93, 94, 95] (by decide +kernel) (by decide +kernel)
set_option maxRecDepth 20000 in
theorem gX5_join_X5_looks : GoodIn wsX5_join (wsV RX5 120 RX5 yX5_looks wsX5_looks) := goodIn_app (goodIn_of _ (by decide +kernel)) ggX5_join_X5_looks
set_option maxRecDepth 20000 in
theorem ggX5_again_X5_isConference : GoodIn wsX5_again wsX5_isConference := goodIn_r _ [8, 9, 10, 11, 7, 12, 62, 63, 64, 65, 66, 67, 68, 69, 70, 71, 72, 73, 74, 75, 76, 77, 78, 79, 80, 81, 82, 83] (by decide +kernel) (by decide +kernel)
set_option maxRecDepth 20000 in
theorem gX5_again_X5_isConference : GoodIn wsX5_again (wsV RX5 111 RX5 yX5_isConference wsX5_isConference) := goodIn_app (goodIn_of _ (by decide +kernel)) ggX5_again_X5_isConference
set_option maxRecDepth 20000 in
theorem ggX5_again_X5_looks : GoodIn wsX5_again wsX5_looks := goodIn_r _ [16, 17, 18, 19, 3, 1, 20, 21, 22, 7, 23, 24, 25, 26, 27, 28, 29, 30, 31, 32, 33, 34, 35, 9, 36, 37, 38, 39, 40, 41, 42, 43, 44, 45, 46, 47, 48, 49, 50, 51, 52, 53, 54, 55, 56, 57, 58, 59, 60, 61, 10, 11, 12, 62, 63, 64, 65, 66, 67, 68, 69, 70, 71, 72, 73, 74, 75, 76, 77, 78, 79, 80, 81, 82, 83] (by decide +kernel) (by decide +kernel)
set_option maxRecDepth 20000 in
theorem gX5_again_X5_looks : GoodIn wsX5_again (wsV RX5 120 RX5 yX5_looks wsX5_looks) := goodIn_app (goodIn_of _ (by decide +kernel)) ggX5_again_X5_looks
set_option maxRecDepth 20000 in
theorem ggX5_looksAnew_X5_looks : GoodIn wsX5_looksAnew wsX5_looks := goodIn_r _ [7, 8, 9, 10, 1, 2, 11, 12, 13, 6, 14, 15, 16, 17, 18, 19, 20, 21, 22, 23, 24, 25, 26, 27, 28, 29, 30, 31, 32, 33, 34, 35, 36, 37, 38, 39, 40, 41, 42, 43, 44, 45, 46, 47, 48, 49, 50, 51, 52, 53, 54, 55, 56, 57, 58, 59, 60, 61, 62, 63, 64, 65, 66, 67, 68, 69, 70, 71, 72, 73, 74, 75, 76, 77, 78] (by decide +kernel) (by decide +kernel)
set_option maxRecDepth 20000 in
theorem gX5_looksAnew_X5_looks : GoodIn wsX5_looksAnew (wsV RX5 120 RX5 yX5_looks wsX5_looks) := goodIn_app (goodIn_of _ (by decide +kernel)) ggX5_looksAnew_X5_looks
set_option maxRecDepth 20000 in
theorem ggX5_drop_X5_isConference : GoodIn wsX5_drop wsX5_isConference := goodIn_r _ [12, 6, 13, 14, 11, 15, 72, 73, 74, 75, 76, 77, 78, 79, 80, 81, 82, 83, 84, 85, 86, 87, 88, 89, 90, 91, 92, 93] (by decide +kernel) (by decide +kernel)
set_option maxRecDepth 20000 in
theorem gX5_drop_X5_isConference : GoodIn wsX5_drop (wsV RX5 111 RX5 yX5_isConference wsX5_isConference) := goodIn_app (goodIn_of _ (by decide +kernel)) ggX5_drop_X5_isConference
set_option maxRecDepth 20000 in
theorem ggX5_drop_X5_in : GoodIn wsX5_drop wsX5_in := goodIn_r _ [15] (by decide +kernel) (by decide +kernel)
set_option maxRecDepth 20000 in
theorem gX5_drop_X5_in : GoodIn wsX5_drop (va_wsS RX5 65 yX5_in wsX5_in) := goodIn_app (goodIn_of _ (by decide +kernel)) ggX5_drop_X5_in
set_option maxRecDepth 20000 in
theorem ggX5_drop_X5_isIn : GoodIn wsX5_drop wsX5_isIn := goodIn_r _ [19, 3, 72, 73, 74, 75, 76, 77, 78, 79, 80, 81, 82, 83, 84, 85, 86, 87, 88, 89, 90, 91, 92, 93] (by decide +kernel) (by decide +kernel)
set_option maxRecDepth 20000 in
theorem gX5_drop_X5_isIn : GoodIn wsX5_drop (wsV RX5 117 RX5 yX5_isIn wsX5_isIn) := goodIn_app (goodIn_of _ (by decide +kernel)) ggX5_drop_X5_isIn
set_option maxRecDepth 20000 in
theorem ggX5_drop_X5_looksAnew : GoodIn wsX5_drop wsX5_looksAnew := goodIn_r _ [23, 5, 2, 24, 25, 26, 11, 27, 28, 29, 30, 31, 32, 33, 34, 35, 36, 37, 38, 39, 40, 41, 42, 43, 44, 45, 46, 6, 47, 48, 49, 50, 51, 52, 53, 54, 4, 55, 56, 57, 58, 59, 60, 61, 62, 63, 64, 65, 66, 67, 68, 69, 70, 71, 13, 14, 15, 72, 73, 74, 75, 76, 77, 78, 79, 80, 81, 82, 83, 84, 85, 86, 87, 88, 89, 90, 91, 92, 93] (by decide +kernel) (by decide +kernel)
set_option maxRecDepth 20000 in
theorem gX5_drop_X5_looksAnew : GoodIn wsX5_drop (wsV RX5 124 RX5 yX5_looksAnew wsX5_looksAnew) := goodIn_app (goodIn_of _ (by decide +kernel)) ggX5_drop_X5_looksAnew
set_option maxRecDepth 20000 in
theorem ggX5_passesOne_X5_over : GoodIn wsX5_passesOne wsX5_over := goodIn_r _ [11, 4, 12, 6, 20, 21, 22, 23, 24, 25, 26, 27, 28, 29, 30, 31, 32, 33, 34, 35, 36, 37, 38, 39, 40, 41] (by decide +kernel) (by decide +kernel)
set_option maxRecDepth 20000 in
theorem gX5_passesOne_X5_over : GoodIn wsX5_passesOne (wsV RX5 82 RX5 yX5_over wsX5_over) := goodIn_app (goodIn_of _ (by decide +kernel)) ggX5_passesOne_X5_over
set_option maxRecDepth 20000 in
theorem ggX5_passesOne_X5_billOf : GoodIn wsX5_passesOne wsX5_billOf := goodIn_r _ [16, 12, 6, 17, 18, 19, 20, 21, 22, 23, 24, 25, 26, 27, 28, 29, 30, 31, 32, 33, 34, 35, 36, 37, 38, 39, 40, 41] (by decide +kernel) (by decide +kernel)
set_option maxRecDepth 20000 in
theorem gX5_passesOne_X5_billOf : GoodIn wsX5_passesOne (wsV RX5 130 RX5 yX5_billOf wsX5_billOf) := goodIn_app (goodIn_of _ (by decide +kernel)) ggX5_passesOne_X5_billOf
set_option maxRecDepth 20000 in
theorem ggX5_pass_X5_in : GoodIn wsX5_pass wsX5_in := goodIn_r _ [6] (by decide +kernel) (by decide +kernel)
set_option maxRecDepth 20000 in
theorem gX5_pass_X5_in : GoodIn wsX5_pass (va_wsS RX5 65 yX5_in wsX5_in) := goodIn_app (goodIn_of _ (by decide +kernel)) ggX5_pass_X5_in
set_option maxRecDepth 20000 in
theorem ggX5_pass_X5_passesOne : GoodIn wsX5_pass wsX5_passesOne := goodIn_r _ [10, 1, 11, 12, 13, 14, 15, 16, 17, 18, 5, 19, 20, 21, 22, 23, 24, 25, 26, 27, 28, 29, 30, 31, 32, 33, 34, 35, 36, 37, 38, 39, 40, 41, 42, 43, 44, 45, 46, 47, 48, 49] (by decide +kernel) (by decide +kernel)
set_option maxRecDepth 20000 in
theorem gX5_pass_X5_passesOne : GoodIn wsX5_pass (wsV RX5 133 RX5 yX5_passesOne wsX5_passesOne) := goodIn_app (goodIn_of _ (by decide +kernel)) ggX5_pass_X5_passesOne
set_option maxRecDepth 20000 in
theorem ggX5_level_X5_in : GoodIn wsX5_level wsX5_in := goodIn_r _ [5] (by decide +kernel) (by decide +kernel)
set_option maxRecDepth 20000 in
theorem gX5_level_X5_in : GoodIn wsX5_level (va_wsS RX5 65 yX5_in wsX5_in) := goodIn_app (goodIn_of _ (by decide +kernel)) ggX5_level_X5_in
set_option maxRecDepth 20000 in
theorem ggX5_level_X5_levelAt : GoodIn wsX5_level wsX5_levelAt := goodIn_r _ [9, 10, 11, 12, 13, 14, 15, 16, 17, 18, 19, 20, 21, 22, 23, 24, 25, 26, 27, 28, 29, 30, 31, 32] (by decide +kernel) (by decide +kernel)
set_option maxRecDepth 20000 in
theorem gX5_level_X5_levelAt : GoodIn wsX5_level (wsV RX5 74 RX5 yX5_levelAt wsX5_levelAt) := goodIn_app (goodIn_of _ (by decide +kernel)) ggX5_level_X5_levelAt
set_option maxRecDepth 20000 in
theorem ggX5_window_X5_isShip : GoodIn wsX5_window wsX5_isShip := goodIn_r _ [6, 7, 8, 9, 5, 10, 23, 24, 25, 26, 27, 28, 29, 30, 31, 32, 33, 34, 35, 36, 37, 38, 39, 40, 41, 42, 43, 44] (by decide +kernel) (by decide +kernel)
set_option maxRecDepth 20000 in
theorem gX5_window_X5_isShip : GoodIn wsX5_window (wsV RX5 108 RX5 yX5_isShip wsX5_isShip) := goodIn_app (goodIn_of _ (by decide +kernel)) ggX5_window_X5_isShip
set_option maxRecDepth 20000 in
theorem ggX5_window_X5_in : GoodIn wsX5_window wsX5_in := goodIn_r _ [10] (by decide +kernel) (by decide +kernel)
set_option maxRecDepth 20000 in
theorem gX5_window_X5_in : GoodIn wsX5_window (va_wsS RX5 65 yX5_in wsX5_in) := goodIn_app (goodIn_of _ (by decide +kernel)) ggX5_window_X5_in
set_option maxRecDepth 20000 in
theorem ggX5_window_X5_tideDoes : GoodIn wsX5_window wsX5_tideDoes := goodIn_r _ [14, 15, 16, 17, 18, 19, 20, 5, 21, 22, 23, 24, 25, 26, 27, 28, 29, 30, 31, 32, 33, 34, 35, 36, 37, 38, 39, 40, 41, 42, 43, 44] (by decide +kernel) (by decide +kernel)
set_option maxRecDepth 20000 in
theorem gX5_window_X5_tideDoes : GoodIn wsX5_window (wsV RX5 95 RX5 yX5_tideDoes wsX5_tideDoes) := goodIn_app (goodIn_of _ (by decide +kernel)) ggX5_window_X5_tideDoes
set_option maxRecDepth 20000 in
theorem ggX5_ofConference_X5_isConference : GoodIn wsX5_ofConference wsX5_isConference := goodIn_r _ [11, 12, 13, 14, 10, 15, 19, 20, 21, 22, 23, 24, 25, 26, 27, 28, 29, 30, 31, 32, 33, 34, 35, 36, 37, 38, 39, 40] (by decide +kernel) (by decide +kernel)
set_option maxRecDepth 20000 in
theorem gX5_ofConference_X5_isConference : GoodIn wsX5_ofConference (wsV RX5 111 RX5 yX5_isConference wsX5_isConference) := goodIn_app (goodIn_of _ (by decide +kernel)) ggX5_ofConference_X5_isConference
set_option maxRecDepth 20000 in
theorem ggX5_ofConference_X5_in : GoodIn wsX5_ofConference wsX5_in := goodIn_r _ [15] (by decide +kernel) (by decide +kernel)
set_option maxRecDepth 20000 in
theorem gX5_ofConference_X5_in : GoodIn wsX5_ofConference (va_wsS RX5 65 yX5_in wsX5_in) := goodIn_app (goodIn_of _ (by decide +kernel)) ggX5_ofConference_X5_in
set_option maxRecDepth 20000 in
theorem ggX5_ofConference_X5_many : GoodIn wsX5_ofConference wsX5_many := goodIn_r _ [18] (by decide +kernel) (by decide +kernel)
set_option maxRecDepth 20000 in
theorem gX5_ofConference_X5_many : GoodIn wsX5_ofConference (va_wsS RX5 137 yX5_many wsX5_many) := goodIn_app (goodIn_of _ (by decide +kernel)) ggX5_ofConference_X5_many
set_option maxRecDepth 20000 in
theorem ggX5_why_X5_isConference : GoodIn wsX5_why wsX5_isConference := goodIn_r _ [9, 10, 11, 12, 8, 13, 57, 58, 59, 60, 61, 62, 63, 64, 65, 66, 67, 68, 69, 70, 71, 72, 73, 74, 75, 76, 77, 78] (by decide +kernel) (by decide +kernel)
set_option maxRecDepth 20000 in
theorem gX5_why_X5_isConference : GoodIn wsX5_why (wsV RX5 111 RX5 yX5_isConference wsX5_isConference) := goodIn_app (goodIn_of _ (by decide +kernel)) ggX5_why_X5_isConference
set_option maxRecDepth 20000 in
theorem ggX5_why_X5_in : GoodIn wsX5_why wsX5_in := goodIn_r _ [13] (by decide +kernel) (by decide +kernel)
set_option maxRecDepth 20000 in
theorem gX5_why_X5_in : GoodIn wsX5_why (va_wsS RX5 65 yX5_in wsX5_in) := goodIn_app (goodIn_of _ (by decide +kernel)) ggX5_why_X5_in
set_option maxRecDepth 20000 in
theorem ggX5_why_X5_tideDoes : GoodIn wsX5_why wsX5_tideDoes := goodIn_r _ [17, 18, 19, 20, 21, 22, 23, 8, 24, 25, 57, 58, 59, 60, 61, 62, 63, 64, 65, 66, 67, 68, 69, 70, 71, 72, 73, 74, 75, 76, 77, 78] (by decide +kernel) (by decide +kernel)
set_option maxRecDepth 20000 in
theorem gX5_why_X5_tideDoes : GoodIn wsX5_why (wsV RX5 95 RX5 yX5_tideDoes wsX5_tideDoes) := goodIn_app (goodIn_of _ (by decide +kernel)) ggX5_why_X5_tideDoes
set_option maxRecDepth 20000 in
theorem ggX5_why_X5_pilotDoes : GoodIn wsX5_why wsX5_pilotDoes := goodIn_r _ [29, 18, 4, 10, 2, 30, 31, 32, 33, 8, 34, 35, 36, 37, 38, 39, 40, 41, 42, 57, 58, 59, 60, 61, 62, 63, 64, 65, 66, 67, 68, 69, 70, 71, 72, 73, 74, 75, 76, 77, 78] (by decide +kernel) (by decide +kernel)
set_option maxRecDepth 20000 in
theorem gX5_why_X5_pilotDoes : GoodIn wsX5_why (wsV RX5 102 RX5 yX5_pilotDoes wsX5_pilotDoes) := goodIn_app (goodIn_of _ (by decide +kernel)) ggX5_why_X5_pilotDoes
set_option maxRecDepth 20000 in
theorem ggX5_why_X5_tugsDo : GoodIn wsX5_why wsX5_tugsDo := goodIn_r _ [46, 18, 4, 47, 48, 49, 50, 51, 8, 52, 10, 30, 31, 32, 33, 34, 35, 36, 37, 38, 39, 11, 12, 13, 57, 58, 59, 60, 61, 62, 63, 64, 65, 66, 67, 68, 69, 70, 71, 72, 73, 74, 75, 76, 77, 78] (by decide +kernel) (by decide +kernel)
set_option maxRecDepth 20000 in
theorem gX5_why_X5_tugsDo : GoodIn wsX5_why (wsV RX5 105 RX5 yX5_tugsDo wsX5_tugsDo) := goodIn_app (goodIn_of _ (by decide +kernel)) ggX5_why_X5_tugsDo
set_option maxRecDepth 20000 in
theorem ggX5_why_X5_channelDoes : GoodIn wsX5_why wsX5_channelDoes := goodIn_r _ [56, 10, 30, 31, 32, 33, 8, 34, 35, 57, 58, 59, 60, 61, 62, 63, 64, 65, 66, 67, 68, 69, 70, 71, 72, 73, 74, 75, 76, 77, 78] (by decide +kernel) (by decide +kernel)
set_option maxRecDepth 20000 in
theorem gX5_why_X5_channelDoes : GoodIn wsX5_why (wsV RX5 99 RX5 yX5_channelDoes wsX5_channelDoes) := goodIn_app (goodIn_of _ (by decide +kernel)) ggX5_why_X5_channelDoes
set_option maxRecDepth 20000 in
theorem ggX5_rested_X5_isPilot : GoodIn wsX5_rested wsX5_isPilot := goodIn_r _ [11, 12, 13, 14, 10, 15, 29, 30, 31, 32, 33, 34, 35, 36, 37, 38, 39, 40, 41, 42, 43, 44, 45, 46, 47, 48, 49, 50] (by decide +kernel) (by decide +kernel)
set_option maxRecDepth 20000 in
theorem gX5_rested_X5_isPilot : GoodIn wsX5_rested (wsV RX5 114 RX5 yX5_isPilot wsX5_isPilot) := goodIn_app (goodIn_of _ (by decide +kernel)) ggX5_rested_X5_isPilot
set_option maxRecDepth 20000 in
theorem ggX5_rested_X5_hasSlot : GoodIn wsX5_rested wsX5_hasSlot := goodIn_r _ [19, 20, 29, 30, 31, 32, 33, 34, 35, 36, 37, 38, 39, 40, 41, 42, 43, 44, 45, 46, 47, 48, 49, 50] (by decide +kernel) (by decide +kernel)
set_option maxRecDepth 20000 in
theorem gX5_rested_X5_hasSlot : GoodIn wsX5_rested (wsV RX5 78 RX5 yX5_hasSlot wsX5_hasSlot) := goodIn_app (goodIn_of _ (by decide +kernel)) ggX5_rested_X5_hasSlot
set_option maxRecDepth 20000 in
theorem ggX5_rested_X5_over : GoodIn wsX5_rested wsX5_over := goodIn_r _ [24, 25, 5, 6, 29, 30, 31, 32, 33, 34, 35, 36, 37, 38, 39, 40, 41, 42, 43, 44, 45, 46, 47, 48, 49, 50] (by decide +kernel) (by decide +kernel)
set_option maxRecDepth 20000 in
theorem gX5_rested_X5_over : GoodIn wsX5_rested (wsV RX5 82 RX5 yX5_over wsX5_over) := goodIn_app (goodIn_of _ (by decide +kernel)) ggX5_rested_X5_over
set_option maxRecDepth 20000 in
theorem ggX5_rested_X5_rest : GoodIn wsX5_rested wsX5_rest := goodIn_r _ [28] (by decide +kernel) (by decide +kernel)
set_option maxRecDepth 20000 in
theorem gX5_rested_X5_rest : GoodIn wsX5_rested (va_wsS RX5 85 yX5_rest wsX5_rest) := goodIn_app (goodIn_of _ (by decide +kernel)) ggX5_rested_X5_rest
set_option maxRecDepth 20000 in
theorem ggX5_restedAnew_X5_rested : GoodIn wsX5_restedAnew wsX5_rested := goodIn_r _ [5, 6, 7, 8, 9, 10, 11, 12, 13, 14, 4, 15, 16, 17, 18, 19, 20, 21, 22, 23, 24, 25, 26, 27, 28, 29, 30, 31, 32, 33, 34, 35, 36, 37, 38, 39, 40, 41, 42, 43, 44, 45, 46, 47, 48, 49, 50, 51, 52, 53, 54] (by decide +kernel) (by decide +kernel)
set_option maxRecDepth 20000 in
theorem gX5_restedAnew_X5_rested : GoodIn wsX5_restedAnew (wsV RX5 140 RX5 yX5_rested wsX5_rested) := goodIn_app (goodIn_of _ (by decide +kernel)) ggX5_restedAnew_X5_rested
set_option maxRecDepth 20000 in
theorem ggX5_bill_X5_isShip : GoodIn wsX5_bill wsX5_isShip := goodIn_r _ [7, 8, 9, 10, 6, 11, 12, 13, 14, 15, 16, 17, 18, 19, 20, 21, 22, 23, 24, 25, 26, 27, 28, 29, 30, 31, 32, 33] (by decide +kernel) (by decide +kernel)
set_option maxRecDepth 20000 in
theorem gX5_bill_X5_isShip : GoodIn wsX5_bill (wsV RX5 108 RX5 yX5_isShip wsX5_isShip) := goodIn_app (goodIn_of _ (by decide +kernel)) ggX5_bill_X5_isShip
set_option maxRecDepth 20000 in
theorem ggX5_ofPilot_X5_isPilot : GoodIn wsX5_ofPilot wsX5_isPilot := goodIn_r _ [12, 13, 14, 15, 11, 16, 17, 18, 19, 20, 21, 22, 23, 24, 25, 26, 27, 28, 29, 30, 31, 32, 33, 34, 35, 36, 37, 38] (by decide +kernel) (by decide +kernel)
set_option maxRecDepth 20000 in
theorem gX5_ofPilot_X5_isPilot : GoodIn wsX5_ofPilot (wsV RX5 114 RX5 yX5_isPilot wsX5_isPilot) := goodIn_app (goodIn_of _ (by decide +kernel)) ggX5_ofPilot_X5_isPilot
set_option maxRecDepth 20000 in
theorem ggX5_ofPilot_X5_in : GoodIn wsX5_ofPilot wsX5_in := goodIn_r _ [16] (by decide +kernel) (by decide +kernel)
set_option maxRecDepth 20000 in
theorem gX5_ofPilot_X5_in : GoodIn wsX5_ofPilot (va_wsS RX5 65 yX5_in wsX5_in) := goodIn_app (goodIn_of _ (by decide +kernel)) ggX5_ofPilot_X5_in
set_option maxRecDepth 20000 in
theorem ggX5_count_X5_in : GoodIn wsX5_count wsX5_in := goodIn_r _ [10] (by decide +kernel) (by decide +kernel)
set_option maxRecDepth 20000 in
theorem gX5_count_X5_in : GoodIn wsX5_count (va_wsS RX5 65 yX5_in wsX5_in) := goodIn_app (goodIn_of _ (by decide +kernel)) ggX5_count_X5_in
set_option maxRecDepth 20000 in
theorem ggX5_count_X5_bills : GoodIn wsX5_count wsX5_bills := goodIn_r _ [14, 15, 16, 17, 18, 19, 20, 21, 22, 23, 24, 25, 26, 27, 28, 29, 30, 31, 32, 33, 34, 35, 36, 37, 38] (by decide +kernel) (by decide +kernel)
set_option maxRecDepth 20000 in
theorem gX5_count_X5_bills : GoodIn wsX5_count (wsV RX5 143 RX5 yX5_bills wsX5_bills) := goodIn_app (goodIn_of _ (by decide +kernel)) ggX5_count_X5_bills
set_option maxRecDepth 20000 in
theorem ggJxc12de_init_da8c8_Jxa1e45_init_da8c8 : GoodIn wsJxc12de_init_da8c8 wsJxa1e45_init_da8c8 := goodIn_r _ [5, 6, 7, 8] (by decide +kernel) (by decide +kernel)
set_option maxRecDepth 20000 in
theorem gJxc12de_init_da8c8_Jxa1e45_init_da8c8 : GoodIn wsJxc12de_init_da8c8 (wsJxa1e45_init_da8c8) := ggJxc12de_init_da8c8_Jxa1e45_init_da8c8
set_option maxRecDepth 20000 in
theorem ggJx4a65c_init_da8c8_Jxc12de_init_da8c8 : GoodIn wsJx4a65c_init_da8c8 wsJxc12de_init_da8c8 := goodIn_r _ [6, 7, 8, 9, 10, 11, 12, 13, 14, 15, 16, 17] (by decide +kernel) (by decide +kernel)
set_option maxRecDepth 20000 in
theorem gJx4a65c_init_da8c8_Jxc12de_init_da8c8 : GoodIn wsJx4a65c_init_da8c8 (wsJxc12de_init_da8c8) := ggJx4a65c_init_da8c8_Jxc12de_init_da8c8
set_option maxRecDepth 20000 in
theorem ggJx4a65c_grow_92f84_J8_newLength_cabcc : GoodIn wsJx4a65c_grow_92f84 wsJ8_newLength_cabcc := goodIn_r _ [11, 12, 4, 5, 6, 13, 14, 15, 10, 16] (by decide +kernel) (by decide +kernel)
set_option maxRecDepth 20000 in
theorem gJx4a65c_grow_92f84_J8_newLength_cabcc : GoodIn wsJx4a65c_grow_92f84 (va_wsS RJx4a65c 73 yJ8_newLength_cabcc wsJ8_newLength_cabcc) := goodIn_app (goodIn_of _ (by decide +kernel)) ggJx4a65c_grow_92f84_J8_newLength_cabcc
set_option maxRecDepth 20000 in
theorem ggJx4a65c_grow_92f84_J7_copyOf_1904c : GoodIn wsJx4a65c_grow_92f84 wsJ7_copyOf_1904c := goodIn_r _ [20, 21, 22, 23, 24, 25, 26, 19, 27, 28, 29, 30, 31, 5, 32, 33, 34, 35, 36] (by decide +kernel) (by decide +kernel)
set_option maxRecDepth 20000 in
theorem gJx4a65c_grow_92f84_J7_copyOf_1904c : GoodIn wsJx4a65c_grow_92f84 (va_wsS RJx4a65c 66 yJ7_copyOf_1904c wsJ7_copyOf_1904c) := goodIn_app (goodIn_of _ (by decide +kernel)) ggJx4a65c_grow_92f84_J7_copyOf_1904c
set_option maxRecDepth 20000 in
theorem ggJx4a65c_grow_d5877_Jx4a65c_grow_92f84 : GoodIn wsJx4a65c_grow_d5877 wsJx4a65c_grow_92f84 := goodIn_r _ [6, 7, 8, 9, 10, 11, 12, 13, 14, 15, 16, 17, 18, 19, 20, 21, 22, 23, 24, 25, 26, 27, 28, 29, 30, 31, 32, 33, 34, 35, 36, 37, 38, 39, 40, 41, 42, 43, 44, 45] (by decide +kernel) (by decide +kernel)
set_option maxRecDepth 20000 in
theorem gJx4a65c_grow_d5877_Jx4a65c_grow_92f84 : GoodIn wsJx4a65c_grow_d5877 (wsV RJx4a65c 69 RJx4a65c yJx4a65c_grow_92f84 wsJx4a65c_grow_92f84) := goodIn_app (goodIn_of _ (by decide +kernel)) ggJx4a65c_grow_d5877_Jx4a65c_grow_92f84
set_option maxRecDepth 20000 in
theorem ggJx4a65c_get_915e3_J15_checkIndex_7cf53 : GoodIn wsJx4a65c_get_915e3 wsJ15_checkIndex_7cf53 := goodIn_r _ [5, 6, 7, 8, 9] (by decide +kernel) (by decide +kernel)
set_option maxRecDepth 20000 in
theorem gJx4a65c_get_915e3_J15_checkIndex_7cf53 : GoodIn wsJx4a65c_get_915e3 (va_wsS RJx4a65c 118 yJ15_checkIndex_7cf53 wsJ15_checkIndex_7cf53) := goodIn_app (goodIn_of _ (by decide +kernel)) ggJx4a65c_get_915e3_J15_checkIndex_7cf53
set_option maxRecDepth 20000 in
theorem ggJx4a65c_get_915e3_Jx4a65c_elementData_915e3 : GoodIn wsJx4a65c_get_915e3 wsJx4a65c_elementData_915e3 := goodIn_r _ [14, 15, 16, 17, 18] (by decide +kernel) (by decide +kernel)
set_option maxRecDepth 20000 in
theorem gJx4a65c_get_915e3_Jx4a65c_elementData_915e3 : GoodIn wsJx4a65c_get_915e3 (wsV RJx4a65c 123 RJx4a65c yJx4a65c_elementData_915e3 wsJx4a65c_elementData_915e3) := goodIn_app (goodIn_of _ (by decide +kernel)) ggJx4a65c_get_915e3_Jx4a65c_elementData_915e3
set_option maxRecDepth 20000 in
theorem ggJx4a65c_add_72be8_Jx4a65c_grow_d5877 : GoodIn wsJx4a65c_add_72be8 wsJx4a65c_grow_d5877 := goodIn_r _ [6, 1, 7, 8, 9, 5, 10, 11, 12, 13, 14, 15, 16, 17, 18, 19, 20, 21, 22, 23, 24, 25, 26, 27, 28, 29, 30, 31, 32, 33, 34, 35, 36, 37, 38, 39, 40, 41, 42, 43, 44, 45, 46, 47, 48, 49] (by decide +kernel) (by decide +kernel)
set_option maxRecDepth 20000 in
theorem gJx4a65c_add_72be8_Jx4a65c_grow_d5877 : GoodIn wsJx4a65c_add_72be8 (wsV RJx4a65c 129 RJx4a65c yJx4a65c_grow_d5877 wsJx4a65c_grow_d5877) := goodIn_app (goodIn_of _ (by decide +kernel)) ggJx4a65c_add_72be8_Jx4a65c_grow_d5877
set_option maxRecDepth 20000 in
theorem ggJx4a65c_add_9ea2d_Jx4a65c_add_72be8 : GoodIn wsJx4a65c_add_9ea2d wsJx4a65c_add_72be8 := goodIn_r _ [9, 4, 10, 11, 12, 8, 13, 14, 15, 16, 17, 3, 18, 19, 20, 21, 22, 23, 24, 25, 26, 27, 28, 29, 30, 31, 32, 33, 34, 35, 36, 37, 38, 39, 40, 41, 42, 43, 44, 45, 46, 47, 48, 49, 50, 51, 52, 53, 54, 55] (by decide +kernel) (by decide +kernel)
set_option maxRecDepth 20000 in
theorem gJx4a65c_add_9ea2d_Jx4a65c_add_72be8 : GoodIn wsJx4a65c_add_9ea2d (wsV RJx4a65c 131 RJx4a65c yJx4a65c_add_72be8 wsJx4a65c_add_72be8) := goodIn_app (goodIn_of _ (by decide +kernel)) ggJx4a65c_add_9ea2d_Jx4a65c_add_72be8
set_option maxRecDepth 20000 in
theorem ggJ7_copyOf_1904c_J7_copyOf_6403c : GoodIn wsJ7_copyOf_1904c wsJ7_copyOf_6403c := goodIn_r _ [8, 9, 10, 11, 12, 13, 14, 15, 16, 17, 18] (by decide +kernel) (by decide +kernel)
set_option maxRecDepth 20000 in
theorem gJ7_copyOf_1904c_J7_copyOf_6403c : GoodIn wsJ7_copyOf_1904c (va_wsS RJ7 300 yJ7_copyOf_6403c wsJ7_copyOf_6403c) := goodIn_app (goodIn_of _ (by decide +kernel)) ggJ7_copyOf_1904c_J7_copyOf_6403c
set_option maxRecDepth 20000 in
theorem ggJ15_checkIndex_7cf53_J3_checkIndex_8e157 : GoodIn wsJ15_checkIndex_7cf53 wsJ3_checkIndex_8e157 := goodIn_r _ [4] (by decide +kernel) (by decide +kernel)
set_option maxRecDepth 20000 in
theorem gJ15_checkIndex_7cf53_J3_checkIndex_8e157 : GoodIn wsJ15_checkIndex_7cf53 (va_wsS RJ15 105 yJ3_checkIndex_8e157 wsJ3_checkIndex_8e157) := goodIn_app (goodIn_of _ (by decide +kernel)) ggJ15_checkIndex_7cf53_J3_checkIndex_8e157
set_option maxRecDepth 20000 in
theorem ggJ8_newLength_cabcc_J8_hugeLength_7cf53 : GoodIn wsJ8_newLength_cabcc wsJ8_hugeLength_7cf53 := goodIn_r _ [9, 5] (by decide +kernel) (by decide +kernel)
set_option maxRecDepth 20000 in
theorem gJ8_newLength_cabcc_J8_hugeLength_7cf53 : GoodIn wsJ8_newLength_cabcc (va_wsS RJ8 201 yJ8_hugeLength_7cf53 wsJ8_hugeLength_7cf53) := goodIn_app (goodIn_of _ (by decide +kernel)) ggJ8_newLength_cabcc_J8_hugeLength_7cf53
set_option maxRecDepth 20000 in
theorem ggL_tide_X4_tide : GoodIn wsL_tide wsX4_tide := goodIn_ca (goodIn_r _ [6, 7, 8, 9, 10, 11, 5, 12, 13, 14, 15, 16, 17, 18, 19, 20, 21, 22, 23] (by decide +kernel) (by decide +kernel)) (goodIn_sub (fun _ h => List.mem_cons_of_mem _ (List.mem_append_right _ h)) (by decide +kernel))
set_option maxRecDepth 20000 in
theorem gL_tide_X4_tide : GoodIn wsL_tide (wsV RL 7 RX4 yX4_tide wsX4_tide) := goodIn_app (goodIn_of _ (by decide +kernel)) ggL_tide_X4_tide
set_option maxRecDepth 20000 in
theorem ggL_tugs_X4_tugs : GoodIn wsL_tugs wsX4_tugs := goodIn_ca (goodIn_r _ [6, 7, 8, 9, 5, 10, 11, 12, 13, 14, 15, 16, 17, 18, 19] (by decide +kernel) (by decide +kernel)) (goodIn_sub (fun _ h => List.mem_cons_of_mem _ (List.mem_append_right _ h)) (by decide +kernel))
set_option maxRecDepth 20000 in
theorem gL_tugs_X4_tugs : GoodIn wsL_tugs (wsV RL 15 RX4 yX4_tugs wsX4_tugs) := goodIn_app (goodIn_of _ (by decide +kernel)) ggL_tugs_X4_tugs
set_option maxRecDepth 20000 in
theorem ggL_ship_X4_ship : GoodIn wsL_ship wsX4_ship := goodIn_ca (goodIn_ca (goodIn_r _ [7, 8, 9, 10, 11, 12, 13, 6, 14, 15, 16, 17, 18, 19, 20, 21, 22, 23, 24, 25, 26, 27, 28, 29, 30, 31, 32, 33, 34, 35, 36, 37, 38, 39, 40, 41, 42, 43, 44, 45, 46, 47, 48, 49, 50, 51, 52, 53, 54, 55, 56, 57, 58, 59, 60, 61, 62, 63, 64, 65, 66, 67, 68, 69, 70, 71, 72, 73, 74, 75, 76, 77, 78, 79, 80, 81, 82, 83, 84, 85, 86, 87, 88, 89, 90, 91, 92, 93, 94, 95, 96, 97, 98, 99, 100, 101, 102, 103, 104, 105, 106, 107, 108] (by decide +kernel) (by decide +kernel)) (goodIn_sub (fun _ h => List.mem_cons_of_mem _ (List.mem_append_left _ (List.mem_append_right _ h))) (by decide +kernel))) (goodIn_sub (fun _ h => List.mem_cons_of_mem _ (List.mem_append_right _ h)) (by decide +kernel))
set_option maxRecDepth 20000 in
theorem gL_ship_X4_ship : GoodIn wsL_ship (wsV RL 19 RX4 yX4_ship wsX4_ship) := goodIn_app (goodIn_of _ (by decide +kernel)) ggL_ship_X4_ship
set_option maxRecDepth 20000 in
theorem ggL_pilot_X4_pilot : GoodIn wsL_pilot wsX4_pilot := goodIn_ca (goodIn_ca (goodIn_r _ [7, 8, 9, 10, 11, 12, 13, 6, 14, 15, 16, 17, 18, 19, 20, 21, 22, 23, 24, 25, 26, 27, 28, 29, 30, 31, 32, 33, 34, 35, 36, 37, 38, 39, 40, 41, 42, 43, 44, 45, 46, 47, 48, 49, 50, 51, 52, 53, 54, 55, 56, 57, 58, 59, 60, 61, 62, 63, 64, 65, 66, 67, 68, 69, 70, 71, 72, 73, 74, 75, 76, 77, 78, 79, 80, 81, 82, 83, 84, 85, 86, 87, 88, 89, 90, 91, 92, 93, 94, 95, 96, 97, 98, 99, 100, 101, 102, 103, 104, 105] (by decide +kernel) (by decide +kernel)) (goodIn_sub (fun _ h => List.mem_cons_of_mem _ (List.mem_append_left _ (List.mem_append_right _ h))) (by decide +kernel))) (goodIn_sub (fun _ h => List.mem_cons_of_mem _ (List.mem_append_right _ h)) (by decide +kernel))
set_option maxRecDepth 20000 in
theorem gL_pilot_X4_pilot : GoodIn wsL_pilot (wsV RL 25 RX4 yX4_pilot wsX4_pilot) := goodIn_app (goodIn_of _ (by decide +kernel)) ggL_pilot_X4_pilot
set_option maxRecDepth 20000 in
theorem ggL_call_X4_call : GoodIn wsL_call wsX4_call := goodIn_ca (goodIn_ca (goodIn_ca (goodIn_r _ [8, 9, 10, 11, 12, 13, 14, 15, 16, 7, 17, 18, 19, 20, 21, 22, 23, 24, 25, 26, 27, 28, 29, 30, 31, 32, 33, 34, 35, 36, 37, 38, 39, 40, 41, 42, 43, 44, 45, 46, 47, 48, 49, 50, 51, 52, 53, 54, 55, 56, 57, 58, 59, 60, 61, 62, 63, 64, 65, 66, 67, 68, 69, 70, 71, 72, 73, 74, 75, 76, 77, 78, 79, 80, 81, 82, 83, 84, 85, 86, 87, 88, 89, 90, 91, 92, 93, 94, 95, 96, 97, 98, 99, 100, 101, 102, 103, 104, 105, 106, 107, 108, 109, 110, 111, 112, 113, 114, 115, 116, 117, 118, 119, 120, 121, 122, 123, 124, 125, 126, 127, 128, 129, 130, 131, 132, 133, 134] (by decide +kernel) (by decide +kernel)) (goodIn_sub (fun _ h => List.mem_cons_of_mem _ (List.mem_append_left _ (List.mem_append_left _ (List.mem_append_right _ h)))) (by decide +kernel))) (goodIn_sub (fun _ h => List.mem_cons_of_mem _ (List.mem_append_left _ (List.mem_append_right _ h))) (by decide +kernel))) (goodIn_sub (fun _ h => List.mem_cons_of_mem _ (List.mem_append_right _ h)) (by decide +kernel))
set_option maxRecDepth 20000 in
theorem gL_call_X4_call : GoodIn wsL_call (wsV RL 29 RX4 yX4_call wsX4_call) := goodIn_app (goodIn_of _ (by decide +kernel)) ggL_call_X4_call
set_option maxRecDepth 20000 in
theorem ggL_join_X4_join : GoodIn wsL_join wsX4_join := goodIn_ca (goodIn_ca (goodIn_r _ [7, 8, 9, 10, 11, 12, 13, 14, 15, 16, 6, 17, 18, 19, 20, 21, 22, 23, 24, 25, 26, 27, 28, 29, 30, 31, 32, 33, 34, 35, 36, 37, 38, 39, 40, 41, 42, 43, 44, 45, 46, 47, 48, 49, 50, 51, 52, 53, 54, 55, 56, 57, 58, 59, 60, 61, 62, 63, 64, 65, 66, 67, 68, 69, 70, 71, 72, 73, 74, 75, 76, 77, 78, 79, 80, 81, 82, 83, 84, 85, 86, 87, 88, 89, 90, 91, 92, 93, 94, 95, 96, 97, 98, 99, 100, 101, 102, 103, 104, 105, 106, 107, 108, 109, 110, 111, 112, 113, 114, 115, 116, 117, 118, 119, 120, 121, 122, 123, 124, 125, 126, 127, 128, 129, 130, 131, 132, 133, 134, 135, 136, 137, 138, 139, 140, 141, 142, 143, 144, 145, 146, 147, 148, 149, 150, 151, 152, 153, 154, 155, 156, 157, 158, 159, 160, 161] (by decide +kernel) (by decide +kernel)) (goodIn_sub (fun _ h => List.mem_cons_of_mem _ (List.mem_append_left _ (List.mem_append_right _ h))) (by decide +kernel))) (goodIn_sub (fun _ h => List.mem_cons_of_mem _ (List.mem_append_right _ h)) (by decide +kernel))
set_option maxRecDepth 20000 in
theorem gL_join_X4_join : GoodIn wsL_join (wsV RL 34 RX4 yX4_join wsX4_join) := goodIn_app (goodIn_of _ (by decide +kernel)) ggL_join_X4_join
set_option maxRecDepth 20000 in
theorem ggL_again_X4_again : GoodIn wsL_again wsX4_again := goodIn_ca (goodIn_ca (goodIn_r _ [7, 8, 9, 10, 11, 12, 13, 14, 6, 15, 16, 17, 18, 19, 20, 21, 22, 23, 24, 25, 26, 27, 28, 29, 30, 31, 32, 33, 34, 35, 36, 37, 38, 39, 40, 41, 42, 43, 44, 45, 46, 47, 48, 49, 50, 51, 52, 53, 54, 55, 56, 57, 58, 59, 60, 61, 62, 63, 64, 65, 66, 67, 68, 69, 70, 71, 72, 73, 74, 75, 76, 77, 78, 79, 80, 81, 82, 83, 84, 85, 86, 87, 88, 89, 90, 91, 92, 93, 94, 95, 96, 97, 98, 99, 100, 101, 102, 103, 104, 105, 106, 107, 108, 109, 110, 111, 112, 113, 114, 115, 116, 117, 118, 119, 120, 121, 122, 123, 124, 125, 126, 127, 128, 129] (by decide +kernel) (by decide +kernel)) (goodIn_sub (fun _ h => List.mem_cons_of_mem _ (List.mem_append_left _ (List.mem_append_right _ h))) (by decide +kernel))) (goodIn_sub (fun _ h => List.mem_cons_of_mem _ (List.mem_append_right _ h)) (by decide +kernel))
set_option maxRecDepth 20000 in
theorem gL_again_X4_again : GoodIn wsL_again (wsV RL 38 RX4 yX4_again wsX4_again) := goodIn_app (goodIn_of _ (by decide +kernel)) ggL_again_X4_again
set_option maxRecDepth 20000 in
theorem ggL_drop_X4_drop : GoodIn wsL_drop wsX4_drop := goodIn_ca (goodIn_ca (goodIn_r _ [7, 8, 9, 10, 11, 12, 13, 14, 15, 6, 16, 17, 18, 19, 20, 21, 22, 23, 24, 25, 26, 27, 28, 29, 30, 31, 32, 33, 34, 35, 36, 37, 38, 39, 40, 41, 42, 43, 44, 45, 46, 47, 48, 49, 50, 51, 52, 53, 54, 55, 56, 57, 58, 59, 60, 61, 62, 63, 64, 65, 66, 67, 68, 69, 70, 71, 72, 73, 74, 75, 76, 77, 78, 79, 80, 81, 82, 83, 84, 85, 86, 87, 88, 89, 90, 91, 92, 93, 94, 95, 96, 97, 98, 99, 100, 101, 102, 103, 104, 105, 106, 107, 108, 109, 110, 111, 112, 113, 114, 115, 116, 117, 118, 119, 120, 121, 122, 123, 124, 125, 126, 127, 128, 129, 130, 131, 132, 133, 134, 135, 136, 137, 138, 139, 140, 141, 142, 143, 144, 145, 146, 147, 148, 149, 150, 151] (by decide +kernel) (by decide +kernel)) (goodIn_sub (fun _ h => List.mem_cons_of_mem _ (List.mem_append_left _ (List.mem_append_right _ h))) (by decide +kernel))) (goodIn_sub (fun _ h => List.mem_cons_of_mem _ (List.mem_append_right _ h)) (by decide +kernel))
set_option maxRecDepth 20000 in
theorem gL_drop_X4_drop : GoodIn wsL_drop (wsV RL 41 RX4 yX4_drop wsX4_drop) := goodIn_app (goodIn_of _ (by decide +kernel)) ggL_drop_X4_drop
set_option maxRecDepth 20000 in
theorem ggL_pass_X4_pass : GoodIn wsL_pass wsX4_pass := goodIn_ca (goodIn_ca (goodIn_r _ [7, 8, 9, 10, 11, 12, 13, 14, 6, 15, 16, 17, 18, 19, 20, 21, 22, 23, 24, 25, 26, 27, 28, 29, 30, 31, 32, 33, 34, 35, 36, 37, 38, 39, 40, 41, 42, 43, 44, 45, 46, 47, 48, 49, 50, 51, 52, 53, 54, 55, 56, 57, 58, 59, 60, 61, 62, 63, 64, 65, 66, 67, 68, 69, 70, 71, 72, 73, 74, 75, 76, 77, 78, 79, 80, 81, 82] (by decide +kernel) (by decide +kernel)) (goodIn_sub (fun _ h => List.mem_cons_of_mem _ (List.mem_append_left _ (List.mem_append_right _ h))) (by decide +kernel))) (goodIn_sub (fun _ h => List.mem_cons_of_mem _ (List.mem_append_right _ h)) (by decide +kernel))
set_option maxRecDepth 20000 in
theorem gL_pass_X4_pass : GoodIn wsL_pass (wsV RL 44 RX4 yX4_pass wsX4_pass) := goodIn_app (goodIn_of _ (by decide +kernel)) ggL_pass_X4_pass
set_option maxRecDepth 20000 in
theorem ggL_level_X4_level : GoodIn wsL_level wsX4_level := goodIn_ca (goodIn_r _ [6, 7, 8, 9, 5, 10, 11, 12, 13, 14, 15, 16, 17, 18, 19, 20, 21, 22, 23, 24, 25, 26, 27, 28, 29, 30, 31] (by decide +kernel) (by decide +kernel)) (goodIn_sub (fun _ h => List.mem_cons_of_mem _ (List.mem_append_right _ h)) (by decide +kernel))
set_option maxRecDepth 20000 in
theorem gL_level_X4_level : GoodIn wsL_level (wsV RL 47 RX4 yX4_level wsX4_level) := goodIn_app (goodIn_of _ (by decide +kernel)) ggL_level_X4_level
set_option maxRecDepth 20000 in
theorem ggL_window_X4_window : GoodIn wsL_window wsX4_window := goodIn_ca (goodIn_ca (goodIn_r _ [7, 8, 9, 10, 11, 12, 13, 14, 15, 6, 16, 17, 18, 19, 20, 21, 22, 23, 24, 25, 26, 27, 28, 29, 30, 31, 32, 33, 34, 35, 36, 37, 38, 39, 40, 41, 42, 43, 44, 45, 46, 47, 48, 49, 50, 51, 52, 53, 54, 55, 56, 57, 58, 59, 60, 61, 62, 63, 64, 65, 66, 67, 68, 69, 70, 71, 72, 73, 74, 75, 76, 77, 78, 79, 80, 81, 82] (by decide +kernel) (by decide +kernel)) (goodIn_sub (fun _ h => List.mem_cons_of_mem _ (List.mem_append_left _ (List.mem_append_right _ h))) (by decide +kernel))) (goodIn_sub (fun _ h => List.mem_cons_of_mem _ (List.mem_append_right _ h)) (by decide +kernel))
set_option maxRecDepth 20000 in
theorem gL_window_X4_window : GoodIn wsL_window (wsV RL 50 RX4 yX4_window wsX4_window) := goodIn_app (goodIn_of _ (by decide +kernel)) ggL_window_X4_window
set_option maxRecDepth 20000 in
theorem ggL_ofConference_X4_ofConference : GoodIn wsL_ofConference wsX4_ofConference := goodIn_ca (goodIn_r _ [6, 7, 8, 9, 10, 11, 12, 13, 14, 15, 16, 17, 5, 18, 19, 20, 21, 22, 23, 24, 25, 26, 27, 28, 29, 30, 31, 32, 33, 34, 35, 36, 37, 38, 39, 40, 41, 42, 43, 44, 45, 46, 47, 48, 49, 50, 51, 52, 53, 54, 55, 56, 57, 58, 59, 60, 61, 62, 63, 64, 65, 66, 67, 68, 69, 70, 71, 72, 73, 74, 75, 76, 77, 78, 79] (by decide +kernel) (by decide +kernel)) (goodIn_sub (fun _ h => List.mem_cons_of_mem _ (List.mem_append_right _ h)) (by decide +kernel))
set_option maxRecDepth 20000 in
theorem gL_ofConference_X4_ofConference : GoodIn wsL_ofConference (wsV RL 53 RX4 yX4_ofConference wsX4_ofConference) := goodIn_app (goodIn_of _ (by decide +kernel)) ggL_ofConference_X4_ofConference
set_option maxRecDepth 20000 in
theorem ggL_why_X4_why : GoodIn wsL_why wsX4_why := goodIn_ca (goodIn_ca (goodIn_ca (goodIn_r _ [8, 9, 10, 11, 12, 13, 14, 15, 16, 17, 7, 18, 19, 20, 21, 22, 23, 24, 25, 26, 27, 28, 29, 30, 31, 32, 33, 34, 35, 36, 37, 38, 39, 40, 41, 42, 43, 44, 45, 46, 47, 48, 49, 50, 51, 52, 53, 54, 55, 56, 57, 58, 59, 60, 61, 62, 63, 64, 65, 66, 67, 68, 69, 70, 71, 72, 73, 74, 75, 76, 77, 78, 79, 80, 81, 82, 83, 84, 85, 86, 87, 88, 89, 90, 91, 92, 93, 94, 95, 96, 97, 98, 99, 100, 101, 102, 103, 104, 105, 106, 107, 108, 109, 110, 111, 112, 113, 114, 115, 116, 117, 118, 119, 120, 121, 122, 123, 124, 125] (by decide +kernel) (by decide +kernel)) (goodIn_sub (fun _ h => List.mem_cons_of_mem _ (List.mem_append_left _ (List.mem_append_left _ (List.mem_append_right _ h)))) (by decide +kernel))) (goodIn_sub (fun _ h => List.mem_cons_of_mem _ (List.mem_append_left _ (List.mem_append_right _ h))) (by decide +kernel))) (goodIn_sub (fun _ h => List.mem_cons_of_mem _ (List.mem_append_right _ h)) (by decide +kernel))
set_option maxRecDepth 20000 in
theorem gL_why_X4_why : GoodIn wsL_why (wsV RL 56 RX4 yX4_why wsX4_why) := goodIn_app (goodIn_of _ (by decide +kernel)) ggL_why_X4_why
set_option maxRecDepth 20000 in
theorem ggL_rested_X4_rested : GoodIn wsL_rested wsX4_rested := goodIn_ca (goodIn_r _ [6, 7, 8, 9, 5, 10, 11, 12, 13, 14, 15, 16, 17, 18, 19, 20, 21, 22, 23, 24, 25, 26, 27, 28, 29, 30, 31, 32, 33, 34, 35, 36, 37, 38, 39, 40, 41, 42, 43, 44, 45, 46, 47, 48, 49, 50, 51, 52, 53, 54, 55, 56, 57, 58, 59, 60, 61, 62, 63, 64, 65, 66, 67, 68, 69, 70, 71, 72, 73, 74, 75, 76, 77, 78, 79, 80, 81] (by decide +kernel) (by decide +kernel)) (goodIn_sub (fun _ h => List.mem_cons_of_mem _ (List.mem_append_right _ h)) (by decide +kernel))
set_option maxRecDepth 20000 in
theorem gL_rested_X4_rested : GoodIn wsL_rested (wsV RL 59 RX4 yX4_rested wsX4_rested) := goodIn_app (goodIn_of _ (by decide +kernel)) ggL_rested_X4_rested
set_option maxRecDepth 20000 in
theorem ggL_restedAnew_X4_restedAnew : GoodIn wsL_restedAnew wsX4_restedAnew := goodIn_ca (goodIn_r _ [6, 7, 8, 9, 5, 10, 11, 12, 13, 14, 15, 16, 17, 18, 19, 20, 21, 22, 23, 24, 25, 26, 27, 28, 29, 30, 31, 32, 33, 34, 35, 36, 37, 38, 39, 40, 41, 42, 43, 44, 45, 46, 47, 48, 49, 50, 51, 52, 53, 54, 55, 56, 57, 58, 59, 60, 61, 62, 63, 64, 65, 66, 67, 68, 69, 70, 71, 72, 73, 74, 75, 76, 77, 78, 79, 80, 81] (by decide +kernel) (by decide +kernel)) (goodIn_sub (fun _ h => List.mem_cons_of_mem _ (List.mem_append_right _ h)) (by decide +kernel))
set_option maxRecDepth 20000 in
theorem gL_restedAnew_X4_restedAnew : GoodIn wsL_restedAnew (wsV RL 62 RX4 yX4_restedAnew wsX4_restedAnew) := goodIn_app (goodIn_of _ (by decide +kernel)) ggL_restedAnew_X4_restedAnew
set_option maxRecDepth 20000 in
theorem ggL_bill_X4_bill : GoodIn wsL_bill wsX4_bill := goodIn_ca (goodIn_r _ [6, 7, 8, 9, 10, 5, 11, 12, 13, 14, 15, 16, 17, 18, 19, 20, 21, 22, 23, 24, 25, 26, 27, 28, 29, 30, 31, 32, 33, 34, 35, 36, 37, 38, 39, 40, 41, 42, 43, 44, 45, 46, 47, 48, 49, 50, 51, 52, 53, 54] (by decide +kernel) (by decide +kernel)) (goodIn_sub (fun _ h => List.mem_cons_of_mem _ (List.mem_append_right _ h)) (by decide +kernel))
set_option maxRecDepth 20000 in
theorem gL_bill_X4_bill : GoodIn wsL_bill (wsV RL 65 RX4 yX4_bill wsX4_bill) := goodIn_app (goodIn_of _ (by decide +kernel)) ggL_bill_X4_bill
set_option maxRecDepth 20000 in
theorem ggL_ofPilot_X4_ofPilot : GoodIn wsL_ofPilot wsX4_ofPilot := goodIn_ca (goodIn_r _ [6, 7, 8, 9, 10, 11, 12, 13, 14, 5, 15, 16, 17, 18, 19, 20, 21, 22, 23, 24, 25, 26, 27, 28, 29, 30, 31, 32, 33, 34, 35, 36, 37, 38, 39, 40, 41, 42, 43, 44, 45, 46, 47, 48, 49, 50, 51, 52, 53, 54, 55, 56, 57, 58, 59, 60, 61, 62, 63, 64, 65, 66, 67, 68, 69, 70] (by decide +kernel) (by decide +kernel)) (goodIn_sub (fun _ h => List.mem_cons_of_mem _ (List.mem_append_right _ h)) (by decide +kernel))
set_option maxRecDepth 20000 in
theorem gL_ofPilot_X4_ofPilot : GoodIn wsL_ofPilot (wsV RL 68 RX4 yX4_ofPilot wsX4_ofPilot) := goodIn_app (goodIn_of _ (by decide +kernel)) ggL_ofPilot_X4_ofPilot
set_option maxRecDepth 20000 in
theorem ggL_count_X4_count : GoodIn wsL_count wsX4_count := goodIn_ca (goodIn_r _ [6, 7, 8, 9, 10, 5, 11, 12, 13, 14, 15, 16, 17, 18, 19, 20, 21, 22, 23, 24, 25, 26, 27, 28, 29, 30, 31, 32, 33, 34, 35, 36, 37, 38, 39, 40, 41, 42, 43, 44, 45, 46, 47, 48, 49, 50, 51, 52, 53, 54, 55, 56, 57, 58, 59, 60, 61, 62, 63, 64, 65, 66, 67, 68, 69, 70, 71, 72, 73, 74, 75, 76, 77, 78, 79, 80, 81] (by decide +kernel) (by decide +kernel)) (goodIn_sub (fun _ h => List.mem_cons_of_mem _ (List.mem_append_right _ h)) (by decide +kernel))
set_option maxRecDepth 20000 in
theorem gL_count_X4_count : GoodIn wsL_count (wsV RL 71 RX4 yX4_count wsX4_count) := goodIn_app (goodIn_of _ (by decide +kernel)) ggL_count_X4_count
abbrev vwCl : List vw_C := [(RJx4a65c, TJx4a65c, 3), (RX0, TX0, 7), (RX1, TX1, 5), (RX2, TX2, 6), (RX3, TX3, 2), (RX4, TX4, 7), (RX5, TX5, 22)]
end
section
theorem dX0_init_0 : decode cX0_init 0 = .ok (.aload_n 0, 1) := by decide +kernel
theorem dX0_init_1 : decode cX0_init 1 = .ok (.invokespecial 3, 3) := by decide +kernel
theorem dX0_init_4 : decode cX0_init 4 = .ok (.aload_n 0, 1) := by decide +kernel
theorem dX0_init_5 : decode cX0_init 5 = .ok (.iconst 0, 1) := by decide +kernel
theorem dX0_init_6 : decode cX0_init 6 = .ok (.putfield 9, 3) := by decide +kernel
theorem dX0_init_9 : decode cX0_init 9 = .ok (.aload_n 0, 1) := by decide +kernel
theorem dX0_init_10 : decode cX0_init 10 = .ok (.iconst (-1), 1) := by decide +kernel
theorem dX0_init_11 : decode cX0_init 11 = .ok (.putfield 15, 3) := by decide +kernel
theorem dX0_init_14 : decode cX0_init 14 = .ok (.aload_n 0, 1) := by decide +kernel
theorem dX0_init_15 : decode cX0_init 15 = .ok (.aload_n 1, 1) := by decide +kernel
theorem dX0_init_16 : decode cX0_init 16 = .ok (.putfield 18, 3) := by decide +kernel
theorem dX0_init_19 : decode cX0_init 19 = .ok (.aload_n 0, 1) := by decide +kernel
theorem dX0_init_20 : decode cX0_init 20 = .ok (.iload_n 2, 1) := by decide +kernel
theorem dX0_init_21 : decode cX0_init 21 = .ok (.putfield 22, 3) := by decide +kernel
theorem dX0_init_24 : decode cX0_init 24 = .ok (.return_, 1) := by decide +kernel
theorem dX0_hasIn_0 : decode cX0_hasIn 0 = .ok (.iload_n 1, 1) := by decide +kernel
theorem dX0_hasIn_1 : decode cX0_hasIn 1 = .ok (.lookupswitch 37 #[(0, 27), (1, 32)], 27) := by decide +kernel
theorem dX0_hasIn_28 : decode cX0_hasIn 28 = .ok (.aload_n 0, 1) := by decide +kernel
theorem dX0_hasIn_29 : decode cX0_hasIn 29 = .ok (.getfield 25, 3) := by decide +kernel
theorem dX0_hasIn_32 : decode cX0_hasIn 32 = .ok (.ireturn, 1) := by decide +kernel
theorem dX0_hasIn_33 : decode cX0_hasIn 33 = .ok (.aload_n 0, 1) := by decide +kernel
theorem dX0_hasIn_34 : decode cX0_hasIn 34 = .ok (.getfield 29, 3) := by decide +kernel
theorem dX0_hasIn_37 : decode cX0_hasIn 37 = .ok (.ireturn, 1) := by decide +kernel
theorem dX0_hasIn_38 : decode cX0_hasIn 38 = .ok (.aload_n 0, 1) := by decide +kernel
theorem dX0_hasIn_39 : decode cX0_hasIn 39 = .ok (.getfield 32, 3) := by decide +kernel
theorem dX0_hasIn_42 : decode cX0_hasIn 42 = .ok (.ifnull 7, 3) := by decide +kernel
theorem dX0_hasIn_45 : decode cX0_hasIn 45 = .ok (.iconst 1, 1) := by decide +kernel
theorem dX0_hasIn_46 : decode cX0_hasIn 46 = .ok (.goto 4, 3) := by decide +kernel
theorem dX0_hasIn_49 : decode cX0_hasIn 49 = .ok (.iconst 0, 1) := by decide +kernel
theorem dX0_hasIn_50 : decode cX0_hasIn 50 = .ok (.ireturn, 1) := by decide +kernel
theorem dX0_howManyIn_0 : decode cX0_howManyIn 0 = .ok (.aload_n 0, 1) := by decide +kernel
theorem dX0_howManyIn_1 : decode cX0_howManyIn 1 = .ok (.getfield 25, 3) := by decide +kernel
theorem dX0_howManyIn_4 : decode cX0_howManyIn 4 = .ok (.ifCond .eq 7, 3) := by decide +kernel
theorem dX0_howManyIn_7 : decode cX0_howManyIn 7 = .ok (.iconst 1, 1) := by decide +kernel
theorem dX0_howManyIn_8 : decode cX0_howManyIn 8 = .ok (.goto 4, 3) := by decide +kernel
theorem dX0_howManyIn_11 : decode cX0_howManyIn 11 = .ok (.iconst 0, 1) := by decide +kernel
theorem dX0_howManyIn_12 : decode cX0_howManyIn 12 = .ok (.aload_n 0, 1) := by decide +kernel
theorem dX0_howManyIn_13 : decode cX0_howManyIn 13 = .ok (.getfield 29, 3) := by decide +kernel
theorem dX0_howManyIn_16 : decode cX0_howManyIn 16 = .ok (.ifCond .eq 7, 3) := by decide +kernel
theorem dX0_howManyIn_19 : decode cX0_howManyIn 19 = .ok (.iconst 1, 1) := by decide +kernel
theorem dX0_howManyIn_20 : decode cX0_howManyIn 20 = .ok (.goto 4, 3) := by decide +kernel
theorem dX0_howManyIn_23 : decode cX0_howManyIn 23 = .ok (.iconst 0, 1) := by decide +kernel
theorem dX0_howManyIn_24 : decode cX0_howManyIn 24 = .ok (.iadd, 1) := by decide +kernel
theorem dX0_howManyIn_25 : decode cX0_howManyIn 25 = .ok (.aload_n 0, 1) := by decide +kernel
theorem dX0_howManyIn_26 : decode cX0_howManyIn 26 = .ok (.getfield 32, 3) := by decide +kernel
theorem dX0_howManyIn_29 : decode cX0_howManyIn 29 = .ok (.ifnull 7, 3) := by decide +kernel
theorem dX0_howManyIn_32 : decode cX0_howManyIn 32 = .ok (.iconst 1, 1) := by decide +kernel
theorem dX0_howManyIn_33 : decode cX0_howManyIn 33 = .ok (.goto 4, 3) := by decide +kernel
theorem dX0_howManyIn_36 : decode cX0_howManyIn 36 = .ok (.iconst 0, 1) := by decide +kernel
theorem dX0_howManyIn_37 : decode cX0_howManyIn 37 = .ok (.iadd, 1) := by decide +kernel
theorem dX0_howManyIn_38 : decode cX0_howManyIn 38 = .ok (.ireturn, 1) := by decide +kernel
theorem dX0_letIn_0 : decode cX0_letIn 0 = .ok (.iload_n 1, 1) := by decide +kernel
theorem dX0_letIn_1 : decode cX0_letIn 1 = .ok (.lookupswitch 43 #[(0, 27), (1, 35)], 27) := by decide +kernel
theorem dX0_letIn_28 : decode cX0_letIn 28 = .ok (.aload_n 0, 1) := by decide +kernel
theorem dX0_letIn_29 : decode cX0_letIn 29 = .ok (.iconst 1, 1) := by decide +kernel
theorem dX0_letIn_30 : decode cX0_letIn 30 = .ok (.putfield 25, 3) := by decide +kernel
theorem dX0_letIn_33 : decode cX0_letIn 33 = .ok (.goto 16, 3) := by decide +kernel
theorem dX0_letIn_36 : decode cX0_letIn 36 = .ok (.aload_n 0, 1) := by decide +kernel
theorem dX0_letIn_37 : decode cX0_letIn 37 = .ok (.iconst 1, 1) := by decide +kernel
theorem dX0_letIn_38 : decode cX0_letIn 38 = .ok (.putfield 29, 3) := by decide +kernel
theorem dX0_letIn_41 : decode cX0_letIn 41 = .ok (.goto 8, 3) := by decide +kernel
theorem dX0_letIn_44 : decode cX0_letIn 44 = .ok (.aload_n 0, 1) := by decide +kernel
theorem dX0_letIn_45 : decode cX0_letIn 45 = .ok (.aload_n 2, 1) := by decide +kernel
theorem dX0_letIn_46 : decode cX0_letIn 46 = .ok (.putfield 32, 3) := by decide +kernel
theorem dX0_letIn_49 : decode cX0_letIn 49 = .ok (.return_, 1) := by decide +kernel
theorem dX0_letOut_0 : decode cX0_letOut 0 = .ok (.iload_n 1, 1) := by decide +kernel
theorem dX0_letOut_1 : decode cX0_letOut 1 = .ok (.lookupswitch 43 #[(0, 27), (1, 35)], 27) := by decide +kernel
theorem dX0_letOut_28 : decode cX0_letOut 28 = .ok (.aload_n 0, 1) := by decide +kernel
theorem dX0_letOut_29 : decode cX0_letOut 29 = .ok (.iconst 0, 1) := by decide +kernel
theorem dX0_letOut_30 : decode cX0_letOut 30 = .ok (.putfield 25, 3) := by decide +kernel
theorem dX0_letOut_33 : decode cX0_letOut 33 = .ok (.goto 16, 3) := by decide +kernel
theorem dX0_letOut_36 : decode cX0_letOut 36 = .ok (.aload_n 0, 1) := by decide +kernel
theorem dX0_letOut_37 : decode cX0_letOut 37 = .ok (.iconst 0, 1) := by decide +kernel
theorem dX0_letOut_38 : decode cX0_letOut 38 = .ok (.putfield 29, 3) := by decide +kernel
theorem dX0_letOut_41 : decode cX0_letOut 41 = .ok (.goto 8, 3) := by decide +kernel
theorem dX0_letOut_44 : decode cX0_letOut 44 = .ok (.aload_n 0, 1) := by decide +kernel
theorem dX0_letOut_45 : decode cX0_letOut 45 = .ok (.aconst_null, 1) := by decide +kernel
theorem dX0_letOut_46 : decode cX0_letOut 46 = .ok (.putfield 32, 3) := by decide +kernel
theorem dX0_letOut_49 : decode cX0_letOut 49 = .ok (.aload_n 0, 1) := by decide +kernel
theorem dX0_letOut_50 : decode cX0_letOut 50 = .ok (.iconst 0, 1) := by decide +kernel
theorem dX0_letOut_51 : decode cX0_letOut 51 = .ok (.putfield 9, 3) := by decide +kernel
theorem dX0_letOut_54 : decode cX0_letOut 54 = .ok (.aload_n 0, 1) := by decide +kernel
theorem dX0_letOut_55 : decode cX0_letOut 55 = .ok (.iconst (-1), 1) := by decide +kernel
theorem dX0_letOut_56 : decode cX0_letOut 56 = .ok (.putfield 15, 3) := by decide +kernel
theorem dX0_letOut_59 : decode cX0_letOut 59 = .ok (.return_, 1) := by decide +kernel
theorem dX1_init_0 : decode cX1_init 0 = .ok (.aload_n 0, 1) := by decide +kernel
theorem dX1_init_1 : decode cX1_init 1 = .ok (.invokespecial 1, 3) := by decide +kernel
theorem dX1_init_4 : decode cX1_init 4 = .ok (.aload_n 0, 1) := by decide +kernel
theorem dX1_init_5 : decode cX1_init 5 = .ok (.iload_n 1, 1) := by decide +kernel
theorem dX1_init_6 : decode cX1_init 6 = .ok (.putfield 7, 3) := by decide +kernel
theorem dX1_init_9 : decode cX1_init 9 = .ok (.aload_n 0, 1) := by decide +kernel
theorem dX1_init_10 : decode cX1_init 10 = .ok (.iload_n 2, 1) := by decide +kernel
theorem dX1_init_11 : decode cX1_init 11 = .ok (.putfield 13, 3) := by decide +kernel
theorem dX1_init_14 : decode cX1_init 14 = .ok (.aload_n 0, 1) := by decide +kernel
theorem dX1_init_15 : decode cX1_init 15 = .ok (.iload_n 3, 1) := by decide +kernel
theorem dX1_init_16 : decode cX1_init 16 = .ok (.putfield 16, 3) := by decide +kernel
theorem dX1_init_19 : decode cX1_init 19 = .ok (.return_, 1) := by decide +kernel
theorem dX2_init_0 : decode cX2_init 0 = .ok (.aload_n 0, 1) := by decide +kernel
theorem dX2_init_1 : decode cX2_init 1 = .ok (.invokespecial 1, 3) := by decide +kernel
theorem dX2_init_4 : decode cX2_init 4 = .ok (.aload_n 0, 1) := by decide +kernel
theorem dX2_init_5 : decode cX2_init 5 = .ok (.iload_n 1, 1) := by decide +kernel
theorem dX2_init_6 : decode cX2_init 6 = .ok (.putfield 7, 3) := by decide +kernel
theorem dX2_init_9 : decode cX2_init 9 = .ok (.aload_n 0, 1) := by decide +kernel
theorem dX2_init_10 : decode cX2_init 10 = .ok (.iload_n 2, 1) := by decide +kernel
theorem dX2_init_11 : decode cX2_init 11 = .ok (.putfield 13, 3) := by decide +kernel
theorem dX2_init_14 : decode cX2_init 14 = .ok (.aload_n 0, 1) := by decide +kernel
theorem dX2_init_15 : decode cX2_init 15 = .ok (.iload_n 3, 1) := by decide +kernel
theorem dX2_init_16 : decode cX2_init 16 = .ok (.putfield 16, 3) := by decide +kernel
theorem dX2_init_19 : decode cX2_init 19 = .ok (.aload_n 0, 1) := by decide +kernel
theorem dX2_init_20 : decode cX2_init 20 = .ok (.iload 4, 2) := by decide +kernel
theorem dX2_init_22 : decode cX2_init 22 = .ok (.putfield 19, 3) := by decide +kernel
theorem dX2_init_25 : decode cX2_init 25 = .ok (.aload_n 0, 1) := by decide +kernel
theorem dX2_init_26 : decode cX2_init 26 = .ok (.iload 5, 2) := by decide +kernel
theorem dX2_init_28 : decode cX2_init 28 = .ok (.putfield 22, 3) := by decide +kernel
theorem dX2_init_31 : decode cX2_init 31 = .ok (.return_, 1) := by decide +kernel
theorem dX2_minutesWithRest_0 : decode cX2_minutesWithRest 0 = .ok (.aload_n 0, 1) := by decide +kernel
theorem dX2_minutesWithRest_1 : decode cX2_minutesWithRest 1 = .ok (.getfield 19, 3) := by decide +kernel
theorem dX2_minutesWithRest_4 : decode cX2_minutesWithRest 4 = .ok (.bipush 60, 2) := by decide +kernel
theorem dX2_minutesWithRest_6 : decode cX2_minutesWithRest 6 = .ok (.aload_n 0, 1) := by decide +kernel
theorem dX2_minutesWithRest_7 : decode cX2_minutesWithRest 7 = .ok (.getfield 19, 3) := by decide +kernel
theorem dX2_minutesWithRest_10 : decode cX2_minutesWithRest 10 = .ok (.invokestatic 25, 3) := by decide +kernel
theorem dX2_minutesWithRest_13 : decode cX2_minutesWithRest 13 = .ok (.iadd, 1) := by decide +kernel
theorem dX2_minutesWithRest_14 : decode cX2_minutesWithRest 14 = .ok (.ireturn, 1) := by decide +kernel
theorem dX3_init_0 : decode cX3_init 0 = .ok (.aload_n 0, 1) := by decide +kernel
theorem dX3_init_1 : decode cX3_init 1 = .ok (.invokespecial 1, 3) := by decide +kernel
theorem dX3_init_4 : decode cX3_init 4 = .ok (.aload_n 0, 1) := by decide +kernel
theorem dX3_init_5 : decode cX3_init 5 = .ok (.bipush 100, 2) := by decide +kernel
theorem dX3_init_7 : decode cX3_init 7 = .ok (.putfield 7, 3) := by decide +kernel
theorem dX3_init_10 : decode cX3_init 10 = .ok (.aload_n 0, 1) := by decide +kernel
theorem dX3_init_11 : decode cX3_init 11 = .ok (.bipush 40, 2) := by decide +kernel
theorem dX3_init_13 : decode cX3_init 13 = .ok (.putfield 13, 3) := by decide +kernel
theorem dX3_init_16 : decode cX3_init 16 = .ok (.return_, 1) := by decide +kernel
theorem dX3_aboveDepth_0 : decode cX3_aboveDepth 0 = .ok (.iload_n 1, 1) := by decide +kernel
theorem dX3_aboveDepth_1 : decode cX3_aboveDepth 1 = .ok (.sipush 720, 3) := by decide +kernel
theorem dX3_aboveDepth_4 : decode cX3_aboveDepth 4 = .ok (.irem, 1) := by decide +kernel
theorem dX3_aboveDepth_5 : decode cX3_aboveDepth 5 = .ok (.istore_n 2, 1) := by decide +kernel
theorem dX3_aboveDepth_6 : decode cX3_aboveDepth 6 = .ok (.iload_n 2, 1) := by decide +kernel
theorem dX3_aboveDepth_7 : decode cX3_aboveDepth 7 = .ok (.sipush 720, 3) := by decide +kernel
theorem dX3_aboveDepth_10 : decode cX3_aboveDepth 10 = .ok (.iload_n 2, 1) := by decide +kernel
theorem dX3_aboveDepth_11 : decode cX3_aboveDepth 11 = .ok (.isub, 1) := by decide +kernel
theorem dX3_aboveDepth_12 : decode cX3_aboveDepth 12 = .ok (.invokestatic 16, 3) := by decide +kernel
theorem dX3_aboveDepth_15 : decode cX3_aboveDepth 15 = .ok (.aload_n 0, 1) := by decide +kernel
theorem dX3_aboveDepth_16 : decode cX3_aboveDepth 16 = .ok (.getfield 13, 3) := by decide +kernel
theorem dX3_aboveDepth_19 : decode cX3_aboveDepth 19 = .ok (.imul, 1) := by decide +kernel
theorem dX3_aboveDepth_20 : decode cX3_aboveDepth 20 = .ok (.sipush 360, 3) := by decide +kernel
theorem dX3_aboveDepth_23 : decode cX3_aboveDepth 23 = .ok (.idiv, 1) := by decide +kernel
theorem dX3_aboveDepth_24 : decode cX3_aboveDepth 24 = .ok (.ireturn, 1) := by decide +kernel
theorem dX3_pastShallows_0 : decode cX3_pastShallows 0 = .ok (.aload_n 1, 1) := by decide +kernel
theorem dX3_pastShallows_1 : decode cX3_pastShallows 1 = .ok (.getfield 22, 3) := by decide +kernel
theorem dX3_pastShallows_4 : decode cX3_pastShallows 4 = .ok (.bipush 10, 2) := by decide +kernel
theorem dX3_pastShallows_6 : decode cX3_pastShallows 6 = .ok (.iadd, 1) := by decide +kernel
theorem dX3_pastShallows_7 : decode cX3_pastShallows 7 = .ok (.istore_n 3, 1) := by decide +kernel
theorem dX3_pastShallows_8 : decode cX3_pastShallows 8 = .ok (.iload_n 2, 1) := by decide +kernel
theorem dX3_pastShallows_9 : decode cX3_pastShallows 9 = .ok (.aload_n 1, 1) := by decide +kernel
theorem dX3_pastShallows_10 : decode cX3_pastShallows 10 = .ok (.getfield 27, 3) := by decide +kernel
theorem dX3_pastShallows_13 : decode cX3_pastShallows 13 = .ok (.iadd, 1) := by decide +kernel
theorem dX3_pastShallows_14 : decode cX3_pastShallows 14 = .ok (.iconst 1, 1) := by decide +kernel
theorem dX3_pastShallows_15 : decode cX3_pastShallows 15 = .ok (.isub, 1) := by decide +kernel
theorem dX3_pastShallows_16 : decode cX3_pastShallows 16 = .ok (.istore 4, 2) := by decide +kernel
theorem dX3_pastShallows_18 : decode cX3_pastShallows 18 = .ok (.iload 4, 2) := by decide +kernel
theorem dX3_pastShallows_20 : decode cX3_pastShallows 20 = .ok (.iload_n 2, 1) := by decide +kernel
theorem dX3_pastShallows_21 : decode cX3_pastShallows 21 = .ok (.if_icmp .lt 29, 3) := by decide +kernel
theorem dX3_pastShallows_24 : decode cX3_pastShallows 24 = .ok (.aload_n 0, 1) := by decide +kernel
theorem dX3_pastShallows_25 : decode cX3_pastShallows 25 = .ok (.getfield 7, 3) := by decide +kernel
theorem dX3_pastShallows_28 : decode cX3_pastShallows 28 = .ok (.aload_n 0, 1) := by decide +kernel
theorem dX3_pastShallows_29 : decode cX3_pastShallows 29 = .ok (.iload 4, 2) := by decide +kernel
theorem dX3_pastShallows_31 : decode cX3_pastShallows 31 = .ok (.invokevirtual 30, 3) := by decide +kernel
theorem dX3_pastShallows_34 : decode cX3_pastShallows 34 = .ok (.iadd, 1) := by decide +kernel
theorem dX3_pastShallows_35 : decode cX3_pastShallows 35 = .ok (.iload_n 3, 1) := by decide +kernel
theorem dX3_pastShallows_36 : decode cX3_pastShallows 36 = .ok (.if_icmp .ge 8, 3) := by decide +kernel
theorem dX3_pastShallows_39 : decode cX3_pastShallows 39 = .ok (.iload 4, 2) := by decide +kernel
theorem dX3_pastShallows_41 : decode cX3_pastShallows 41 = .ok (.iconst 1, 1) := by decide +kernel
theorem dX3_pastShallows_42 : decode cX3_pastShallows 42 = .ok (.iadd, 1) := by decide +kernel
theorem dX3_pastShallows_43 : decode cX3_pastShallows 43 = .ok (.ireturn, 1) := by decide +kernel
theorem dX3_pastShallows_44 : decode cX3_pastShallows 44 = .ok (.iinc 4 (-1), 3) := by decide +kernel
theorem dX3_pastShallows_47 : decode cX3_pastShallows 47 = .ok (.goto (-29), 3) := by decide +kernel
theorem dX3_pastShallows_50 : decode cX3_pastShallows 50 = .ok (.iload_n 2, 1) := by decide +kernel
theorem dX3_pastShallows_51 : decode cX3_pastShallows 51 = .ok (.ireturn, 1) := by decide +kernel
theorem dX4_init_0 : decode cX4_init 0 = .ok (.aload_n 0, 1) := by decide +kernel
theorem dX4_init_1 : decode cX4_init 1 = .ok (.invokespecial 1, 3) := by decide +kernel
theorem dX4_init_4 : decode cX4_init 4 = .ok (.aload_n 0, 1) := by decide +kernel
theorem dX4_init_5 : decode cX4_init 5 = .ok (.new 7, 3) := by decide +kernel
theorem dX4_init_8 : decode cX4_init 8 = .ok (.dup, 1) := by decide +kernel
theorem dX4_init_9 : decode cX4_init 9 = .ok (.invokespecial 9, 3) := by decide +kernel
theorem dX4_init_12 : decode cX4_init 12 = .ok (.putfield 10, 3) := by decide +kernel
theorem dX4_init_15 : decode cX4_init 15 = .ok (.aload_n 0, 1) := by decide +kernel
theorem dX4_init_16 : decode cX4_init 16 = .ok (.new 16, 3) := by decide +kernel
theorem dX4_init_19 : decode cX4_init 19 = .ok (.dup, 1) := by decide +kernel
theorem dX4_init_20 : decode cX4_init 20 = .ok (.invokespecial 18, 3) := by decide +kernel
theorem dX4_init_23 : decode cX4_init 23 = .ok (.putfield 19, 3) := by decide +kernel
theorem dX4_init_26 : decode cX4_init 26 = .ok (.aload_n 0, 1) := by decide +kernel
theorem dX4_init_27 : decode cX4_init 27 = .ok (.new 16, 3) := by decide +kernel
theorem dX4_init_30 : decode cX4_init 30 = .ok (.dup, 1) := by decide +kernel
theorem dX4_init_31 : decode cX4_init 31 = .ok (.invokespecial 18, 3) := by decide +kernel
theorem dX4_init_34 : decode cX4_init 34 = .ok (.putfield 23, 3) := by decide +kernel
theorem dX4_init_37 : decode cX4_init 37 = .ok (.aload_n 0, 1) := by decide +kernel
theorem dX4_init_38 : decode cX4_init 38 = .ok (.new 16, 3) := by decide +kernel
theorem dX4_init_41 : decode cX4_init 41 = .ok (.dup, 1) := by decide +kernel
theorem dX4_init_42 : decode cX4_init 42 = .ok (.invokespecial 18, 3) := by decide +kernel
theorem dX4_init_45 : decode cX4_init 45 = .ok (.putfield 26, 3) := by decide +kernel
theorem dX4_init_48 : decode cX4_init 48 = .ok (.aload_n 0, 1) := by decide +kernel
theorem dX4_init_49 : decode cX4_init 49 = .ok (.iconst 2, 1) := by decide +kernel
theorem dX4_init_50 : decode cX4_init 50 = .ok (.putfield 29, 3) := by decide +kernel
theorem dX4_init_53 : decode cX4_init 53 = .ok (.return_, 1) := by decide +kernel
theorem dX4_tide_0 : decode cX4_tide 0 = .ok (.iload_n 1, 1) := by decide +kernel
theorem dX4_tide_1 : decode cX4_tide 1 = .ok (.bipush 10, 2) := by decide +kernel
theorem dX4_tide_3 : decode cX4_tide 3 = .ok (.sipush 300, 3) := by decide +kernel
theorem dX4_tide_6 : decode cX4_tide 6 = .ok (.invokestatic 33, 3) := by decide +kernel
theorem dX4_tide_9 : decode cX4_tide 9 = .ok (.iload_n 2, 1) := by decide +kernel
theorem dX4_tide_10 : decode cX4_tide 10 = .ok (.iconst 0, 1) := by decide +kernel
theorem dX4_tide_11 : decode cX4_tide 11 = .ok (.sipush 200, 3) := by decide +kernel
theorem dX4_tide_14 : decode cX4_tide 14 = .ok (.invokestatic 33, 3) := by decide +kernel
theorem dX4_tide_17 : decode cX4_tide 17 = .ok (.aload_n 0, 1) := by decide +kernel
theorem dX4_tide_18 : decode cX4_tide 18 = .ok (.getfield 10, 3) := by decide +kernel
theorem dX4_tide_21 : decode cX4_tide 21 = .ok (.iload_n 1, 1) := by decide +kernel
theorem dX4_tide_22 : decode cX4_tide 22 = .ok (.putfield 37, 3) := by decide +kernel
theorem dX4_tide_25 : decode cX4_tide 25 = .ok (.aload_n 0, 1) := by decide +kernel
theorem dX4_tide_26 : decode cX4_tide 26 = .ok (.getfield 10, 3) := by decide +kernel
theorem dX4_tide_29 : decode cX4_tide 29 = .ok (.iload_n 2, 1) := by decide +kernel
theorem dX4_tide_30 : decode cX4_tide 30 = .ok (.putfield 40, 3) := by decide +kernel
theorem dX4_tide_33 : decode cX4_tide 33 = .ok (.return_, 1) := by decide +kernel
theorem dX4_tugs_0 : decode cX4_tugs 0 = .ok (.iload_n 1, 1) := by decide +kernel
theorem dX4_tugs_1 : decode cX4_tugs 1 = .ok (.iconst 0, 1) := by decide +kernel
theorem dX4_tugs_2 : decode cX4_tugs 2 = .ok (.bipush 6, 2) := by decide +kernel
theorem dX4_tugs_4 : decode cX4_tugs 4 = .ok (.invokestatic 33, 3) := by decide +kernel
theorem dX4_tugs_7 : decode cX4_tugs 7 = .ok (.aload_n 0, 1) := by decide +kernel
theorem dX4_tugs_8 : decode cX4_tugs 8 = .ok (.getfield 29, 3) := by decide +kernel
theorem dX4_tugs_11 : decode cX4_tugs 11 = .ok (.istore_n 2, 1) := by decide +kernel
theorem dX4_tugs_12 : decode cX4_tugs 12 = .ok (.aload_n 0, 1) := by decide +kernel
theorem dX4_tugs_13 : decode cX4_tugs 13 = .ok (.iload_n 1, 1) := by decide +kernel
theorem dX4_tugs_14 : decode cX4_tugs 14 = .ok (.putfield 29, 3) := by decide +kernel
theorem dX4_tugs_17 : decode cX4_tugs 17 = .ok (.iload_n 2, 1) := by decide +kernel
theorem dX4_tugs_18 : decode cX4_tugs 18 = .ok (.ireturn, 1) := by decide +kernel
theorem dX4_ship_0 : decode cX4_ship 0 = .ok (.iload_n 1, 1) := by decide +kernel
theorem dX4_ship_1 : decode cX4_ship 1 = .ok (.iconst 1, 1) := by decide +kernel
theorem dX4_ship_2 : decode cX4_ship 2 = .ok (.sipush 400, 3) := by decide +kernel
theorem dX4_ship_5 : decode cX4_ship 5 = .ok (.invokestatic 33, 3) := by decide +kernel
theorem dX4_ship_8 : decode cX4_ship 8 = .ok (.iload_n 2, 1) := by decide +kernel
theorem dX4_ship_9 : decode cX4_ship 9 = .ok (.iconst 1, 1) := by decide +kernel
theorem dX4_ship_10 : decode cX4_ship 10 = .ok (.sipush 9999, 3) := by decide +kernel
theorem dX4_ship_13 : decode cX4_ship 13 = .ok (.invokestatic 33, 3) := by decide +kernel
theorem dX4_ship_16 : decode cX4_ship 16 = .ok (.iload_n 3, 1) := by decide +kernel
theorem dX4_ship_17 : decode cX4_ship 17 = .ok (.bipush 10, 2) := by decide +kernel
theorem dX4_ship_19 : decode cX4_ship 19 = .ok (.bipush 120, 2) := by decide +kernel
theorem dX4_ship_21 : decode cX4_ship 21 = .ok (.invokestatic 33, 3) := by decide +kernel
theorem dX4_ship_24 : decode cX4_ship 24 = .ok (.iload 4, 2) := by decide +kernel
theorem dX4_ship_26 : decode cX4_ship 26 = .ok (.iconst 0, 1) := by decide +kernel
theorem dX4_ship_27 : decode cX4_ship 27 = .ok (.iconst 3, 1) := by decide +kernel
theorem dX4_ship_28 : decode cX4_ship 28 = .ok (.invokestatic 33, 3) := by decide +kernel
theorem dX4_ship_31 : decode cX4_ship 31 = .ok (.aload_n 0, 1) := by decide +kernel
theorem dX4_ship_32 : decode cX4_ship 32 = .ok (.getfield 19, 3) := by decide +kernel
theorem dX4_ship_35 : decode cX4_ship 35 = .ok (.invokevirtual 43, 3) := by decide +kernel
theorem dX4_ship_38 : decode cX4_ship 38 = .ok (.istore 5, 2) := by decide +kernel
theorem dX4_ship_40 : decode cX4_ship 40 = .ok (.iload 5, 2) := by decide +kernel
theorem dX4_ship_42 : decode cX4_ship 42 = .ok (.bipush 12, 2) := by decide +kernel
theorem dX4_ship_44 : decode cX4_ship 44 = .ok (.invokestatic 47, 3) := by decide +kernel
theorem dX4_ship_47 : decode cX4_ship 47 = .ok (.aload_n 0, 1) := by decide +kernel
theorem dX4_ship_48 : decode cX4_ship 48 = .ok (.getfield 19, 3) := by decide +kernel
theorem dX4_ship_51 : decode cX4_ship 51 = .ok (.new 51, 3) := by decide +kernel
theorem dX4_ship_54 : decode cX4_ship 54 = .ok (.dup, 1) := by decide +kernel
theorem dX4_ship_55 : decode cX4_ship 55 = .ok (.iload 5, 2) := by decide +kernel
theorem dX4_ship_57 : decode cX4_ship 57 = .ok (.iload_n 1, 1) := by decide +kernel
theorem dX4_ship_58 : decode cX4_ship 58 = .ok (.iload_n 2, 1) := by decide +kernel
theorem dX4_ship_59 : decode cX4_ship 59 = .ok (.iload_n 3, 1) := by decide +kernel
theorem dX4_ship_60 : decode cX4_ship 60 = .ok (.iload 4, 2) := by decide +kernel
theorem dX4_ship_62 : decode cX4_ship 62 = .ok (.invokespecial 53, 3) := by decide +kernel
theorem dX4_ship_65 : decode cX4_ship 65 = .ok (.invokevirtual 56, 3) := by decide +kernel
theorem dX4_ship_68 : decode cX4_ship 68 = .ok (.pop, 1) := by decide +kernel
theorem dX4_ship_69 : decode cX4_ship 69 = .ok (.iload 5, 2) := by decide +kernel
theorem dX4_ship_71 : decode cX4_ship 71 = .ok (.ireturn, 1) := by decide +kernel
theorem dX4_pilot_0 : decode cX4_pilot 0 = .ok (.iload_n 1, 1) := by decide +kernel
theorem dX4_pilot_1 : decode cX4_pilot 1 = .ok (.iconst 1, 1) := by decide +kernel
theorem dX4_pilot_2 : decode cX4_pilot 2 = .ok (.sipush 9999, 3) := by decide +kernel
theorem dX4_pilot_5 : decode cX4_pilot 5 = .ok (.invokestatic 33, 3) := by decide +kernel
theorem dX4_pilot_8 : decode cX4_pilot 8 = .ok (.iload_n 2, 1) := by decide +kernel
theorem dX4_pilot_9 : decode cX4_pilot 9 = .ok (.iconst 1, 1) := by decide +kernel
theorem dX4_pilot_10 : decode cX4_pilot 10 = .ok (.bipush 50, 2) := by decide +kernel
theorem dX4_pilot_12 : decode cX4_pilot 12 = .ok (.invokestatic 33, 3) := by decide +kernel
theorem dX4_pilot_15 : decode cX4_pilot 15 = .ok (.aload_n 0, 1) := by decide +kernel
theorem dX4_pilot_16 : decode cX4_pilot 16 = .ok (.getfield 23, 3) := by decide +kernel
theorem dX4_pilot_19 : decode cX4_pilot 19 = .ok (.invokevirtual 43, 3) := by decide +kernel
theorem dX4_pilot_22 : decode cX4_pilot 22 = .ok (.istore_n 3, 1) := by decide +kernel
theorem dX4_pilot_23 : decode cX4_pilot 23 = .ok (.iload_n 3, 1) := by decide +kernel
theorem dX4_pilot_24 : decode cX4_pilot 24 = .ok (.bipush 8, 2) := by decide +kernel
theorem dX4_pilot_26 : decode cX4_pilot 26 = .ok (.invokestatic 47, 3) := by decide +kernel
theorem dX4_pilot_29 : decode cX4_pilot 29 = .ok (.aload_n 0, 1) := by decide +kernel
theorem dX4_pilot_30 : decode cX4_pilot 30 = .ok (.getfield 23, 3) := by decide +kernel
theorem dX4_pilot_33 : decode cX4_pilot 33 = .ok (.new 60, 3) := by decide +kernel
theorem dX4_pilot_36 : decode cX4_pilot 36 = .ok (.dup, 1) := by decide +kernel
theorem dX4_pilot_37 : decode cX4_pilot 37 = .ok (.iload_n 3, 1) := by decide +kernel
theorem dX4_pilot_38 : decode cX4_pilot 38 = .ok (.iload_n 1, 1) := by decide +kernel
theorem dX4_pilot_39 : decode cX4_pilot 39 = .ok (.iload_n 2, 1) := by decide +kernel
theorem dX4_pilot_40 : decode cX4_pilot 40 = .ok (.invokespecial 62, 3) := by decide +kernel
theorem dX4_pilot_43 : decode cX4_pilot 43 = .ok (.invokevirtual 56, 3) := by decide +kernel
theorem dX4_pilot_46 : decode cX4_pilot 46 = .ok (.pop, 1) := by decide +kernel
theorem dX4_pilot_47 : decode cX4_pilot 47 = .ok (.iload_n 3, 1) := by decide +kernel
theorem dX4_pilot_48 : decode cX4_pilot 48 = .ok (.ireturn, 1) := by decide +kernel
theorem dX4_call_0 : decode cX4_call 0 = .ok (.aload_n 0, 1) := by decide +kernel
theorem dX4_call_1 : decode cX4_call 1 = .ok (.iload_n 1, 1) := by decide +kernel
theorem dX4_call_2 : decode cX4_call 2 = .ok (.invokevirtual 64, 3) := by decide +kernel
theorem dX4_call_5 : decode cX4_call 5 = .ok (.astore_n 3, 1) := by decide +kernel
theorem dX4_call_6 : decode cX4_call 6 = .ok (.iload_n 2, 1) := by decide +kernel
theorem dX4_call_7 : decode cX4_call 7 = .ok (.aload_n 0, 1) := by decide +kernel
theorem dX4_call_8 : decode cX4_call 8 = .ok (.getfield 68, 3) := by decide +kernel
theorem dX4_call_11 : decode cX4_call 11 = .ok (.sipush 20000, 3) := by decide +kernel
theorem dX4_call_14 : decode cX4_call 14 = .ok (.invokestatic 33, 3) := by decide +kernel
theorem dX4_call_17 : decode cX4_call 17 = .ok (.aload_n 0, 1) := by decide +kernel
theorem dX4_call_18 : decode cX4_call 18 = .ok (.getfield 26, 3) := by decide +kernel
theorem dX4_call_21 : decode cX4_call 21 = .ok (.invokevirtual 43, 3) := by decide +kernel
theorem dX4_call_24 : decode cX4_call 24 = .ok (.istore 4, 2) := by decide +kernel
theorem dX4_call_26 : decode cX4_call 26 = .ok (.iload 4, 2) := by decide +kernel
theorem dX4_call_28 : decode cX4_call 28 = .ok (.bipush 40, 2) := by decide +kernel
theorem dX4_call_30 : decode cX4_call 30 = .ok (.invokestatic 47, 3) := by decide +kernel
theorem dX4_call_33 : decode cX4_call 33 = .ok (.aload_n 0, 1) := by decide +kernel
theorem dX4_call_34 : decode cX4_call 34 = .ok (.getfield 26, 3) := by decide +kernel
theorem dX4_call_37 : decode cX4_call 37 = .ok (.new 71, 3) := by decide +kernel
theorem dX4_call_40 : decode cX4_call 40 = .ok (.dup, 1) := by decide +kernel
theorem dX4_call_41 : decode cX4_call 41 = .ok (.aload_n 3, 1) := by decide +kernel
theorem dX4_call_42 : decode cX4_call 42 = .ok (.iload_n 2, 1) := by decide +kernel
theorem dX4_call_43 : decode cX4_call 43 = .ok (.invokespecial 73, 3) := by decide +kernel
theorem dX4_call_46 : decode cX4_call 46 = .ok (.invokevirtual 56, 3) := by decide +kernel
theorem dX4_call_49 : decode cX4_call 49 = .ok (.pop, 1) := by decide +kernel
theorem dX4_call_50 : decode cX4_call 50 = .ok (.iload 4, 2) := by decide +kernel
theorem dX4_call_52 : decode cX4_call 52 = .ok (.ireturn, 1) := by decide +kernel
theorem dX4_join_0 : decode cX4_join 0 = .ok (.aload_n 0, 1) := by decide +kernel
theorem dX4_join_1 : decode cX4_join 1 = .ok (.iload_n 1, 1) := by decide +kernel
theorem dX4_join_2 : decode cX4_join 2 = .ok (.invokevirtual 76, 3) := by decide +kernel
theorem dX4_join_5 : decode cX4_join 5 = .ok (.astore 4, 2) := by decide +kernel
theorem dX4_join_7 : decode cX4_join 7 = .ok (.iload_n 2, 1) := by decide +kernel
theorem dX4_join_8 : decode cX4_join 8 = .ok (.invokestatic 80, 3) := by decide +kernel
theorem dX4_join_11 : decode cX4_join 11 = .ok (.iload_n 2, 1) := by decide +kernel
theorem dX4_join_12 : decode cX4_join 12 = .ok (.iconst 2, 1) := by decide +kernel
theorem dX4_join_13 : decode cX4_join 13 = .ok (.if_icmp .ne 11, 3) := by decide +kernel
theorem dX4_join_16 : decode cX4_join 16 = .ok (.aload_n 0, 1) := by decide +kernel
theorem dX4_join_17 : decode cX4_join 17 = .ok (.iload_n 3, 1) := by decide +kernel
theorem dX4_join_18 : decode cX4_join 18 = .ok (.invokevirtual 84, 3) := by decide +kernel
theorem dX4_join_21 : decode cX4_join 21 = .ok (.goto 4, 3) := by decide +kernel
theorem dX4_join_24 : decode cX4_join 24 = .ok (.aconst_null, 1) := by decide +kernel
theorem dX4_join_25 : decode cX4_join 25 = .ok (.astore 5, 2) := by decide +kernel
theorem dX4_join_27 : decode cX4_join 27 = .ok (.aload 4, 2) := by decide +kernel
theorem dX4_join_29 : decode cX4_join 29 = .ok (.iload_n 2, 1) := by decide +kernel
theorem dX4_join_30 : decode cX4_join 30 = .ok (.invokevirtual 88, 3) := by decide +kernel
theorem dX4_join_33 : decode cX4_join 33 = .ok (.ifCond .eq 13, 3) := by decide +kernel
theorem dX4_join_36 : decode cX4_join 36 = .ok (.new 92, 3) := by decide +kernel
theorem dX4_join_39 : decode cX4_join 39 = .ok (.dup, 1) := by decide +kernel
theorem dX4_join_40 : decode cX4_join 40 = .ok (.ldc 94, 2) := by decide +kernel
theorem dX4_join_42 : decode cX4_join 42 = .ok (.invokespecial 96, 3) := by decide +kernel
theorem dX4_join_45 : decode cX4_join 45 = .ok (.athrow, 1) := by decide +kernel
theorem dX4_join_46 : decode cX4_join 46 = .ok (.aload 5, 2) := by decide +kernel
theorem dX4_join_48 : decode cX4_join 48 = .ok (.ifnull 29, 3) := by decide +kernel
theorem dX4_join_51 : decode cX4_join 51 = .ok (.aload 5, 2) := by decide +kernel
theorem dX4_join_53 : decode cX4_join 53 = .ok (.getfield 99, 3) := by decide +kernel
theorem dX4_join_56 : decode cX4_join 56 = .ok (.aload 4, 2) := by decide +kernel
theorem dX4_join_58 : decode cX4_join 58 = .ok (.getfield 102, 3) := by decide +kernel
theorem dX4_join_61 : decode cX4_join 61 = .ok (.getfield 106, 3) := by decide +kernel
theorem dX4_join_64 : decode cX4_join 64 = .ok (.if_icmp .ge 13, 3) := by decide +kernel
theorem dX4_join_67 : decode cX4_join 67 = .ok (.new 92, 3) := by decide +kernel
theorem dX4_join_70 : decode cX4_join 70 = .ok (.dup, 1) := by decide +kernel
theorem dX4_join_71 : decode cX4_join 71 = .ok (.ldc 109, 2) := by decide +kernel
theorem dX4_join_73 : decode cX4_join 73 = .ok (.invokespecial 96, 3) := by decide +kernel
theorem dX4_join_76 : decode cX4_join 76 = .ok (.athrow, 1) := by decide +kernel
theorem dX4_join_77 : decode cX4_join 77 = .ok (.aload 4, 2) := by decide +kernel
theorem dX4_join_79 : decode cX4_join 79 = .ok (.iload_n 2, 1) := by decide +kernel
theorem dX4_join_80 : decode cX4_join 80 = .ok (.aload 5, 2) := by decide +kernel
theorem dX4_join_82 : decode cX4_join 82 = .ok (.invokevirtual 111, 3) := by decide +kernel
theorem dX4_join_85 : decode cX4_join 85 = .ok (.aload 4, 2) := by decide +kernel
theorem dX4_join_87 : decode cX4_join 87 = .ok (.invokevirtual 115, 3) := by decide +kernel
theorem dX4_join_90 : decode cX4_join 90 = .ok (.iconst 3, 1) := by decide +kernel
theorem dX4_join_91 : decode cX4_join 91 = .ok (.if_icmp .ne 9, 3) := by decide +kernel
theorem dX4_join_94 : decode cX4_join 94 = .ok (.aload_n 0, 1) := by decide +kernel
theorem dX4_join_95 : decode cX4_join 95 = .ok (.aload 4, 2) := by decide +kernel
theorem dX4_join_97 : decode cX4_join 97 = .ok (.invokevirtual 118, 3) := by decide +kernel
theorem dX4_join_100 : decode cX4_join 100 = .ok (.aload 4, 2) := by decide +kernel
theorem dX4_join_102 : decode cX4_join 102 = .ok (.getfield 122, 3) := by decide +kernel
theorem dX4_join_105 : decode cX4_join 105 = .ok (.ireturn, 1) := by decide +kernel
theorem dX4_again_0 : decode cX4_again 0 = .ok (.aload_n 0, 1) := by decide +kernel
theorem dX4_again_1 : decode cX4_again 1 = .ok (.iload_n 1, 1) := by decide +kernel
theorem dX4_again_2 : decode cX4_again 2 = .ok (.invokevirtual 76, 3) := by decide +kernel
theorem dX4_again_5 : decode cX4_again 5 = .ok (.astore_n 2, 1) := by decide +kernel
theorem dX4_again_6 : decode cX4_again 6 = .ok (.aload_n 2, 1) := by decide +kernel
theorem dX4_again_7 : decode cX4_again 7 = .ok (.getfield 125, 3) := by decide +kernel
theorem dX4_again_10 : decode cX4_again 10 = .ok (.iconst 1, 1) := by decide +kernel
theorem dX4_again_11 : decode cX4_again 11 = .ok (.if_icmp .eq 13, 3) := by decide +kernel
theorem dX4_again_14 : decode cX4_again 14 = .ok (.new 92, 3) := by decide +kernel
theorem dX4_again_17 : decode cX4_again 17 = .ok (.dup, 1) := by decide +kernel
theorem dX4_again_18 : decode cX4_again 18 = .ok (.ldc 128, 2) := by decide +kernel
theorem dX4_again_20 : decode cX4_again 20 = .ok (.invokespecial 96, 3) := by decide +kernel
theorem dX4_again_23 : decode cX4_again 23 = .ok (.athrow, 1) := by decide +kernel
theorem dX4_again_24 : decode cX4_again 24 = .ok (.aload_n 0, 1) := by decide +kernel
theorem dX4_again_25 : decode cX4_again 25 = .ok (.aload_n 2, 1) := by decide +kernel
theorem dX4_again_26 : decode cX4_again 26 = .ok (.invokevirtual 118, 3) := by decide +kernel
theorem dX4_again_29 : decode cX4_again 29 = .ok (.aload_n 2, 1) := by decide +kernel
theorem dX4_again_30 : decode cX4_again 30 = .ok (.getfield 122, 3) := by decide +kernel
theorem dX4_again_33 : decode cX4_again 33 = .ok (.ireturn, 1) := by decide +kernel
theorem dX4_drop_0 : decode cX4_drop 0 = .ok (.aload_n 0, 1) := by decide +kernel
theorem dX4_drop_1 : decode cX4_drop 1 = .ok (.iload_n 1, 1) := by decide +kernel
theorem dX4_drop_2 : decode cX4_drop 2 = .ok (.invokevirtual 76, 3) := by decide +kernel
theorem dX4_drop_5 : decode cX4_drop 5 = .ok (.astore_n 3, 1) := by decide +kernel
theorem dX4_drop_6 : decode cX4_drop 6 = .ok (.iload_n 2, 1) := by decide +kernel
theorem dX4_drop_7 : decode cX4_drop 7 = .ok (.invokestatic 80, 3) := by decide +kernel
theorem dX4_drop_10 : decode cX4_drop 10 = .ok (.aload_n 3, 1) := by decide +kernel
theorem dX4_drop_11 : decode cX4_drop 11 = .ok (.iload_n 2, 1) := by decide +kernel
theorem dX4_drop_12 : decode cX4_drop 12 = .ok (.invokevirtual 88, 3) := by decide +kernel
theorem dX4_drop_15 : decode cX4_drop 15 = .ok (.ifCond .ne 13, 3) := by decide +kernel
theorem dX4_drop_18 : decode cX4_drop 18 = .ok (.new 92, 3) := by decide +kernel
theorem dX4_drop_21 : decode cX4_drop 21 = .ok (.dup, 1) := by decide +kernel
theorem dX4_drop_22 : decode cX4_drop 22 = .ok (.ldc 130, 2) := by decide +kernel
theorem dX4_drop_24 : decode cX4_drop 24 = .ok (.invokespecial 96, 3) := by decide +kernel
theorem dX4_drop_27 : decode cX4_drop 27 = .ok (.athrow, 1) := by decide +kernel
theorem dX4_drop_28 : decode cX4_drop 28 = .ok (.aload_n 3, 1) := by decide +kernel
theorem dX4_drop_29 : decode cX4_drop 29 = .ok (.getfield 125, 3) := by decide +kernel
theorem dX4_drop_32 : decode cX4_drop 32 = .ok (.iconst 3, 1) := by decide +kernel
theorem dX4_drop_33 : decode cX4_drop 33 = .ok (.if_icmp .eq 11, 3) := by decide +kernel
theorem dX4_drop_36 : decode cX4_drop 36 = .ok (.aload_n 3, 1) := by decide +kernel
theorem dX4_drop_37 : decode cX4_drop 37 = .ok (.getfield 125, 3) := by decide +kernel
theorem dX4_drop_40 : decode cX4_drop 40 = .ok (.iconst 4, 1) := by decide +kernel
theorem dX4_drop_41 : decode cX4_drop 41 = .ok (.if_icmp .ne 13, 3) := by decide +kernel
theorem dX4_drop_44 : decode cX4_drop 44 = .ok (.new 92, 3) := by decide +kernel
theorem dX4_drop_47 : decode cX4_drop 47 = .ok (.dup, 1) := by decide +kernel
theorem dX4_drop_48 : decode cX4_drop 48 = .ok (.ldc 132, 2) := by decide +kernel
theorem dX4_drop_50 : decode cX4_drop 50 = .ok (.invokespecial 96, 3) := by decide +kernel
theorem dX4_drop_53 : decode cX4_drop 53 = .ok (.athrow, 1) := by decide +kernel
theorem dX4_drop_54 : decode cX4_drop 54 = .ok (.aload_n 3, 1) := by decide +kernel
theorem dX4_drop_55 : decode cX4_drop 55 = .ok (.getfield 122, 3) := by decide +kernel
theorem dX4_drop_58 : decode cX4_drop 58 = .ok (.iconst (-1), 1) := by decide +kernel
theorem dX4_drop_59 : decode cX4_drop 59 = .ok (.if_icmp .eq 7, 3) := by decide +kernel
theorem dX4_drop_62 : decode cX4_drop 62 = .ok (.iconst 1, 1) := by decide +kernel
theorem dX4_drop_63 : decode cX4_drop 63 = .ok (.goto 4, 3) := by decide +kernel
theorem dX4_drop_66 : decode cX4_drop 66 = .ok (.iconst 0, 1) := by decide +kernel
theorem dX4_drop_67 : decode cX4_drop 67 = .ok (.istore 4, 2) := by decide +kernel
theorem dX4_drop_69 : decode cX4_drop 69 = .ok (.aload_n 3, 1) := by decide +kernel
theorem dX4_drop_70 : decode cX4_drop 70 = .ok (.iload_n 2, 1) := by decide +kernel
theorem dX4_drop_71 : decode cX4_drop 71 = .ok (.invokevirtual 134, 3) := by decide +kernel
theorem dX4_drop_74 : decode cX4_drop 74 = .ok (.iload 4, 2) := by decide +kernel
theorem dX4_drop_76 : decode cX4_drop 76 = .ok (.ifCond .eq 10, 3) := by decide +kernel
theorem dX4_drop_79 : decode cX4_drop 79 = .ok (.aload_n 0, 1) := by decide +kernel
theorem dX4_drop_80 : decode cX4_drop 80 = .ok (.invokevirtual 137, 3) := by decide +kernel
theorem dX4_drop_83 : decode cX4_drop 83 = .ok (.goto 4, 3) := by decide +kernel
theorem dX4_drop_86 : decode cX4_drop 86 = .ok (.iconst 0, 1) := by decide +kernel
theorem dX4_drop_87 : decode cX4_drop 87 = .ok (.istore 5, 2) := by decide +kernel
theorem dX4_drop_89 : decode cX4_drop 89 = .ok (.aload_n 0, 1) := by decide +kernel
theorem dX4_drop_90 : decode cX4_drop 90 = .ok (.dup, 1) := by decide +kernel
theorem dX4_drop_91 : decode cX4_drop 91 = .ok (.getfield 140, 3) := by decide +kernel
theorem dX4_drop_94 : decode cX4_drop 94 = .ok (.iload 5, 2) := by decide +kernel
theorem dX4_drop_96 : decode cX4_drop 96 = .ok (.iadd, 1) := by decide +kernel
theorem dX4_drop_97 : decode cX4_drop 97 = .ok (.putfield 140, 3) := by decide +kernel
theorem dX4_drop_100 : decode cX4_drop 100 = .ok (.iload 5, 2) := by decide +kernel
theorem dX4_drop_102 : decode cX4_drop 102 = .ok (.ireturn, 1) := by decide +kernel
theorem dX4_pass_0 : decode cX4_pass 0 = .ok (.iload_n 1, 1) := by decide +kernel
theorem dX4_pass_1 : decode cX4_pass 1 = .ok (.iconst 1, 1) := by decide +kernel
theorem dX4_pass_2 : decode cX4_pass 2 = .ok (.sipush 2000, 3) := by decide +kernel
theorem dX4_pass_5 : decode cX4_pass 5 = .ok (.invokestatic 33, 3) := by decide +kernel
theorem dX4_pass_8 : decode cX4_pass 8 = .ok (.aload_n 0, 1) := by decide +kernel
theorem dX4_pass_9 : decode cX4_pass 9 = .ok (.getfield 68, 3) := by decide +kernel
theorem dX4_pass_12 : decode cX4_pass 12 = .ok (.iload_n 1, 1) := by decide +kernel
theorem dX4_pass_13 : decode cX4_pass 13 = .ok (.iadd, 1) := by decide +kernel
theorem dX4_pass_14 : decode cX4_pass 14 = .ok (.sipush 20000, 3) := by decide +kernel
theorem dX4_pass_17 : decode cX4_pass 17 = .ok (.if_icmp .le 13, 3) := by decide +kernel
theorem dX4_pass_20 : decode cX4_pass 20 = .ok (.new 92, 3) := by decide +kernel
theorem dX4_pass_23 : decode cX4_pass 23 = .ok (.dup, 1) := by decide +kernel
theorem dX4_pass_24 : decode cX4_pass 24 = .ok (.ldc 143, 2) := by decide +kernel
theorem dX4_pass_26 : decode cX4_pass 26 = .ok (.invokespecial 96, 3) := by decide +kernel
theorem dX4_pass_29 : decode cX4_pass 29 = .ok (.athrow, 1) := by decide +kernel
theorem dX4_pass_30 : decode cX4_pass 30 = .ok (.aload_n 0, 1) := by decide +kernel
theorem dX4_pass_31 : decode cX4_pass 31 = .ok (.dup, 1) := by decide +kernel
theorem dX4_pass_32 : decode cX4_pass 32 = .ok (.getfield 68, 3) := by decide +kernel
theorem dX4_pass_35 : decode cX4_pass 35 = .ok (.iload_n 1, 1) := by decide +kernel
theorem dX4_pass_36 : decode cX4_pass 36 = .ok (.iadd, 1) := by decide +kernel
theorem dX4_pass_37 : decode cX4_pass 37 = .ok (.putfield 68, 3) := by decide +kernel
theorem dX4_pass_40 : decode cX4_pass 40 = .ok (.iconst 0, 1) := by decide +kernel
theorem dX4_pass_41 : decode cX4_pass 41 = .ok (.istore_n 2, 1) := by decide +kernel
theorem dX4_pass_42 : decode cX4_pass 42 = .ok (.iconst 0, 1) := by decide +kernel
theorem dX4_pass_43 : decode cX4_pass 43 = .ok (.istore_n 3, 1) := by decide +kernel
theorem dX4_pass_44 : decode cX4_pass 44 = .ok (.iload_n 3, 1) := by decide +kernel
theorem dX4_pass_45 : decode cX4_pass 45 = .ok (.aload_n 0, 1) := by decide +kernel
theorem dX4_pass_46 : decode cX4_pass 46 = .ok (.getfield 26, 3) := by decide +kernel
theorem dX4_pass_49 : decode cX4_pass 49 = .ok (.invokevirtual 43, 3) := by decide +kernel
theorem dX4_pass_52 : decode cX4_pass 52 = .ok (.if_icmp .ge 30, 3) := by decide +kernel
theorem dX4_pass_55 : decode cX4_pass 55 = .ok (.aload_n 0, 1) := by decide +kernel
theorem dX4_pass_56 : decode cX4_pass 56 = .ok (.aload_n 0, 1) := by decide +kernel
theorem dX4_pass_57 : decode cX4_pass 57 = .ok (.getfield 26, 3) := by decide +kernel
theorem dX4_pass_60 : decode cX4_pass 60 = .ok (.iload_n 3, 1) := by decide +kernel
theorem dX4_pass_61 : decode cX4_pass 61 = .ok (.invokevirtual 145, 3) := by decide +kernel
theorem dX4_pass_64 : decode cX4_pass 64 = .ok (.checkcast 71, 3) := by decide +kernel
theorem dX4_pass_67 : decode cX4_pass 67 = .ok (.invokevirtual 149, 3) := by decide +kernel
theorem dX4_pass_70 : decode cX4_pass 70 = .ok (.ifCond .eq 6, 3) := by decide +kernel
theorem dX4_pass_73 : decode cX4_pass 73 = .ok (.iinc 2 1, 3) := by decide +kernel
theorem dX4_pass_76 : decode cX4_pass 76 = .ok (.iinc 3 1, 3) := by decide +kernel
theorem dX4_pass_79 : decode cX4_pass 79 = .ok (.goto (-35), 3) := by decide +kernel
theorem dX4_pass_82 : decode cX4_pass 82 = .ok (.iload_n 2, 1) := by decide +kernel
theorem dX4_pass_83 : decode cX4_pass 83 = .ok (.ireturn, 1) := by decide +kernel
theorem dX4_minute_0 : decode cX4_minute 0 = .ok (.aload_n 0, 1) := by decide +kernel
theorem dX4_minute_1 : decode cX4_minute 1 = .ok (.getfield 68, 3) := by decide +kernel
theorem dX4_minute_4 : decode cX4_minute 4 = .ok (.ireturn, 1) := by decide +kernel
theorem dX4_level_0 : decode cX4_level 0 = .ok (.iload_n 1, 1) := by decide +kernel
theorem dX4_level_1 : decode cX4_level 1 = .ok (.iconst 0, 1) := by decide +kernel
theorem dX4_level_2 : decode cX4_level 2 = .ok (.sipush 30000, 3) := by decide +kernel
theorem dX4_level_5 : decode cX4_level 5 = .ok (.invokestatic 33, 3) := by decide +kernel
theorem dX4_level_8 : decode cX4_level 8 = .ok (.aload_n 0, 1) := by decide +kernel
theorem dX4_level_9 : decode cX4_level 9 = .ok (.getfield 10, 3) := by decide +kernel
theorem dX4_level_12 : decode cX4_level 12 = .ok (.iload_n 1, 1) := by decide +kernel
theorem dX4_level_13 : decode cX4_level 13 = .ok (.invokevirtual 153, 3) := by decide +kernel
theorem dX4_level_16 : decode cX4_level 16 = .ok (.ireturn, 1) := by decide +kernel
theorem dX4_window_0 : decode cX4_window 0 = .ok (.aload_n 0, 1) := by decide +kernel
theorem dX4_window_1 : decode cX4_window 1 = .ok (.iload_n 1, 1) := by decide +kernel
theorem dX4_window_2 : decode cX4_window 2 = .ok (.invokevirtual 64, 3) := by decide +kernel
theorem dX4_window_5 : decode cX4_window 5 = .ok (.astore_n 3, 1) := by decide +kernel
theorem dX4_window_6 : decode cX4_window 6 = .ok (.iload_n 2, 1) := by decide +kernel
theorem dX4_window_7 : decode cX4_window 7 = .ok (.iconst 0, 1) := by decide +kernel
theorem dX4_window_8 : decode cX4_window 8 = .ok (.sipush 20000, 3) := by decide +kernel
theorem dX4_window_11 : decode cX4_window 11 = .ok (.invokestatic 33, 3) := by decide +kernel
theorem dX4_window_14 : decode cX4_window 14 = .ok (.iload_n 2, 1) := by decide +kernel
theorem dX4_window_15 : decode cX4_window 15 = .ok (.sipush 1440, 3) := by decide +kernel
theorem dX4_window_18 : decode cX4_window 18 = .ok (.iadd, 1) := by decide +kernel
theorem dX4_window_19 : decode cX4_window 19 = .ok (.istore 4, 2) := by decide +kernel
theorem dX4_window_21 : decode cX4_window 21 = .ok (.iload_n 2, 1) := by decide +kernel
theorem dX4_window_22 : decode cX4_window 22 = .ok (.istore 5, 2) := by decide +kernel
theorem dX4_window_24 : decode cX4_window 24 = .ok (.iload 5, 2) := by decide +kernel
theorem dX4_window_26 : decode cX4_window 26 = .ok (.iload 4, 2) := by decide +kernel
theorem dX4_window_28 : decode cX4_window 28 = .ok (.if_icmp .gt 39, 3) := by decide +kernel
theorem dX4_window_31 : decode cX4_window 31 = .ok (.aload_n 0, 1) := by decide +kernel
theorem dX4_window_32 : decode cX4_window 32 = .ok (.getfield 10, 3) := by decide +kernel
theorem dX4_window_35 : decode cX4_window 35 = .ok (.aload_n 3, 1) := by decide +kernel
theorem dX4_window_36 : decode cX4_window 36 = .ok (.iload 5, 2) := by decide +kernel
theorem dX4_window_38 : decode cX4_window 38 = .ok (.invokevirtual 157, 3) := by decide +kernel
theorem dX4_window_41 : decode cX4_window 41 = .ok (.istore 6, 2) := by decide +kernel
theorem dX4_window_43 : decode cX4_window 43 = .ok (.iload 6, 2) := by decide +kernel
theorem dX4_window_45 : decode cX4_window 45 = .ok (.iload 5, 2) := by decide +kernel
theorem dX4_window_47 : decode cX4_window 47 = .ok (.if_icmp .ne 6, 3) := by decide +kernel
theorem dX4_window_50 : decode cX4_window 50 = .ok (.iload 5, 2) := by decide +kernel
theorem dX4_window_52 : decode cX4_window 52 = .ok (.ireturn, 1) := by decide +kernel
theorem dX4_window_53 : decode cX4_window 53 = .ok (.iload 5, 2) := by decide +kernel
theorem dX4_window_55 : decode cX4_window 55 = .ok (.iconst 1, 1) := by decide +kernel
theorem dX4_window_56 : decode cX4_window 56 = .ok (.iadd, 1) := by decide +kernel
theorem dX4_window_57 : decode cX4_window 57 = .ok (.iload 6, 2) := by decide +kernel
theorem dX4_window_59 : decode cX4_window 59 = .ok (.invokestatic 161, 3) := by decide +kernel
theorem dX4_window_62 : decode cX4_window 62 = .ok (.istore 5, 2) := by decide +kernel
theorem dX4_window_64 : decode cX4_window 64 = .ok (.goto (-40), 3) := by decide +kernel
theorem dX4_window_67 : decode cX4_window 67 = .ok (.iconst (-1), 1) := by decide +kernel
theorem dX4_window_68 : decode cX4_window 68 = .ok (.ireturn, 1) := by decide +kernel
theorem dX4_ofConference_0 : decode cX4_ofConference 0 = .ok (.aload_n 0, 1) := by decide +kernel
theorem dX4_ofConference_1 : decode cX4_ofConference 1 = .ok (.iload_n 1, 1) := by decide +kernel
theorem dX4_ofConference_2 : decode cX4_ofConference 2 = .ok (.invokevirtual 76, 3) := by decide +kernel
theorem dX4_ofConference_5 : decode cX4_ofConference 5 = .ok (.astore_n 3, 1) := by decide +kernel
theorem dX4_ofConference_6 : decode cX4_ofConference 6 = .ok (.iload_n 2, 1) := by decide +kernel
theorem dX4_ofConference_7 : decode cX4_ofConference 7 = .ok (.tableswitch 75 0 4 #[33, 38, 43, 62, 67], 33) := by decide +kernel
theorem dX4_ofConference_40 : decode cX4_ofConference 40 = .ok (.aload_n 3, 1) := by decide +kernel
theorem dX4_ofConference_41 : decode cX4_ofConference 41 = .ok (.getfield 125, 3) := by decide +kernel
theorem dX4_ofConference_44 : decode cX4_ofConference 44 = .ok (.ireturn, 1) := by decide +kernel
theorem dX4_ofConference_45 : decode cX4_ofConference 45 = .ok (.aload_n 3, 1) := by decide +kernel
theorem dX4_ofConference_46 : decode cX4_ofConference 46 = .ok (.getfield 122, 3) := by decide +kernel
theorem dX4_ofConference_49 : decode cX4_ofConference 49 = .ok (.ireturn, 1) := by decide +kernel
theorem dX4_ofConference_50 : decode cX4_ofConference 50 = .ok (.aload_n 3, 1) := by decide +kernel
theorem dX4_ofConference_51 : decode cX4_ofConference 51 = .ok (.getfield 167, 3) := by decide +kernel
theorem dX4_ofConference_54 : decode cX4_ofConference 54 = .ok (.ifnonnull 7, 3) := by decide +kernel
theorem dX4_ofConference_57 : decode cX4_ofConference 57 = .ok (.iconst (-1), 1) := by decide +kernel
theorem dX4_ofConference_58 : decode cX4_ofConference 58 = .ok (.goto 10, 3) := by decide +kernel
theorem dX4_ofConference_61 : decode cX4_ofConference 61 = .ok (.aload_n 3, 1) := by decide +kernel
theorem dX4_ofConference_62 : decode cX4_ofConference 62 = .ok (.getfield 167, 3) := by decide +kernel
theorem dX4_ofConference_65 : decode cX4_ofConference 65 = .ok (.getfield 171, 3) := by decide +kernel
theorem dX4_ofConference_68 : decode cX4_ofConference 68 = .ok (.ireturn, 1) := by decide +kernel
theorem dX4_ofConference_69 : decode cX4_ofConference 69 = .ok (.aload_n 3, 1) := by decide +kernel
theorem dX4_ofConference_70 : decode cX4_ofConference 70 = .ok (.invokevirtual 115, 3) := by decide +kernel
theorem dX4_ofConference_73 : decode cX4_ofConference 73 = .ok (.ireturn, 1) := by decide +kernel
theorem dX4_ofConference_74 : decode cX4_ofConference 74 = .ok (.aload_n 3, 1) := by decide +kernel
theorem dX4_ofConference_75 : decode cX4_ofConference 75 = .ok (.getfield 102, 3) := by decide +kernel
theorem dX4_ofConference_78 : decode cX4_ofConference 78 = .ok (.getfield 174, 3) := by decide +kernel
theorem dX4_ofConference_81 : decode cX4_ofConference 81 = .ok (.ireturn, 1) := by decide +kernel
theorem dX4_ofConference_82 : decode cX4_ofConference 82 = .ok (.new 175, 3) := by decide +kernel
theorem dX4_ofConference_85 : decode cX4_ofConference 85 = .ok (.dup, 1) := by decide +kernel
theorem dX4_ofConference_86 : decode cX4_ofConference 86 = .ok (.ldc 177, 2) := by decide +kernel
theorem dX4_ofConference_88 : decode cX4_ofConference 88 = .ok (.invokespecial 179, 3) := by decide +kernel
theorem dX4_ofConference_91 : decode cX4_ofConference 91 = .ok (.athrow, 1) := by decide +kernel
theorem dX4_why_0 : decode cX4_why 0 = .ok (.aload_n 0, 1) := by decide +kernel
theorem dX4_why_1 : decode cX4_why 1 = .ok (.iload_n 1, 1) := by decide +kernel
theorem dX4_why_2 : decode cX4_why 2 = .ok (.invokevirtual 76, 3) := by decide +kernel
theorem dX4_why_5 : decode cX4_why 5 = .ok (.astore_n 3, 1) := by decide +kernel
theorem dX4_why_6 : decode cX4_why 6 = .ok (.iload_n 2, 1) := by decide +kernel
theorem dX4_why_7 : decode cX4_why 7 = .ok (.aload_n 0, 1) := by decide +kernel
theorem dX4_why_8 : decode cX4_why 8 = .ok (.getfield 68, 3) := by decide +kernel
theorem dX4_why_11 : decode cX4_why 11 = .ok (.sipush 21440, 3) := by decide +kernel
theorem dX4_why_14 : decode cX4_why 14 = .ok (.invokestatic 33, 3) := by decide +kernel
theorem dX4_why_17 : decode cX4_why 17 = .ok (.aload_n 3, 1) := by decide +kernel
theorem dX4_why_18 : decode cX4_why 18 = .ok (.getfield 167, 3) := by decide +kernel
theorem dX4_why_21 : decode cX4_why 21 = .ok (.ifnonnull 13, 3) := by decide +kernel
theorem dX4_why_24 : decode cX4_why 24 = .ok (.new 92, 3) := by decide +kernel
theorem dX4_why_27 : decode cX4_why 27 = .ok (.dup, 1) := by decide +kernel
theorem dX4_why_28 : decode cX4_why 28 = .ok (.ldc 180, 2) := by decide +kernel
theorem dX4_why_30 : decode cX4_why 30 = .ok (.invokespecial 96, 3) := by decide +kernel
theorem dX4_why_33 : decode cX4_why 33 = .ok (.athrow, 1) := by decide +kernel
theorem dX4_why_34 : decode cX4_why 34 = .ok (.aload_n 0, 1) := by decide +kernel
theorem dX4_why_35 : decode cX4_why 35 = .ok (.getfield 10, 3) := by decide +kernel
theorem dX4_why_38 : decode cX4_why 38 = .ok (.aload_n 3, 1) := by decide +kernel
theorem dX4_why_39 : decode cX4_why 39 = .ok (.getfield 102, 3) := by decide +kernel
theorem dX4_why_42 : decode cX4_why 42 = .ok (.iload_n 2, 1) := by decide +kernel
theorem dX4_why_43 : decode cX4_why 43 = .ok (.invokevirtual 157, 3) := by decide +kernel
theorem dX4_why_46 : decode cX4_why 46 = .ok (.iload_n 2, 1) := by decide +kernel
theorem dX4_why_47 : decode cX4_why 47 = .ok (.if_icmp .eq 5, 3) := by decide +kernel
theorem dX4_why_50 : decode cX4_why 50 = .ok (.iconst 1, 1) := by decide +kernel
theorem dX4_why_51 : decode cX4_why 51 = .ok (.ireturn, 1) := by decide +kernel
theorem dX4_why_52 : decode cX4_why 52 = .ok (.aload_n 0, 1) := by decide +kernel
theorem dX4_why_53 : decode cX4_why 53 = .ok (.aload_n 3, 1) := by decide +kernel
theorem dX4_why_54 : decode cX4_why 54 = .ok (.iload_n 2, 1) := by decide +kernel
theorem dX4_why_55 : decode cX4_why 55 = .ok (.invokevirtual 182, 3) := by decide +kernel
theorem dX4_why_58 : decode cX4_why 58 = .ok (.iload_n 2, 1) := by decide +kernel
theorem dX4_why_59 : decode cX4_why 59 = .ok (.if_icmp .eq 5, 3) := by decide +kernel
theorem dX4_why_62 : decode cX4_why 62 = .ok (.iconst 2, 1) := by decide +kernel
theorem dX4_why_63 : decode cX4_why 63 = .ok (.ireturn, 1) := by decide +kernel
theorem dX4_why_64 : decode cX4_why 64 = .ok (.aload_n 0, 1) := by decide +kernel
theorem dX4_why_65 : decode cX4_why 65 = .ok (.aload_n 3, 1) := by decide +kernel
theorem dX4_why_66 : decode cX4_why 66 = .ok (.iload_n 2, 1) := by decide +kernel
theorem dX4_why_67 : decode cX4_why 67 = .ok (.invokevirtual 186, 3) := by decide +kernel
theorem dX4_why_70 : decode cX4_why 70 = .ok (.iload_n 2, 1) := by decide +kernel
theorem dX4_why_71 : decode cX4_why 71 = .ok (.if_icmp .eq 5, 3) := by decide +kernel
theorem dX4_why_74 : decode cX4_why 74 = .ok (.iconst 3, 1) := by decide +kernel
theorem dX4_why_75 : decode cX4_why 75 = .ok (.ireturn, 1) := by decide +kernel
theorem dX4_why_76 : decode cX4_why 76 = .ok (.aload_n 0, 1) := by decide +kernel
theorem dX4_why_77 : decode cX4_why 77 = .ok (.aload_n 3, 1) := by decide +kernel
theorem dX4_why_78 : decode cX4_why 78 = .ok (.iload_n 2, 1) := by decide +kernel
theorem dX4_why_79 : decode cX4_why 79 = .ok (.invokevirtual 189, 3) := by decide +kernel
theorem dX4_why_82 : decode cX4_why 82 = .ok (.iload_n 2, 1) := by decide +kernel
theorem dX4_why_83 : decode cX4_why 83 = .ok (.if_icmp .eq 7, 3) := by decide +kernel
theorem dX4_why_86 : decode cX4_why 86 = .ok (.iconst 4, 1) := by decide +kernel
theorem dX4_why_87 : decode cX4_why 87 = .ok (.goto 4, 3) := by decide +kernel
theorem dX4_why_90 : decode cX4_why 90 = .ok (.iconst 0, 1) := by decide +kernel
theorem dX4_why_91 : decode cX4_why 91 = .ok (.ireturn, 1) := by decide +kernel
theorem dX4_rested_0 : decode cX4_rested 0 = .ok (.aload_n 0, 1) := by decide +kernel
theorem dX4_rested_1 : decode cX4_rested 1 = .ok (.aload_n 0, 1) := by decide +kernel
theorem dX4_rested_2 : decode cX4_rested 2 = .ok (.iload_n 1, 1) := by decide +kernel
theorem dX4_rested_3 : decode cX4_rested 3 = .ok (.invokevirtual 84, 3) := by decide +kernel
theorem dX4_rested_6 : decode cX4_rested 6 = .ok (.invokevirtual 192, 3) := by decide +kernel
theorem dX4_rested_9 : decode cX4_rested 9 = .ok (.ireturn, 1) := by decide +kernel
theorem dX4_restedAnew_0 : decode cX4_restedAnew 0 = .ok (.aload_n 0, 1) := by decide +kernel
theorem dX4_restedAnew_1 : decode cX4_restedAnew 1 = .ok (.aload_n 0, 1) := by decide +kernel
theorem dX4_restedAnew_2 : decode cX4_restedAnew 2 = .ok (.iload_n 1, 1) := by decide +kernel
theorem dX4_restedAnew_3 : decode cX4_restedAnew 3 = .ok (.invokevirtual 84, 3) := by decide +kernel
theorem dX4_restedAnew_6 : decode cX4_restedAnew 6 = .ok (.invokevirtual 192, 3) := by decide +kernel
theorem dX4_restedAnew_9 : decode cX4_restedAnew 9 = .ok (.ireturn, 1) := by decide +kernel
theorem dX4_bill_0 : decode cX4_bill 0 = .ok (.aload_n 0, 1) := by decide +kernel
theorem dX4_bill_1 : decode cX4_bill 1 = .ok (.iload_n 1, 1) := by decide +kernel
theorem dX4_bill_2 : decode cX4_bill 2 = .ok (.invokevirtual 64, 3) := by decide +kernel
theorem dX4_bill_5 : decode cX4_bill 5 = .ok (.getfield 196, 3) := by decide +kernel
theorem dX4_bill_8 : decode cX4_bill 8 = .ok (.ireturn, 1) := by decide +kernel
theorem dX4_ofPilot_0 : decode cX4_ofPilot 0 = .ok (.aload_n 0, 1) := by decide +kernel
theorem dX4_ofPilot_1 : decode cX4_ofPilot 1 = .ok (.iload_n 1, 1) := by decide +kernel
theorem dX4_ofPilot_2 : decode cX4_ofPilot 2 = .ok (.invokevirtual 84, 3) := by decide +kernel
theorem dX4_ofPilot_5 : decode cX4_ofPilot 5 = .ok (.astore_n 3, 1) := by decide +kernel
theorem dX4_ofPilot_6 : decode cX4_ofPilot 6 = .ok (.iload_n 2, 1) := by decide +kernel
theorem dX4_ofPilot_7 : decode cX4_ofPilot 7 = .ok (.tableswitch 63 0 3 #[29, 34, 39, 53], 29) := by decide +kernel
theorem dX4_ofPilot_36 : decode cX4_ofPilot 36 = .ok (.aload_n 3, 1) := by decide +kernel
theorem dX4_ofPilot_37 : decode cX4_ofPilot 37 = .ok (.getfield 199, 3) := by decide +kernel
theorem dX4_ofPilot_40 : decode cX4_ofPilot 40 = .ok (.ireturn, 1) := by decide +kernel
theorem dX4_ofPilot_41 : decode cX4_ofPilot 41 = .ok (.aload_n 3, 1) := by decide +kernel
theorem dX4_ofPilot_42 : decode cX4_ofPilot 42 = .ok (.getfield 202, 3) := by decide +kernel
theorem dX4_ofPilot_45 : decode cX4_ofPilot 45 = .ok (.ireturn, 1) := by decide +kernel
theorem dX4_ofPilot_46 : decode cX4_ofPilot 46 = .ok (.aload_n 0, 1) := by decide +kernel
theorem dX4_ofPilot_47 : decode cX4_ofPilot 47 = .ok (.aload_n 3, 1) := by decide +kernel
theorem dX4_ofPilot_48 : decode cX4_ofPilot 48 = .ok (.invokevirtual 205, 3) := by decide +kernel
theorem dX4_ofPilot_51 : decode cX4_ofPilot 51 = .ok (.ifCond .eq 7, 3) := by decide +kernel
theorem dX4_ofPilot_54 : decode cX4_ofPilot 54 = .ok (.iconst 1, 1) := by decide +kernel
theorem dX4_ofPilot_55 : decode cX4_ofPilot 55 = .ok (.goto 4, 3) := by decide +kernel
theorem dX4_ofPilot_58 : decode cX4_ofPilot 58 = .ok (.iconst 0, 1) := by decide +kernel
theorem dX4_ofPilot_59 : decode cX4_ofPilot 59 = .ok (.ireturn, 1) := by decide +kernel
theorem dX4_ofPilot_60 : decode cX4_ofPilot 60 = .ok (.aload_n 3, 1) := by decide +kernel
theorem dX4_ofPilot_61 : decode cX4_ofPilot 61 = .ok (.getfield 202, 3) := by decide +kernel
theorem dX4_ofPilot_64 : decode cX4_ofPilot 64 = .ok (.aload_n 3, 1) := by decide +kernel
theorem dX4_ofPilot_65 : decode cX4_ofPilot 65 = .ok (.getfield 209, 3) := by decide +kernel
theorem dX4_ofPilot_68 : decode cX4_ofPilot 68 = .ok (.imul, 1) := by decide +kernel
theorem dX4_ofPilot_69 : decode cX4_ofPilot 69 = .ok (.ireturn, 1) := by decide +kernel
theorem dX4_ofPilot_70 : decode cX4_ofPilot 70 = .ok (.new 175, 3) := by decide +kernel
theorem dX4_ofPilot_73 : decode cX4_ofPilot 73 = .ok (.dup, 1) := by decide +kernel
theorem dX4_ofPilot_74 : decode cX4_ofPilot 74 = .ok (.ldc 177, 2) := by decide +kernel
theorem dX4_ofPilot_76 : decode cX4_ofPilot 76 = .ok (.invokespecial 179, 3) := by decide +kernel
theorem dX4_ofPilot_79 : decode cX4_ofPilot 79 = .ok (.athrow, 1) := by decide +kernel
theorem dX4_count_0 : decode cX4_count 0 = .ok (.iload_n 1, 1) := by decide +kernel
theorem dX4_count_1 : decode cX4_count 1 = .ok (.iconst 0, 1) := by decide +kernel
theorem dX4_count_2 : decode cX4_count 2 = .ok (.bipush 7, 2) := by decide +kernel
theorem dX4_count_4 : decode cX4_count 4 = .ok (.invokestatic 33, 3) := by decide +kernel
theorem dX4_count_7 : decode cX4_count 7 = .ok (.iload_n 1, 1) := by decide +kernel
theorem dX4_count_8 : decode cX4_count 8 = .ok (.tableswitch 52 5 7 #[28, 42, 47], 28) := by decide +kernel
theorem dX4_count_36 : decode cX4_count 36 = .ok (.aload_n 0, 1) := by decide +kernel
theorem dX4_count_37 : decode cX4_count 37 = .ok (.aconst_null, 1) := by decide +kernel
theorem dX4_count_38 : decode cX4_count 38 = .ok (.aload_n 0, 1) := by decide +kernel
theorem dX4_count_39 : decode cX4_count 39 = .ok (.getfield 68, 3) := by decide +kernel
theorem dX4_count_42 : decode cX4_count 42 = .ok (.aload_n 0, 1) := by decide +kernel
theorem dX4_count_43 : decode cX4_count 43 = .ok (.getfield 68, 3) := by decide +kernel
theorem dX4_count_46 : decode cX4_count 46 = .ok (.invokevirtual 212, 3) := by decide +kernel
theorem dX4_count_49 : decode cX4_count 49 = .ok (.ireturn, 1) := by decide +kernel
theorem dX4_count_50 : decode cX4_count 50 = .ok (.aload_n 0, 1) := by decide +kernel
theorem dX4_count_51 : decode cX4_count 51 = .ok (.invokevirtual 216, 3) := by decide +kernel
theorem dX4_count_54 : decode cX4_count 54 = .ok (.ireturn, 1) := by decide +kernel
theorem dX4_count_55 : decode cX4_count 55 = .ok (.aload_n 0, 1) := by decide +kernel
theorem dX4_count_56 : decode cX4_count 56 = .ok (.getfield 140, 3) := by decide +kernel
theorem dX4_count_59 : decode cX4_count 59 = .ok (.ireturn, 1) := by decide +kernel
theorem dX4_count_60 : decode cX4_count 60 = .ok (.aload_n 0, 1) := by decide +kernel
theorem dX4_count_61 : decode cX4_count 61 = .ok (.iload_n 1, 1) := by decide +kernel
theorem dX4_count_62 : decode cX4_count 62 = .ok (.invokevirtual 219, 3) := by decide +kernel
theorem dX4_count_65 : decode cX4_count 65 = .ok (.ireturn, 1) := by decide +kernel
theorem dX4_demandWithin_0 : decode cX4_demandWithin 0 = .ok (.iload_n 0, 1) := by decide +kernel
theorem dX4_demandWithin_1 : decode cX4_demandWithin 1 = .ok (.iload_n 1, 1) := by decide +kernel
theorem dX4_demandWithin_2 : decode cX4_demandWithin 2 = .ok (.if_icmp .lt 8, 3) := by decide +kernel
theorem dX4_demandWithin_5 : decode cX4_demandWithin 5 = .ok (.iload_n 0, 1) := by decide +kernel
theorem dX4_demandWithin_6 : decode cX4_demandWithin 6 = .ok (.iload_n 2, 1) := by decide +kernel
theorem dX4_demandWithin_7 : decode cX4_demandWithin 7 = .ok (.if_icmp .le 13, 3) := by decide +kernel
theorem dX4_demandWithin_10 : decode cX4_demandWithin 10 = .ok (.new 222, 3) := by decide +kernel
theorem dX4_demandWithin_13 : decode cX4_demandWithin 13 = .ok (.dup, 1) := by decide +kernel
theorem dX4_demandWithin_14 : decode cX4_demandWithin 14 = .ok (.ldc 224, 2) := by decide +kernel
theorem dX4_demandWithin_16 : decode cX4_demandWithin 16 = .ok (.invokespecial 226, 3) := by decide +kernel
theorem dX4_demandWithin_19 : decode cX4_demandWithin 19 = .ok (.athrow, 1) := by decide +kernel
theorem dX4_demandWithin_20 : decode cX4_demandWithin 20 = .ok (.return_, 1) := by decide +kernel
theorem dX4_demandRoom_0 : decode cX4_demandRoom 0 = .ok (.iload_n 0, 1) := by decide +kernel
theorem dX4_demandRoom_1 : decode cX4_demandRoom 1 = .ok (.iload_n 1, 1) := by decide +kernel
theorem dX4_demandRoom_2 : decode cX4_demandRoom 2 = .ok (.if_icmp .lt 13, 3) := by decide +kernel
theorem dX4_demandRoom_5 : decode cX4_demandRoom 5 = .ok (.new 92, 3) := by decide +kernel
theorem dX4_demandRoom_8 : decode cX4_demandRoom 8 = .ok (.dup, 1) := by decide +kernel
theorem dX4_demandRoom_9 : decode cX4_demandRoom 9 = .ok (.ldc 227, 2) := by decide +kernel
theorem dX4_demandRoom_11 : decode cX4_demandRoom 11 = .ok (.invokespecial 96, 3) := by decide +kernel
theorem dX4_demandRoom_14 : decode cX4_demandRoom 14 = .ok (.athrow, 1) := by decide +kernel
theorem dX4_demandRoom_15 : decode cX4_demandRoom 15 = .ok (.return_, 1) := by decide +kernel
theorem dX4_demandWho_0 : decode cX4_demandWho 0 = .ok (.iload_n 0, 1) := by decide +kernel
theorem dX4_demandWho_1 : decode cX4_demandWho 1 = .ok (.ifCond .lt 8, 3) := by decide +kernel
theorem dX4_demandWho_4 : decode cX4_demandWho 4 = .ok (.iload_n 0, 1) := by decide +kernel
theorem dX4_demandWho_5 : decode cX4_demandWho 5 = .ok (.iconst 2, 1) := by decide +kernel
theorem dX4_demandWho_6 : decode cX4_demandWho 6 = .ok (.if_icmp .le 13, 3) := by decide +kernel
theorem dX4_demandWho_9 : decode cX4_demandWho 9 = .ok (.new 175, 3) := by decide +kernel
theorem dX4_demandWho_12 : decode cX4_demandWho 12 = .ok (.dup, 1) := by decide +kernel
theorem dX4_demandWho_13 : decode cX4_demandWho 13 = .ok (.ldc 229, 2) := by decide +kernel
theorem dX4_demandWho_15 : decode cX4_demandWho 15 = .ok (.invokespecial 179, 3) := by decide +kernel
theorem dX4_demandWho_18 : decode cX4_demandWho 18 = .ok (.athrow, 1) := by decide +kernel
theorem dX4_demandWho_19 : decode cX4_demandWho 19 = .ok (.return_, 1) := by decide +kernel
theorem dX4_shipAt_0 : decode cX4_shipAt 0 = .ok (.iload_n 1, 1) := by decide +kernel
theorem dX4_shipAt_1 : decode cX4_shipAt 1 = .ok (.ifCond .lt 14, 3) := by decide +kernel
theorem dX4_shipAt_4 : decode cX4_shipAt 4 = .ok (.iload_n 1, 1) := by decide +kernel
theorem dX4_shipAt_5 : decode cX4_shipAt 5 = .ok (.aload_n 0, 1) := by decide +kernel
theorem dX4_shipAt_6 : decode cX4_shipAt 6 = .ok (.getfield 19, 3) := by decide +kernel
theorem dX4_shipAt_9 : decode cX4_shipAt 9 = .ok (.invokevirtual 43, 3) := by decide +kernel
theorem dX4_shipAt_12 : decode cX4_shipAt 12 = .ok (.if_icmp .lt 13, 3) := by decide +kernel
theorem dX4_shipAt_15 : decode cX4_shipAt 15 = .ok (.new 175, 3) := by decide +kernel
theorem dX4_shipAt_18 : decode cX4_shipAt 18 = .ok (.dup, 1) := by decide +kernel
theorem dX4_shipAt_19 : decode cX4_shipAt 19 = .ok (.ldc 231, 2) := by decide +kernel
theorem dX4_shipAt_21 : decode cX4_shipAt 21 = .ok (.invokespecial 179, 3) := by decide +kernel
theorem dX4_shipAt_24 : decode cX4_shipAt 24 = .ok (.athrow, 1) := by decide +kernel
theorem dX4_shipAt_25 : decode cX4_shipAt 25 = .ok (.aload_n 0, 1) := by decide +kernel
theorem dX4_shipAt_26 : decode cX4_shipAt 26 = .ok (.getfield 19, 3) := by decide +kernel
theorem dX4_shipAt_29 : decode cX4_shipAt 29 = .ok (.iload_n 1, 1) := by decide +kernel
theorem dX4_shipAt_30 : decode cX4_shipAt 30 = .ok (.invokevirtual 145, 3) := by decide +kernel
theorem dX4_shipAt_33 : decode cX4_shipAt 33 = .ok (.checkcast 51, 3) := by decide +kernel
theorem dX4_shipAt_36 : decode cX4_shipAt 36 = .ok (.areturn, 1) := by decide +kernel
theorem dX4_pilotAt_0 : decode cX4_pilotAt 0 = .ok (.iload_n 1, 1) := by decide +kernel
theorem dX4_pilotAt_1 : decode cX4_pilotAt 1 = .ok (.ifCond .lt 14, 3) := by decide +kernel
theorem dX4_pilotAt_4 : decode cX4_pilotAt 4 = .ok (.iload_n 1, 1) := by decide +kernel
theorem dX4_pilotAt_5 : decode cX4_pilotAt 5 = .ok (.aload_n 0, 1) := by decide +kernel
theorem dX4_pilotAt_6 : decode cX4_pilotAt 6 = .ok (.getfield 23, 3) := by decide +kernel
theorem dX4_pilotAt_9 : decode cX4_pilotAt 9 = .ok (.invokevirtual 43, 3) := by decide +kernel
theorem dX4_pilotAt_12 : decode cX4_pilotAt 12 = .ok (.if_icmp .lt 13, 3) := by decide +kernel
theorem dX4_pilotAt_15 : decode cX4_pilotAt 15 = .ok (.new 175, 3) := by decide +kernel
theorem dX4_pilotAt_18 : decode cX4_pilotAt 18 = .ok (.dup, 1) := by decide +kernel
theorem dX4_pilotAt_19 : decode cX4_pilotAt 19 = .ok (.ldc 233, 2) := by decide +kernel
theorem dX4_pilotAt_21 : decode cX4_pilotAt 21 = .ok (.invokespecial 179, 3) := by decide +kernel
theorem dX4_pilotAt_24 : decode cX4_pilotAt 24 = .ok (.athrow, 1) := by decide +kernel
theorem dX4_pilotAt_25 : decode cX4_pilotAt 25 = .ok (.aload_n 0, 1) := by decide +kernel
theorem dX4_pilotAt_26 : decode cX4_pilotAt 26 = .ok (.getfield 23, 3) := by decide +kernel
theorem dX4_pilotAt_29 : decode cX4_pilotAt 29 = .ok (.iload_n 1, 1) := by decide +kernel
theorem dX4_pilotAt_30 : decode cX4_pilotAt 30 = .ok (.invokevirtual 145, 3) := by decide +kernel
theorem dX4_pilotAt_33 : decode cX4_pilotAt 33 = .ok (.checkcast 60, 3) := by decide +kernel
theorem dX4_pilotAt_36 : decode cX4_pilotAt 36 = .ok (.areturn, 1) := by decide +kernel
theorem dX4_conferenceAt_0 : decode cX4_conferenceAt 0 = .ok (.iload_n 1, 1) := by decide +kernel
theorem dX4_conferenceAt_1 : decode cX4_conferenceAt 1 = .ok (.ifCond .lt 14, 3) := by decide +kernel
theorem dX4_conferenceAt_4 : decode cX4_conferenceAt 4 = .ok (.iload_n 1, 1) := by decide +kernel
theorem dX4_conferenceAt_5 : decode cX4_conferenceAt 5 = .ok (.aload_n 0, 1) := by decide +kernel
theorem dX4_conferenceAt_6 : decode cX4_conferenceAt 6 = .ok (.getfield 26, 3) := by decide +kernel
theorem dX4_conferenceAt_9 : decode cX4_conferenceAt 9 = .ok (.invokevirtual 43, 3) := by decide +kernel
theorem dX4_conferenceAt_12 : decode cX4_conferenceAt 12 = .ok (.if_icmp .lt 13, 3) := by decide +kernel
theorem dX4_conferenceAt_15 : decode cX4_conferenceAt 15 = .ok (.new 175, 3) := by decide +kernel
theorem dX4_conferenceAt_18 : decode cX4_conferenceAt 18 = .ok (.dup, 1) := by decide +kernel
theorem dX4_conferenceAt_19 : decode cX4_conferenceAt 19 = .ok (.ldc 235, 2) := by decide +kernel
theorem dX4_conferenceAt_21 : decode cX4_conferenceAt 21 = .ok (.invokespecial 179, 3) := by decide +kernel
theorem dX4_conferenceAt_24 : decode cX4_conferenceAt 24 = .ok (.athrow, 1) := by decide +kernel
theorem dX4_conferenceAt_25 : decode cX4_conferenceAt 25 = .ok (.aload_n 0, 1) := by decide +kernel
theorem dX4_conferenceAt_26 : decode cX4_conferenceAt 26 = .ok (.getfield 26, 3) := by decide +kernel
theorem dX4_conferenceAt_29 : decode cX4_conferenceAt 29 = .ok (.iload_n 1, 1) := by decide +kernel
theorem dX4_conferenceAt_30 : decode cX4_conferenceAt 30 = .ok (.invokevirtual 145, 3) := by decide +kernel
theorem dX4_conferenceAt_33 : decode cX4_conferenceAt 33 = .ok (.checkcast 71, 3) := by decide +kernel
theorem dX4_conferenceAt_36 : decode cX4_conferenceAt 36 = .ok (.areturn, 1) := by decide +kernel
theorem dX4_lookAnew_0 : decode cX4_lookAnew 0 = .ok (.iconst 0, 1) := by decide +kernel
theorem dX4_lookAnew_1 : decode cX4_lookAnew 1 = .ok (.istore_n 1, 1) := by decide +kernel
theorem dX4_lookAnew_2 : decode cX4_lookAnew 2 = .ok (.iconst 0, 1) := by decide +kernel
theorem dX4_lookAnew_3 : decode cX4_lookAnew 3 = .ok (.istore_n 2, 1) := by decide +kernel
theorem dX4_lookAnew_4 : decode cX4_lookAnew 4 = .ok (.iload_n 2, 1) := by decide +kernel
theorem dX4_lookAnew_5 : decode cX4_lookAnew 5 = .ok (.aload_n 0, 1) := by decide +kernel
theorem dX4_lookAnew_6 : decode cX4_lookAnew 6 = .ok (.getfield 26, 3) := by decide +kernel
theorem dX4_lookAnew_9 : decode cX4_lookAnew 9 = .ok (.invokevirtual 43, 3) := by decide +kernel
theorem dX4_lookAnew_12 : decode cX4_lookAnew 12 = .ok (.if_icmp .ge 60, 3) := by decide +kernel
theorem dX4_lookAnew_15 : decode cX4_lookAnew 15 = .ok (.aload_n 0, 1) := by decide +kernel
theorem dX4_lookAnew_16 : decode cX4_lookAnew 16 = .ok (.getfield 26, 3) := by decide +kernel
theorem dX4_lookAnew_19 : decode cX4_lookAnew 19 = .ok (.iload_n 2, 1) := by decide +kernel
theorem dX4_lookAnew_20 : decode cX4_lookAnew 20 = .ok (.invokevirtual 145, 3) := by decide +kernel
theorem dX4_lookAnew_23 : decode cX4_lookAnew 23 = .ok (.checkcast 71, 3) := by decide +kernel
theorem dX4_lookAnew_26 : decode cX4_lookAnew 26 = .ok (.astore_n 3, 1) := by decide +kernel
theorem dX4_lookAnew_27 : decode cX4_lookAnew 27 = .ok (.aload_n 3, 1) := by decide +kernel
theorem dX4_lookAnew_28 : decode cX4_lookAnew 28 = .ok (.getfield 125, 3) := by decide +kernel
theorem dX4_lookAnew_31 : decode cX4_lookAnew 31 = .ok (.iconst 2, 1) := by decide +kernel
theorem dX4_lookAnew_32 : decode cX4_lookAnew 32 = .ok (.if_icmp .eq 11, 3) := by decide +kernel
theorem dX4_lookAnew_35 : decode cX4_lookAnew 35 = .ok (.aload_n 3, 1) := by decide +kernel
theorem dX4_lookAnew_36 : decode cX4_lookAnew 36 = .ok (.getfield 125, 3) := by decide +kernel
theorem dX4_lookAnew_39 : decode cX4_lookAnew 39 = .ok (.iconst 1, 1) := by decide +kernel
theorem dX4_lookAnew_40 : decode cX4_lookAnew 40 = .ok (.if_icmp .ne 26, 3) := by decide +kernel
theorem dX4_lookAnew_43 : decode cX4_lookAnew 43 = .ok (.aload_n 3, 1) := by decide +kernel
theorem dX4_lookAnew_44 : decode cX4_lookAnew 44 = .ok (.getfield 122, 3) := by decide +kernel
theorem dX4_lookAnew_47 : decode cX4_lookAnew 47 = .ok (.istore 4, 2) := by decide +kernel
theorem dX4_lookAnew_49 : decode cX4_lookAnew 49 = .ok (.aload_n 0, 1) := by decide +kernel
theorem dX4_lookAnew_50 : decode cX4_lookAnew 50 = .ok (.aload_n 3, 1) := by decide +kernel
theorem dX4_lookAnew_51 : decode cX4_lookAnew 51 = .ok (.invokevirtual 118, 3) := by decide +kernel
theorem dX4_lookAnew_54 : decode cX4_lookAnew 54 = .ok (.aload_n 3, 1) := by decide +kernel
theorem dX4_lookAnew_55 : decode cX4_lookAnew 55 = .ok (.getfield 122, 3) := by decide +kernel
theorem dX4_lookAnew_58 : decode cX4_lookAnew 58 = .ok (.iload 4, 2) := by decide +kernel
theorem dX4_lookAnew_60 : decode cX4_lookAnew 60 = .ok (.if_icmp .eq 6, 3) := by decide +kernel
theorem dX4_lookAnew_63 : decode cX4_lookAnew 63 = .ok (.iinc 1 1, 3) := by decide +kernel
theorem dX4_lookAnew_66 : decode cX4_lookAnew 66 = .ok (.iinc 2 1, 3) := by decide +kernel
theorem dX4_lookAnew_69 : decode cX4_lookAnew 69 = .ok (.goto (-65), 3) := by decide +kernel
theorem dX4_lookAnew_72 : decode cX4_lookAnew 72 = .ok (.iload_n 1, 1) := by decide +kernel
theorem dX4_lookAnew_73 : decode cX4_lookAnew 73 = .ok (.ireturn, 1) := by decide +kernel
theorem dX4_lookForSlot_0 : decode cX4_lookForSlot 0 = .ok (.aload_n 1, 1) := by decide +kernel
theorem dX4_lookForSlot_1 : decode cX4_lookForSlot 1 = .ok (.aload_n 0, 1) := by decide +kernel
theorem dX4_lookForSlot_2 : decode cX4_lookForSlot 2 = .ok (.aload_n 1, 1) := by decide +kernel
theorem dX4_lookForSlot_3 : decode cX4_lookForSlot 3 = .ok (.invokevirtual 237, 3) := by decide +kernel
theorem dX4_lookForSlot_6 : decode cX4_lookForSlot 6 = .ok (.putfield 122, 3) := by decide +kernel
theorem dX4_lookForSlot_9 : decode cX4_lookForSlot 9 = .ok (.aload_n 1, 1) := by decide +kernel
theorem dX4_lookForSlot_10 : decode cX4_lookForSlot 10 = .ok (.getfield 122, 3) := by decide +kernel
theorem dX4_lookForSlot_13 : decode cX4_lookForSlot 13 = .ok (.iconst (-1), 1) := by decide +kernel
theorem dX4_lookForSlot_14 : decode cX4_lookForSlot 14 = .ok (.if_icmp .ne 11, 3) := by decide +kernel
theorem dX4_lookForSlot_17 : decode cX4_lookForSlot 17 = .ok (.aload_n 1, 1) := by decide +kernel
theorem dX4_lookForSlot_18 : decode cX4_lookForSlot 18 = .ok (.iconst 1, 1) := by decide +kernel
theorem dX4_lookForSlot_19 : decode cX4_lookForSlot 19 = .ok (.putfield 125, 3) := by decide +kernel
theorem dX4_lookForSlot_22 : decode cX4_lookForSlot 22 = .ok (.goto 23, 3) := by decide +kernel
theorem dX4_lookForSlot_25 : decode cX4_lookForSlot 25 = .ok (.aload_n 1, 1) := by decide +kernel
theorem dX4_lookForSlot_26 : decode cX4_lookForSlot 26 = .ok (.aload_n 1, 1) := by decide +kernel
theorem dX4_lookForSlot_27 : decode cX4_lookForSlot 27 = .ok (.getfield 122, 3) := by decide +kernel
theorem dX4_lookForSlot_30 : decode cX4_lookForSlot 30 = .ok (.aload_n 0, 1) := by decide +kernel
theorem dX4_lookForSlot_31 : decode cX4_lookForSlot 31 = .ok (.getfield 68, 3) := by decide +kernel
theorem dX4_lookForSlot_34 : decode cX4_lookForSlot 34 = .ok (.if_icmp .ne 7, 3) := by decide +kernel
theorem dX4_lookForSlot_37 : decode cX4_lookForSlot 37 = .ok (.iconst 3, 1) := by decide +kernel
theorem dX4_lookForSlot_38 : decode cX4_lookForSlot 38 = .ok (.goto 4, 3) := by decide +kernel
theorem dX4_lookForSlot_41 : decode cX4_lookForSlot 41 = .ok (.iconst 2, 1) := by decide +kernel
theorem dX4_lookForSlot_42 : decode cX4_lookForSlot 42 = .ok (.putfield 125, 3) := by decide +kernel
theorem dX4_lookForSlot_45 : decode cX4_lookForSlot 45 = .ok (.return_, 1) := by decide +kernel
theorem dX4_earliestSlot_0 : decode cX4_earliestSlot 0 = .ok (.aload_n 1, 1) := by decide +kernel
theorem dX4_earliestSlot_1 : decode cX4_earliestSlot 1 = .ok (.getfield 241, 3) := by decide +kernel
theorem dX4_earliestSlot_4 : decode cX4_earliestSlot 4 = .ok (.aload_n 0, 1) := by decide +kernel
theorem dX4_earliestSlot_5 : decode cX4_earliestSlot 5 = .ok (.getfield 68, 3) := by decide +kernel
theorem dX4_earliestSlot_8 : decode cX4_earliestSlot 8 = .ok (.invokestatic 161, 3) := by decide +kernel
theorem dX4_earliestSlot_11 : decode cX4_earliestSlot 11 = .ok (.istore_n 2, 1) := by decide +kernel
theorem dX4_earliestSlot_12 : decode cX4_earliestSlot 12 = .ok (.iload_n 2, 1) := by decide +kernel
theorem dX4_earliestSlot_13 : decode cX4_earliestSlot 13 = .ok (.sipush 1440, 3) := by decide +kernel
theorem dX4_earliestSlot_16 : decode cX4_earliestSlot 16 = .ok (.iadd, 1) := by decide +kernel
theorem dX4_earliestSlot_17 : decode cX4_earliestSlot 17 = .ok (.istore_n 3, 1) := by decide +kernel
theorem dX4_earliestSlot_18 : decode cX4_earliestSlot 18 = .ok (.iload_n 2, 1) := by decide +kernel
theorem dX4_earliestSlot_19 : decode cX4_earliestSlot 19 = .ok (.istore 4, 2) := by decide +kernel
theorem dX4_earliestSlot_21 : decode cX4_earliestSlot 21 = .ok (.iload 4, 2) := by decide +kernel
theorem dX4_earliestSlot_23 : decode cX4_earliestSlot 23 = .ok (.iload_n 3, 1) := by decide +kernel
theorem dX4_earliestSlot_24 : decode cX4_earliestSlot 24 = .ok (.if_icmp .gt 69, 3) := by decide +kernel
theorem dX4_earliestSlot_27 : decode cX4_earliestSlot 27 = .ok (.aload_n 0, 1) := by decide +kernel
theorem dX4_earliestSlot_28 : decode cX4_earliestSlot 28 = .ok (.getfield 10, 3) := by decide +kernel
theorem dX4_earliestSlot_31 : decode cX4_earliestSlot 31 = .ok (.aload_n 1, 1) := by decide +kernel
theorem dX4_earliestSlot_32 : decode cX4_earliestSlot 32 = .ok (.getfield 102, 3) := by decide +kernel
theorem dX4_earliestSlot_35 : decode cX4_earliestSlot 35 = .ok (.iload 4, 2) := by decide +kernel
theorem dX4_earliestSlot_37 : decode cX4_earliestSlot 37 = .ok (.invokevirtual 157, 3) := by decide +kernel
theorem dX4_earliestSlot_40 : decode cX4_earliestSlot 40 = .ok (.istore 5, 2) := by decide +kernel
theorem dX4_earliestSlot_42 : decode cX4_earliestSlot 42 = .ok (.aload_n 0, 1) := by decide +kernel
theorem dX4_earliestSlot_43 : decode cX4_earliestSlot 43 = .ok (.aload_n 1, 1) := by decide +kernel
theorem dX4_earliestSlot_44 : decode cX4_earliestSlot 44 = .ok (.iload 5, 2) := by decide +kernel
theorem dX4_earliestSlot_46 : decode cX4_earliestSlot 46 = .ok (.invokevirtual 182, 3) := by decide +kernel
theorem dX4_earliestSlot_49 : decode cX4_earliestSlot 49 = .ok (.istore 5, 2) := by decide +kernel
theorem dX4_earliestSlot_51 : decode cX4_earliestSlot 51 = .ok (.aload_n 0, 1) := by decide +kernel
theorem dX4_earliestSlot_52 : decode cX4_earliestSlot 52 = .ok (.aload_n 1, 1) := by decide +kernel
theorem dX4_earliestSlot_53 : decode cX4_earliestSlot 53 = .ok (.iload 5, 2) := by decide +kernel
theorem dX4_earliestSlot_55 : decode cX4_earliestSlot 55 = .ok (.invokevirtual 189, 3) := by decide +kernel
theorem dX4_earliestSlot_58 : decode cX4_earliestSlot 58 = .ok (.istore 5, 2) := by decide +kernel
theorem dX4_earliestSlot_60 : decode cX4_earliestSlot 60 = .ok (.aload_n 0, 1) := by decide +kernel
theorem dX4_earliestSlot_61 : decode cX4_earliestSlot 61 = .ok (.aload_n 1, 1) := by decide +kernel
theorem dX4_earliestSlot_62 : decode cX4_earliestSlot 62 = .ok (.iload 5, 2) := by decide +kernel
theorem dX4_earliestSlot_64 : decode cX4_earliestSlot 64 = .ok (.invokevirtual 186, 3) := by decide +kernel
theorem dX4_earliestSlot_67 : decode cX4_earliestSlot 67 = .ok (.istore 5, 2) := by decide +kernel
theorem dX4_earliestSlot_69 : decode cX4_earliestSlot 69 = .ok (.iload 5, 2) := by decide +kernel
theorem dX4_earliestSlot_71 : decode cX4_earliestSlot 71 = .ok (.iload 4, 2) := by decide +kernel
theorem dX4_earliestSlot_73 : decode cX4_earliestSlot 73 = .ok (.if_icmp .ne 6, 3) := by decide +kernel
theorem dX4_earliestSlot_76 : decode cX4_earliestSlot 76 = .ok (.iload 4, 2) := by decide +kernel
theorem dX4_earliestSlot_78 : decode cX4_earliestSlot 78 = .ok (.ireturn, 1) := by decide +kernel
theorem dX4_earliestSlot_79 : decode cX4_earliestSlot 79 = .ok (.iload 4, 2) := by decide +kernel
theorem dX4_earliestSlot_81 : decode cX4_earliestSlot 81 = .ok (.iconst 1, 1) := by decide +kernel
theorem dX4_earliestSlot_82 : decode cX4_earliestSlot 82 = .ok (.iadd, 1) := by decide +kernel
theorem dX4_earliestSlot_83 : decode cX4_earliestSlot 83 = .ok (.iload 5, 2) := by decide +kernel
theorem dX4_earliestSlot_85 : decode cX4_earliestSlot 85 = .ok (.invokestatic 161, 3) := by decide +kernel
theorem dX4_earliestSlot_88 : decode cX4_earliestSlot 88 = .ok (.istore 4, 2) := by decide +kernel
theorem dX4_earliestSlot_90 : decode cX4_earliestSlot 90 = .ok (.goto (-69), 3) := by decide +kernel
theorem dX4_earliestSlot_93 : decode cX4_earliestSlot 93 = .ok (.iconst (-1), 1) := by decide +kernel
theorem dX4_earliestSlot_94 : decode cX4_earliestSlot 94 = .ok (.ireturn, 1) := by decide +kernel
theorem dX4_pastRests_0 : decode cX4_pastRests 0 = .ok (.iload_n 2, 1) := by decide +kernel
theorem dX4_pastRests_1 : decode cX4_pastRests 1 = .ok (.istore_n 3, 1) := by decide +kernel
theorem dX4_pastRests_2 : decode cX4_pastRests 2 = .ok (.iconst 0, 1) := by decide +kernel
theorem dX4_pastRests_3 : decode cX4_pastRests 3 = .ok (.istore 4, 2) := by decide +kernel
theorem dX4_pastRests_5 : decode cX4_pastRests 5 = .ok (.iload 4, 2) := by decide +kernel
theorem dX4_pastRests_7 : decode cX4_pastRests 7 = .ok (.aload_n 0, 1) := by decide +kernel
theorem dX4_pastRests_8 : decode cX4_pastRests 8 = .ok (.getfield 26, 3) := by decide +kernel
theorem dX4_pastRests_11 : decode cX4_pastRests 11 = .ok (.invokevirtual 43, 3) := by decide +kernel
theorem dX4_pastRests_14 : decode cX4_pastRests 14 = .ok (.if_icmp .ge 96, 3) := by decide +kernel
theorem dX4_pastRests_17 : decode cX4_pastRests 17 = .ok (.aload_n 0, 1) := by decide +kernel
theorem dX4_pastRests_18 : decode cX4_pastRests 18 = .ok (.getfield 26, 3) := by decide +kernel
theorem dX4_pastRests_21 : decode cX4_pastRests 21 = .ok (.iload 4, 2) := by decide +kernel
theorem dX4_pastRests_23 : decode cX4_pastRests 23 = .ok (.invokevirtual 145, 3) := by decide +kernel
theorem dX4_pastRests_26 : decode cX4_pastRests 26 = .ok (.checkcast 71, 3) := by decide +kernel
theorem dX4_pastRests_29 : decode cX4_pastRests 29 = .ok (.astore 5, 2) := by decide +kernel
theorem dX4_pastRests_31 : decode cX4_pastRests 31 = .ok (.aload 5, 2) := by decide +kernel
theorem dX4_pastRests_33 : decode cX4_pastRests 33 = .ok (.aload_n 1, 1) := by decide +kernel
theorem dX4_pastRests_34 : decode cX4_pastRests 34 = .ok (.if_acmp .eq 70, 3) := by decide +kernel
theorem dX4_pastRests_37 : decode cX4_pastRests 37 = .ok (.aload 5, 2) := by decide +kernel
theorem dX4_pastRests_39 : decode cX4_pastRests 39 = .ok (.getfield 122, 3) := by decide +kernel
theorem dX4_pastRests_42 : decode cX4_pastRests 42 = .ok (.iconst (-1), 1) := by decide +kernel
theorem dX4_pastRests_43 : decode cX4_pastRests 43 = .ok (.if_icmp .eq 61, 3) := by decide +kernel
theorem dX4_pastRests_46 : decode cX4_pastRests 46 = .ok (.aload 5, 2) := by decide +kernel
theorem dX4_pastRests_48 : decode cX4_pastRests 48 = .ok (.getfield 167, 3) := by decide +kernel
theorem dX4_pastRests_51 : decode cX4_pastRests 51 = .ok (.aload_n 1, 1) := by decide +kernel
theorem dX4_pastRests_52 : decode cX4_pastRests 52 = .ok (.getfield 167, 3) := by decide +kernel
theorem dX4_pastRests_55 : decode cX4_pastRests 55 = .ok (.if_acmp .ne 49, 3) := by decide +kernel
theorem dX4_pastRests_58 : decode cX4_pastRests 58 = .ok (.aload 5, 2) := by decide +kernel
theorem dX4_pastRests_60 : decode cX4_pastRests 60 = .ok (.getfield 122, 3) := by decide +kernel
theorem dX4_pastRests_63 : decode cX4_pastRests 63 = .ok (.aload 5, 2) := by decide +kernel
theorem dX4_pastRests_65 : decode cX4_pastRests 65 = .ok (.getfield 102, 3) := by decide +kernel
theorem dX4_pastRests_68 : decode cX4_pastRests 68 = .ok (.invokevirtual 244, 3) := by decide +kernel
theorem dX4_pastRests_71 : decode cX4_pastRests 71 = .ok (.iadd, 1) := by decide +kernel
theorem dX4_pastRests_72 : decode cX4_pastRests 72 = .ok (.istore 6, 2) := by decide +kernel
theorem dX4_pastRests_74 : decode cX4_pastRests 74 = .ok (.iload_n 2, 1) := by decide +kernel
theorem dX4_pastRests_75 : decode cX4_pastRests 75 = .ok (.iload 6, 2) := by decide +kernel
theorem dX4_pastRests_77 : decode cX4_pastRests 77 = .ok (.if_icmp .ge 27, 3) := by decide +kernel
theorem dX4_pastRests_80 : decode cX4_pastRests 80 = .ok (.aload 5, 2) := by decide +kernel
theorem dX4_pastRests_82 : decode cX4_pastRests 82 = .ok (.getfield 122, 3) := by decide +kernel
theorem dX4_pastRests_85 : decode cX4_pastRests 85 = .ok (.iload_n 2, 1) := by decide +kernel
theorem dX4_pastRests_86 : decode cX4_pastRests 86 = .ok (.aload_n 1, 1) := by decide +kernel
theorem dX4_pastRests_87 : decode cX4_pastRests 87 = .ok (.getfield 102, 3) := by decide +kernel
theorem dX4_pastRests_90 : decode cX4_pastRests 90 = .ok (.invokevirtual 244, 3) := by decide +kernel
theorem dX4_pastRests_93 : decode cX4_pastRests 93 = .ok (.iadd, 1) := by decide +kernel
theorem dX4_pastRests_94 : decode cX4_pastRests 94 = .ok (.if_icmp .ge 10, 3) := by decide +kernel
theorem dX4_pastRests_97 : decode cX4_pastRests 97 = .ok (.iload_n 3, 1) := by decide +kernel
theorem dX4_pastRests_98 : decode cX4_pastRests 98 = .ok (.iload 6, 2) := by decide +kernel
theorem dX4_pastRests_100 : decode cX4_pastRests 100 = .ok (.invokestatic 161, 3) := by decide +kernel
theorem dX4_pastRests_103 : decode cX4_pastRests 103 = .ok (.istore_n 3, 1) := by decide +kernel
theorem dX4_pastRests_104 : decode cX4_pastRests 104 = .ok (.iinc 4 1, 3) := by decide +kernel
theorem dX4_pastRests_107 : decode cX4_pastRests 107 = .ok (.goto (-102), 3) := by decide +kernel
theorem dX4_pastRests_110 : decode cX4_pastRests 110 = .ok (.iload_n 3, 1) := by decide +kernel
theorem dX4_pastRests_111 : decode cX4_pastRests 111 = .ok (.ireturn, 1) := by decide +kernel
theorem dX4_pastTugs_0 : decode cX4_pastTugs 0 = .ok (.iload_n 2, 1) := by decide +kernel
theorem dX4_pastTugs_1 : decode cX4_pastTugs 1 = .ok (.aload_n 1, 1) := by decide +kernel
theorem dX4_pastTugs_2 : decode cX4_pastTugs 2 = .ok (.getfield 102, 3) := by decide +kernel
theorem dX4_pastTugs_5 : decode cX4_pastTugs 5 = .ok (.getfield 247, 3) := by decide +kernel
theorem dX4_pastTugs_8 : decode cX4_pastTugs 8 = .ok (.iadd, 1) := by decide +kernel
theorem dX4_pastTugs_9 : decode cX4_pastTugs 9 = .ok (.iconst 1, 1) := by decide +kernel
theorem dX4_pastTugs_10 : decode cX4_pastTugs 10 = .ok (.isub, 1) := by decide +kernel
theorem dX4_pastTugs_11 : decode cX4_pastTugs 11 = .ok (.istore_n 3, 1) := by decide +kernel
theorem dX4_pastTugs_12 : decode cX4_pastTugs 12 = .ok (.aload_n 0, 1) := by decide +kernel
theorem dX4_pastTugs_13 : decode cX4_pastTugs 13 = .ok (.getfield 29, 3) := by decide +kernel
theorem dX4_pastTugs_16 : decode cX4_pastTugs 16 = .ok (.aload_n 1, 1) := by decide +kernel
theorem dX4_pastTugs_17 : decode cX4_pastTugs 17 = .ok (.getfield 102, 3) := by decide +kernel
theorem dX4_pastTugs_20 : decode cX4_pastTugs 20 = .ok (.getfield 250, 3) := by decide +kernel
theorem dX4_pastTugs_23 : decode cX4_pastTugs 23 = .ok (.isub, 1) := by decide +kernel
theorem dX4_pastTugs_24 : decode cX4_pastTugs 24 = .ok (.istore 4, 2) := by decide +kernel
theorem dX4_pastTugs_26 : decode cX4_pastTugs 26 = .ok (.aload_n 0, 1) := by decide +kernel
theorem dX4_pastTugs_27 : decode cX4_pastTugs 27 = .ok (.aload_n 1, 1) := by decide +kernel
theorem dX4_pastTugs_28 : decode cX4_pastTugs 28 = .ok (.iload_n 2, 1) := by decide +kernel
theorem dX4_pastTugs_29 : decode cX4_pastTugs 29 = .ok (.iload_n 3, 1) := by decide +kernel
theorem dX4_pastTugs_30 : decode cX4_pastTugs 30 = .ok (.invokevirtual 212, 3) := by decide +kernel
theorem dX4_pastTugs_33 : decode cX4_pastTugs 33 = .ok (.iload 4, 2) := by decide +kernel
theorem dX4_pastTugs_35 : decode cX4_pastTugs 35 = .ok (.if_icmp .gt 5, 3) := by decide +kernel
theorem dX4_pastTugs_38 : decode cX4_pastTugs 38 = .ok (.iload_n 2, 1) := by decide +kernel
theorem dX4_pastTugs_39 : decode cX4_pastTugs 39 = .ok (.ireturn, 1) := by decide +kernel
theorem dX4_pastTugs_40 : decode cX4_pastTugs 40 = .ok (.iload_n 3, 1) := by decide +kernel
theorem dX4_pastTugs_41 : decode cX4_pastTugs 41 = .ok (.istore 5, 2) := by decide +kernel
theorem dX4_pastTugs_43 : decode cX4_pastTugs 43 = .ok (.iload 5, 2) := by decide +kernel
theorem dX4_pastTugs_45 : decode cX4_pastTugs 45 = .ok (.iload_n 2, 1) := by decide +kernel
theorem dX4_pastTugs_46 : decode cX4_pastTugs 46 = .ok (.if_icmp .lt 28, 3) := by decide +kernel
theorem dX4_pastTugs_49 : decode cX4_pastTugs 49 = .ok (.aload_n 0, 1) := by decide +kernel
theorem dX4_pastTugs_50 : decode cX4_pastTugs 50 = .ok (.aload_n 1, 1) := by decide +kernel
theorem dX4_pastTugs_51 : decode cX4_pastTugs 51 = .ok (.iload 5, 2) := by decide +kernel
theorem dX4_pastTugs_53 : decode cX4_pastTugs 53 = .ok (.iload 5, 2) := by decide +kernel
theorem dX4_pastTugs_55 : decode cX4_pastTugs 55 = .ok (.invokevirtual 212, 3) := by decide +kernel
theorem dX4_pastTugs_58 : decode cX4_pastTugs 58 = .ok (.iload 4, 2) := by decide +kernel
theorem dX4_pastTugs_60 : decode cX4_pastTugs 60 = .ok (.if_icmp .le 8, 3) := by decide +kernel
theorem dX4_pastTugs_63 : decode cX4_pastTugs 63 = .ok (.iload 5, 2) := by decide +kernel
theorem dX4_pastTugs_65 : decode cX4_pastTugs 65 = .ok (.iconst 1, 1) := by decide +kernel
theorem dX4_pastTugs_66 : decode cX4_pastTugs 66 = .ok (.iadd, 1) := by decide +kernel
theorem dX4_pastTugs_67 : decode cX4_pastTugs 67 = .ok (.ireturn, 1) := by decide +kernel
theorem dX4_pastTugs_68 : decode cX4_pastTugs 68 = .ok (.iinc 5 (-1), 3) := by decide +kernel
theorem dX4_pastTugs_71 : decode cX4_pastTugs 71 = .ok (.goto (-28), 3) := by decide +kernel
theorem dX4_pastTugs_74 : decode cX4_pastTugs 74 = .ok (.iload_n 2, 1) := by decide +kernel
theorem dX4_pastTugs_75 : decode cX4_pastTugs 75 = .ok (.ireturn, 1) := by decide +kernel
theorem dX4_pastChannel_0 : decode cX4_pastChannel 0 = .ok (.iload_n 2, 1) := by decide +kernel
theorem dX4_pastChannel_1 : decode cX4_pastChannel 1 = .ok (.istore_n 3, 1) := by decide +kernel
theorem dX4_pastChannel_2 : decode cX4_pastChannel 2 = .ok (.iconst 0, 1) := by decide +kernel
theorem dX4_pastChannel_3 : decode cX4_pastChannel 3 = .ok (.istore 4, 2) := by decide +kernel
theorem dX4_pastChannel_5 : decode cX4_pastChannel 5 = .ok (.iload 4, 2) := by decide +kernel
theorem dX4_pastChannel_7 : decode cX4_pastChannel 7 = .ok (.aload_n 0, 1) := by decide +kernel
theorem dX4_pastChannel_8 : decode cX4_pastChannel 8 = .ok (.getfield 26, 3) := by decide +kernel
theorem dX4_pastChannel_11 : decode cX4_pastChannel 11 = .ok (.invokevirtual 43, 3) := by decide +kernel
theorem dX4_pastChannel_14 : decode cX4_pastChannel 14 = .ok (.if_icmp .ge 66, 3) := by decide +kernel
theorem dX4_pastChannel_17 : decode cX4_pastChannel 17 = .ok (.aload_n 0, 1) := by decide +kernel
theorem dX4_pastChannel_18 : decode cX4_pastChannel 18 = .ok (.getfield 26, 3) := by decide +kernel
theorem dX4_pastChannel_21 : decode cX4_pastChannel 21 = .ok (.iload 4, 2) := by decide +kernel
theorem dX4_pastChannel_23 : decode cX4_pastChannel 23 = .ok (.invokevirtual 145, 3) := by decide +kernel
theorem dX4_pastChannel_26 : decode cX4_pastChannel 26 = .ok (.checkcast 71, 3) := by decide +kernel
theorem dX4_pastChannel_29 : decode cX4_pastChannel 29 = .ok (.astore 5, 2) := by decide +kernel
theorem dX4_pastChannel_31 : decode cX4_pastChannel 31 = .ok (.aload 5, 2) := by decide +kernel
theorem dX4_pastChannel_33 : decode cX4_pastChannel 33 = .ok (.aload_n 1, 1) := by decide +kernel
theorem dX4_pastChannel_34 : decode cX4_pastChannel 34 = .ok (.if_acmp .eq 40, 3) := by decide +kernel
theorem dX4_pastChannel_37 : decode cX4_pastChannel 37 = .ok (.aload 5, 2) := by decide +kernel
theorem dX4_pastChannel_39 : decode cX4_pastChannel 39 = .ok (.getfield 122, 3) := by decide +kernel
theorem dX4_pastChannel_42 : decode cX4_pastChannel 42 = .ok (.iconst (-1), 1) := by decide +kernel
theorem dX4_pastChannel_43 : decode cX4_pastChannel 43 = .ok (.if_icmp .eq 31, 3) := by decide +kernel
theorem dX4_pastChannel_46 : decode cX4_pastChannel 46 = .ok (.aload 5, 2) := by decide +kernel
theorem dX4_pastChannel_48 : decode cX4_pastChannel 48 = .ok (.getfield 122, 3) := by decide +kernel
theorem dX4_pastChannel_51 : decode cX4_pastChannel 51 = .ok (.iload_n 2, 1) := by decide +kernel
theorem dX4_pastChannel_52 : decode cX4_pastChannel 52 = .ok (.isub, 1) := by decide +kernel
theorem dX4_pastChannel_53 : decode cX4_pastChannel 53 = .ok (.invokestatic 251, 3) := by decide +kernel
theorem dX4_pastChannel_56 : decode cX4_pastChannel 56 = .ok (.bipush 15, 2) := by decide +kernel
theorem dX4_pastChannel_58 : decode cX4_pastChannel 58 = .ok (.if_icmp .ge 16, 3) := by decide +kernel
theorem dX4_pastChannel_61 : decode cX4_pastChannel 61 = .ok (.iload_n 3, 1) := by decide +kernel
theorem dX4_pastChannel_62 : decode cX4_pastChannel 62 = .ok (.aload 5, 2) := by decide +kernel
theorem dX4_pastChannel_64 : decode cX4_pastChannel 64 = .ok (.getfield 122, 3) := by decide +kernel
theorem dX4_pastChannel_67 : decode cX4_pastChannel 67 = .ok (.bipush 15, 2) := by decide +kernel
theorem dX4_pastChannel_69 : decode cX4_pastChannel 69 = .ok (.iadd, 1) := by decide +kernel
theorem dX4_pastChannel_70 : decode cX4_pastChannel 70 = .ok (.invokestatic 161, 3) := by decide +kernel
theorem dX4_pastChannel_73 : decode cX4_pastChannel 73 = .ok (.istore_n 3, 1) := by decide +kernel
theorem dX4_pastChannel_74 : decode cX4_pastChannel 74 = .ok (.iinc 4 1, 3) := by decide +kernel
theorem dX4_pastChannel_77 : decode cX4_pastChannel 77 = .ok (.goto (-72), 3) := by decide +kernel
theorem dX4_pastChannel_80 : decode cX4_pastChannel 80 = .ok (.iload_n 3, 1) := by decide +kernel
theorem dX4_pastChannel_81 : decode cX4_pastChannel 81 = .ok (.ireturn, 1) := by decide +kernel
theorem dX4_tugsOfOthers_0 : decode cX4_tugsOfOthers 0 = .ok (.iconst 0, 1) := by decide +kernel
theorem dX4_tugsOfOthers_1 : decode cX4_tugsOfOthers 1 = .ok (.istore 4, 2) := by decide +kernel
theorem dX4_tugsOfOthers_3 : decode cX4_tugsOfOthers 3 = .ok (.iconst 0, 1) := by decide +kernel
theorem dX4_tugsOfOthers_4 : decode cX4_tugsOfOthers 4 = .ok (.istore 5, 2) := by decide +kernel
theorem dX4_tugsOfOthers_6 : decode cX4_tugsOfOthers 6 = .ok (.iload 5, 2) := by decide +kernel
theorem dX4_tugsOfOthers_8 : decode cX4_tugsOfOthers 8 = .ok (.aload_n 0, 1) := by decide +kernel
theorem dX4_tugsOfOthers_9 : decode cX4_tugsOfOthers 9 = .ok (.getfield 26, 3) := by decide +kernel
theorem dX4_tugsOfOthers_12 : decode cX4_tugsOfOthers 12 = .ok (.invokevirtual 43, 3) := by decide +kernel
theorem dX4_tugsOfOthers_15 : decode cX4_tugsOfOthers 15 = .ok (.if_icmp .ge 78, 3) := by decide +kernel
theorem dX4_tugsOfOthers_18 : decode cX4_tugsOfOthers 18 = .ok (.aload_n 0, 1) := by decide +kernel
theorem dX4_tugsOfOthers_19 : decode cX4_tugsOfOthers 19 = .ok (.getfield 26, 3) := by decide +kernel
theorem dX4_tugsOfOthers_22 : decode cX4_tugsOfOthers 22 = .ok (.iload 5, 2) := by decide +kernel
theorem dX4_tugsOfOthers_24 : decode cX4_tugsOfOthers 24 = .ok (.invokevirtual 145, 3) := by decide +kernel
theorem dX4_tugsOfOthers_27 : decode cX4_tugsOfOthers 27 = .ok (.checkcast 71, 3) := by decide +kernel
theorem dX4_tugsOfOthers_30 : decode cX4_tugsOfOthers 30 = .ok (.astore 6, 2) := by decide +kernel
theorem dX4_tugsOfOthers_32 : decode cX4_tugsOfOthers 32 = .ok (.aload 6, 2) := by decide +kernel
theorem dX4_tugsOfOthers_34 : decode cX4_tugsOfOthers 34 = .ok (.aload_n 1, 1) := by decide +kernel
theorem dX4_tugsOfOthers_35 : decode cX4_tugsOfOthers 35 = .ok (.if_acmp .eq 52, 3) := by decide +kernel
theorem dX4_tugsOfOthers_38 : decode cX4_tugsOfOthers 38 = .ok (.aload 6, 2) := by decide +kernel
theorem dX4_tugsOfOthers_40 : decode cX4_tugsOfOthers 40 = .ok (.getfield 122, 3) := by decide +kernel
theorem dX4_tugsOfOthers_43 : decode cX4_tugsOfOthers 43 = .ok (.iconst (-1), 1) := by decide +kernel
theorem dX4_tugsOfOthers_44 : decode cX4_tugsOfOthers 44 = .ok (.if_icmp .eq 43, 3) := by decide +kernel
theorem dX4_tugsOfOthers_47 : decode cX4_tugsOfOthers 47 = .ok (.aload 6, 2) := by decide +kernel
theorem dX4_tugsOfOthers_49 : decode cX4_tugsOfOthers 49 = .ok (.getfield 122, 3) := by decide +kernel
theorem dX4_tugsOfOthers_52 : decode cX4_tugsOfOthers 52 = .ok (.iload_n 3, 1) := by decide +kernel
theorem dX4_tugsOfOthers_53 : decode cX4_tugsOfOthers 53 = .ok (.if_icmp .gt 34, 3) := by decide +kernel
theorem dX4_tugsOfOthers_56 : decode cX4_tugsOfOthers 56 = .ok (.aload 6, 2) := by decide +kernel
theorem dX4_tugsOfOthers_58 : decode cX4_tugsOfOthers 58 = .ok (.getfield 122, 3) := by decide +kernel
theorem dX4_tugsOfOthers_61 : decode cX4_tugsOfOthers 61 = .ok (.aload 6, 2) := by decide +kernel
theorem dX4_tugsOfOthers_63 : decode cX4_tugsOfOthers 63 = .ok (.getfield 102, 3) := by decide +kernel
theorem dX4_tugsOfOthers_66 : decode cX4_tugsOfOthers 66 = .ok (.getfield 247, 3) := by decide +kernel
theorem dX4_tugsOfOthers_69 : decode cX4_tugsOfOthers 69 = .ok (.iadd, 1) := by decide +kernel
theorem dX4_tugsOfOthers_70 : decode cX4_tugsOfOthers 70 = .ok (.iload_n 2, 1) := by decide +kernel
theorem dX4_tugsOfOthers_71 : decode cX4_tugsOfOthers 71 = .ok (.if_icmp .le 16, 3) := by decide +kernel
theorem dX4_tugsOfOthers_74 : decode cX4_tugsOfOthers 74 = .ok (.iload 4, 2) := by decide +kernel
theorem dX4_tugsOfOthers_76 : decode cX4_tugsOfOthers 76 = .ok (.aload 6, 2) := by decide +kernel
theorem dX4_tugsOfOthers_78 : decode cX4_tugsOfOthers 78 = .ok (.getfield 102, 3) := by decide +kernel
theorem dX4_tugsOfOthers_81 : decode cX4_tugsOfOthers 81 = .ok (.getfield 250, 3) := by decide +kernel
theorem dX4_tugsOfOthers_84 : decode cX4_tugsOfOthers 84 = .ok (.iadd, 1) := by decide +kernel
theorem dX4_tugsOfOthers_85 : decode cX4_tugsOfOthers 85 = .ok (.istore 4, 2) := by decide +kernel
theorem dX4_tugsOfOthers_87 : decode cX4_tugsOfOthers 87 = .ok (.iinc 5 1, 3) := by decide +kernel
theorem dX4_tugsOfOthers_90 : decode cX4_tugsOfOthers 90 = .ok (.goto (-84), 3) := by decide +kernel
theorem dX4_tugsOfOthers_93 : decode cX4_tugsOfOthers 93 = .ok (.iload 4, 2) := by decide +kernel
theorem dX4_tugsOfOthers_95 : decode cX4_tugsOfOthers 95 = .ok (.ireturn, 1) := by decide +kernel
theorem dX4_becomesDone_0 : decode cX4_becomesDone 0 = .ok (.aload_n 1, 1) := by decide +kernel
theorem dX4_becomesDone_1 : decode cX4_becomesDone 1 = .ok (.getfield 125, 3) := by decide +kernel
theorem dX4_becomesDone_4 : decode cX4_becomesDone 4 = .ok (.iconst 2, 1) := by decide +kernel
theorem dX4_becomesDone_5 : decode cX4_becomesDone 5 = .ok (.if_icmp .ne 19, 3) := by decide +kernel
theorem dX4_becomesDone_8 : decode cX4_becomesDone 8 = .ok (.aload_n 1, 1) := by decide +kernel
theorem dX4_becomesDone_9 : decode cX4_becomesDone 9 = .ok (.getfield 122, 3) := by decide +kernel
theorem dX4_becomesDone_12 : decode cX4_becomesDone 12 = .ok (.aload_n 0, 1) := by decide +kernel
theorem dX4_becomesDone_13 : decode cX4_becomesDone 13 = .ok (.getfield 68, 3) := by decide +kernel
theorem dX4_becomesDone_16 : decode cX4_becomesDone 16 = .ok (.if_icmp .gt 8, 3) := by decide +kernel
theorem dX4_becomesDone_19 : decode cX4_becomesDone 19 = .ok (.aload_n 1, 1) := by decide +kernel
theorem dX4_becomesDone_20 : decode cX4_becomesDone 20 = .ok (.iconst 3, 1) := by decide +kernel
theorem dX4_becomesDone_21 : decode cX4_becomesDone 21 = .ok (.putfield 125, 3) := by decide +kernel
theorem dX4_becomesDone_24 : decode cX4_becomesDone 24 = .ok (.aload_n 1, 1) := by decide +kernel
theorem dX4_becomesDone_25 : decode cX4_becomesDone 25 = .ok (.getfield 167, 3) := by decide +kernel
theorem dX4_becomesDone_28 : decode cX4_becomesDone 28 = .ok (.astore_n 2, 1) := by decide +kernel
theorem dX4_becomesDone_29 : decode cX4_becomesDone 29 = .ok (.aload_n 1, 1) := by decide +kernel
theorem dX4_becomesDone_30 : decode cX4_becomesDone 30 = .ok (.getfield 125, 3) := by decide +kernel
theorem dX4_becomesDone_33 : decode cX4_becomesDone 33 = .ok (.iconst 3, 1) := by decide +kernel
theorem dX4_becomesDone_34 : decode cX4_becomesDone 34 = .ok (.if_icmp .ne 26, 3) := by decide +kernel
theorem dX4_becomesDone_37 : decode cX4_becomesDone 37 = .ok (.aload_n 2, 1) := by decide +kernel
theorem dX4_becomesDone_38 : decode cX4_becomesDone 38 = .ok (.ifnull 22, 3) := by decide +kernel
theorem dX4_becomesDone_41 : decode cX4_becomesDone 41 = .ok (.aload_n 1, 1) := by decide +kernel
theorem dX4_becomesDone_42 : decode cX4_becomesDone 42 = .ok (.getfield 122, 3) := by decide +kernel
theorem dX4_becomesDone_45 : decode cX4_becomesDone 45 = .ok (.aload_n 1, 1) := by decide +kernel
theorem dX4_becomesDone_46 : decode cX4_becomesDone 46 = .ok (.getfield 102, 3) := by decide +kernel
theorem dX4_becomesDone_49 : decode cX4_becomesDone 49 = .ok (.getfield 247, 3) := by decide +kernel
theorem dX4_becomesDone_52 : decode cX4_becomesDone 52 = .ok (.iadd, 1) := by decide +kernel
theorem dX4_becomesDone_53 : decode cX4_becomesDone 53 = .ok (.aload_n 0, 1) := by decide +kernel
theorem dX4_becomesDone_54 : decode cX4_becomesDone 54 = .ok (.getfield 68, 3) := by decide +kernel
theorem dX4_becomesDone_57 : decode cX4_becomesDone 57 = .ok (.if_icmp .le 5, 3) := by decide +kernel
theorem dX4_becomesDone_60 : decode cX4_becomesDone 60 = .ok (.iconst 0, 1) := by decide +kernel
theorem dX4_becomesDone_61 : decode cX4_becomesDone 61 = .ok (.ireturn, 1) := by decide +kernel
theorem dX4_becomesDone_62 : decode cX4_becomesDone 62 = .ok (.aload_n 1, 1) := by decide +kernel
theorem dX4_becomesDone_63 : decode cX4_becomesDone 63 = .ok (.iconst 4, 1) := by decide +kernel
theorem dX4_becomesDone_64 : decode cX4_becomesDone 64 = .ok (.putfield 125, 3) := by decide +kernel
theorem dX4_becomesDone_67 : decode cX4_becomesDone 67 = .ok (.aload_n 1, 1) := by decide +kernel
theorem dX4_becomesDone_68 : decode cX4_becomesDone 68 = .ok (.getfield 102, 3) := by decide +kernel
theorem dX4_becomesDone_71 : decode cX4_becomesDone 71 = .ok (.dup, 1) := by decide +kernel
theorem dX4_becomesDone_72 : decode cX4_becomesDone 72 = .ok (.getfield 196, 3) := by decide +kernel
theorem dX4_becomesDone_75 : decode cX4_becomesDone 75 = .ok (.aload_n 1, 1) := by decide +kernel
theorem dX4_becomesDone_76 : decode cX4_becomesDone 76 = .ok (.getfield 102, 3) := by decide +kernel
theorem dX4_becomesDone_79 : decode cX4_becomesDone 79 = .ok (.getfield 247, 3) := by decide +kernel
theorem dX4_becomesDone_82 : decode cX4_becomesDone 82 = .ok (.aload_n 2, 1) := by decide +kernel
theorem dX4_becomesDone_83 : decode cX4_becomesDone 83 = .ok (.getfield 209, 3) := by decide +kernel
theorem dX4_becomesDone_86 : decode cX4_becomesDone 86 = .ok (.imul, 1) := by decide +kernel
theorem dX4_becomesDone_87 : decode cX4_becomesDone 87 = .ok (.aload_n 1, 1) := by decide +kernel
theorem dX4_becomesDone_88 : decode cX4_becomesDone 88 = .ok (.getfield 102, 3) := by decide +kernel
theorem dX4_becomesDone_91 : decode cX4_becomesDone 91 = .ok (.getfield 250, 3) := by decide +kernel
theorem dX4_becomesDone_94 : decode cX4_becomesDone 94 = .ok (.bipush 100, 2) := by decide +kernel
theorem dX4_becomesDone_96 : decode cX4_becomesDone 96 = .ok (.imul, 1) := by decide +kernel
theorem dX4_becomesDone_97 : decode cX4_becomesDone 97 = .ok (.iadd, 1) := by decide +kernel
theorem dX4_becomesDone_98 : decode cX4_becomesDone 98 = .ok (.iadd, 1) := by decide +kernel
theorem dX4_becomesDone_99 : decode cX4_becomesDone 99 = .ok (.putfield 196, 3) := by decide +kernel
theorem dX4_becomesDone_102 : decode cX4_becomesDone 102 = .ok (.aload_n 2, 1) := by decide +kernel
theorem dX4_becomesDone_103 : decode cX4_becomesDone 103 = .ok (.dup, 1) := by decide +kernel
theorem dX4_becomesDone_104 : decode cX4_becomesDone 104 = .ok (.getfield 199, 3) := by decide +kernel
theorem dX4_becomesDone_107 : decode cX4_becomesDone 107 = .ok (.iconst 1, 1) := by decide +kernel
theorem dX4_becomesDone_108 : decode cX4_becomesDone 108 = .ok (.iadd, 1) := by decide +kernel
theorem dX4_becomesDone_109 : decode cX4_becomesDone 109 = .ok (.putfield 199, 3) := by decide +kernel
theorem dX4_becomesDone_112 : decode cX4_becomesDone 112 = .ok (.aload_n 2, 1) := by decide +kernel
theorem dX4_becomesDone_113 : decode cX4_becomesDone 113 = .ok (.dup, 1) := by decide +kernel
theorem dX4_becomesDone_114 : decode cX4_becomesDone 114 = .ok (.getfield 202, 3) := by decide +kernel
theorem dX4_becomesDone_117 : decode cX4_becomesDone 117 = .ok (.aload_n 1, 1) := by decide +kernel
theorem dX4_becomesDone_118 : decode cX4_becomesDone 118 = .ok (.getfield 102, 3) := by decide +kernel
theorem dX4_becomesDone_121 : decode cX4_becomesDone 121 = .ok (.getfield 247, 3) := by decide +kernel
theorem dX4_becomesDone_124 : decode cX4_becomesDone 124 = .ok (.iadd, 1) := by decide +kernel
theorem dX4_becomesDone_125 : decode cX4_becomesDone 125 = .ok (.putfield 202, 3) := by decide +kernel
theorem dX4_becomesDone_128 : decode cX4_becomesDone 128 = .ok (.iconst 1, 1) := by decide +kernel
theorem dX4_becomesDone_129 : decode cX4_becomesDone 129 = .ok (.ireturn, 1) := by decide +kernel
theorem dX4_restedBehindSlots_0 : decode cX4_restedBehindSlots 0 = .ok (.aload_n 0, 1) := by decide +kernel
theorem dX4_restedBehindSlots_1 : decode cX4_restedBehindSlots 1 = .ok (.getfield 68, 3) := by decide +kernel
theorem dX4_restedBehindSlots_4 : decode cX4_restedBehindSlots 4 = .ok (.istore_n 2, 1) := by decide +kernel
theorem dX4_restedBehindSlots_5 : decode cX4_restedBehindSlots 5 = .ok (.iconst 0, 1) := by decide +kernel
theorem dX4_restedBehindSlots_6 : decode cX4_restedBehindSlots 6 = .ok (.istore_n 3, 1) := by decide +kernel
theorem dX4_restedBehindSlots_7 : decode cX4_restedBehindSlots 7 = .ok (.iload_n 3, 1) := by decide +kernel
theorem dX4_restedBehindSlots_8 : decode cX4_restedBehindSlots 8 = .ok (.aload_n 0, 1) := by decide +kernel
theorem dX4_restedBehindSlots_9 : decode cX4_restedBehindSlots 9 = .ok (.getfield 26, 3) := by decide +kernel
theorem dX4_restedBehindSlots_12 : decode cX4_restedBehindSlots 12 = .ok (.invokevirtual 43, 3) := by decide +kernel
theorem dX4_restedBehindSlots_15 : decode cX4_restedBehindSlots 15 = .ok (.if_icmp .ge 59, 3) := by decide +kernel
theorem dX4_restedBehindSlots_18 : decode cX4_restedBehindSlots 18 = .ok (.aload_n 0, 1) := by decide +kernel
theorem dX4_restedBehindSlots_19 : decode cX4_restedBehindSlots 19 = .ok (.getfield 26, 3) := by decide +kernel
theorem dX4_restedBehindSlots_22 : decode cX4_restedBehindSlots 22 = .ok (.iload_n 3, 1) := by decide +kernel
theorem dX4_restedBehindSlots_23 : decode cX4_restedBehindSlots 23 = .ok (.invokevirtual 145, 3) := by decide +kernel
theorem dX4_restedBehindSlots_26 : decode cX4_restedBehindSlots 26 = .ok (.checkcast 71, 3) := by decide +kernel
theorem dX4_restedBehindSlots_29 : decode cX4_restedBehindSlots 29 = .ok (.astore 4, 2) := by decide +kernel
theorem dX4_restedBehindSlots_31 : decode cX4_restedBehindSlots 31 = .ok (.aload 4, 2) := by decide +kernel
theorem dX4_restedBehindSlots_33 : decode cX4_restedBehindSlots 33 = .ok (.getfield 167, 3) := by decide +kernel
theorem dX4_restedBehindSlots_36 : decode cX4_restedBehindSlots 36 = .ok (.aload_n 1, 1) := by decide +kernel
theorem dX4_restedBehindSlots_37 : decode cX4_restedBehindSlots 37 = .ok (.if_acmp .ne 31, 3) := by decide +kernel
theorem dX4_restedBehindSlots_40 : decode cX4_restedBehindSlots 40 = .ok (.aload 4, 2) := by decide +kernel
theorem dX4_restedBehindSlots_42 : decode cX4_restedBehindSlots 42 = .ok (.getfield 122, 3) := by decide +kernel
theorem dX4_restedBehindSlots_45 : decode cX4_restedBehindSlots 45 = .ok (.iconst (-1), 1) := by decide +kernel
theorem dX4_restedBehindSlots_46 : decode cX4_restedBehindSlots 46 = .ok (.if_icmp .eq 22, 3) := by decide +kernel
theorem dX4_restedBehindSlots_49 : decode cX4_restedBehindSlots 49 = .ok (.iload_n 2, 1) := by decide +kernel
theorem dX4_restedBehindSlots_50 : decode cX4_restedBehindSlots 50 = .ok (.aload 4, 2) := by decide +kernel
theorem dX4_restedBehindSlots_52 : decode cX4_restedBehindSlots 52 = .ok (.getfield 122, 3) := by decide +kernel
theorem dX4_restedBehindSlots_55 : decode cX4_restedBehindSlots 55 = .ok (.aload 4, 2) := by decide +kernel
theorem dX4_restedBehindSlots_57 : decode cX4_restedBehindSlots 57 = .ok (.getfield 102, 3) := by decide +kernel
theorem dX4_restedBehindSlots_60 : decode cX4_restedBehindSlots 60 = .ok (.invokevirtual 244, 3) := by decide +kernel
theorem dX4_restedBehindSlots_63 : decode cX4_restedBehindSlots 63 = .ok (.iadd, 1) := by decide +kernel
theorem dX4_restedBehindSlots_64 : decode cX4_restedBehindSlots 64 = .ok (.invokestatic 161, 3) := by decide +kernel
theorem dX4_restedBehindSlots_67 : decode cX4_restedBehindSlots 67 = .ok (.istore_n 2, 1) := by decide +kernel
theorem dX4_restedBehindSlots_68 : decode cX4_restedBehindSlots 68 = .ok (.iinc 3 1, 3) := by decide +kernel
theorem dX4_restedBehindSlots_71 : decode cX4_restedBehindSlots 71 = .ok (.goto (-64), 3) := by decide +kernel
theorem dX4_restedBehindSlots_74 : decode cX4_restedBehindSlots 74 = .ok (.iload_n 2, 1) := by decide +kernel
theorem dX4_restedBehindSlots_75 : decode cX4_restedBehindSlots 75 = .ok (.ireturn, 1) := by decide +kernel
theorem dX4_isAboard_0 : decode cX4_isAboard 0 = .ok (.iconst 0, 1) := by decide +kernel
theorem dX4_isAboard_1 : decode cX4_isAboard 1 = .ok (.istore_n 2, 1) := by decide +kernel
theorem dX4_isAboard_2 : decode cX4_isAboard 2 = .ok (.iload_n 2, 1) := by decide +kernel
theorem dX4_isAboard_3 : decode cX4_isAboard 3 = .ok (.aload_n 0, 1) := by decide +kernel
theorem dX4_isAboard_4 : decode cX4_isAboard 4 = .ok (.getfield 26, 3) := by decide +kernel
theorem dX4_isAboard_7 : decode cX4_isAboard 7 = .ok (.invokevirtual 43, 3) := by decide +kernel
theorem dX4_isAboard_10 : decode cX4_isAboard 10 = .ok (.if_icmp .ge 39, 3) := by decide +kernel
theorem dX4_isAboard_13 : decode cX4_isAboard 13 = .ok (.aload_n 0, 1) := by decide +kernel
theorem dX4_isAboard_14 : decode cX4_isAboard 14 = .ok (.getfield 26, 3) := by decide +kernel
theorem dX4_isAboard_17 : decode cX4_isAboard 17 = .ok (.iload_n 2, 1) := by decide +kernel
theorem dX4_isAboard_18 : decode cX4_isAboard 18 = .ok (.invokevirtual 145, 3) := by decide +kernel
theorem dX4_isAboard_21 : decode cX4_isAboard 21 = .ok (.checkcast 71, 3) := by decide +kernel
theorem dX4_isAboard_24 : decode cX4_isAboard 24 = .ok (.astore_n 3, 1) := by decide +kernel
theorem dX4_isAboard_25 : decode cX4_isAboard 25 = .ok (.aload_n 3, 1) := by decide +kernel
theorem dX4_isAboard_26 : decode cX4_isAboard 26 = .ok (.getfield 167, 3) := by decide +kernel
theorem dX4_isAboard_29 : decode cX4_isAboard 29 = .ok (.aload_n 1, 1) := by decide +kernel
theorem dX4_isAboard_30 : decode cX4_isAboard 30 = .ok (.if_acmp .ne 13, 3) := by decide +kernel
theorem dX4_isAboard_33 : decode cX4_isAboard 33 = .ok (.aload_n 3, 1) := by decide +kernel
theorem dX4_isAboard_34 : decode cX4_isAboard 34 = .ok (.getfield 125, 3) := by decide +kernel
theorem dX4_isAboard_37 : decode cX4_isAboard 37 = .ok (.iconst 3, 1) := by decide +kernel
theorem dX4_isAboard_38 : decode cX4_isAboard 38 = .ok (.if_icmp .ne 5, 3) := by decide +kernel
theorem dX4_isAboard_41 : decode cX4_isAboard 41 = .ok (.iconst 1, 1) := by decide +kernel
theorem dX4_isAboard_42 : decode cX4_isAboard 42 = .ok (.ireturn, 1) := by decide +kernel
theorem dX4_isAboard_43 : decode cX4_isAboard 43 = .ok (.iinc 2 1, 3) := by decide +kernel
theorem dX4_isAboard_46 : decode cX4_isAboard 46 = .ok (.goto (-44), 3) := by decide +kernel
theorem dX4_isAboard_49 : decode cX4_isAboard 49 = .ok (.iconst 0, 1) := by decide +kernel
theorem dX4_isAboard_50 : decode cX4_isAboard 50 = .ok (.ireturn, 1) := by decide +kernel
theorem dX4_howManyAre_0 : decode cX4_howManyAre 0 = .ok (.iconst 0, 1) := by decide +kernel
theorem dX4_howManyAre_1 : decode cX4_howManyAre 1 = .ok (.istore_n 2, 1) := by decide +kernel
theorem dX4_howManyAre_2 : decode cX4_howManyAre 2 = .ok (.iconst 0, 1) := by decide +kernel
theorem dX4_howManyAre_3 : decode cX4_howManyAre 3 = .ok (.istore_n 3, 1) := by decide +kernel
theorem dX4_howManyAre_4 : decode cX4_howManyAre 4 = .ok (.iload_n 3, 1) := by decide +kernel
theorem dX4_howManyAre_5 : decode cX4_howManyAre 5 = .ok (.aload_n 0, 1) := by decide +kernel
theorem dX4_howManyAre_6 : decode cX4_howManyAre 6 = .ok (.getfield 26, 3) := by decide +kernel
theorem dX4_howManyAre_9 : decode cX4_howManyAre 9 = .ok (.invokevirtual 43, 3) := by decide +kernel
theorem dX4_howManyAre_12 : decode cX4_howManyAre 12 = .ok (.if_icmp .ge 30, 3) := by decide +kernel
theorem dX4_howManyAre_15 : decode cX4_howManyAre 15 = .ok (.aload_n 0, 1) := by decide +kernel
theorem dX4_howManyAre_16 : decode cX4_howManyAre 16 = .ok (.getfield 26, 3) := by decide +kernel
theorem dX4_howManyAre_19 : decode cX4_howManyAre 19 = .ok (.iload_n 3, 1) := by decide +kernel
theorem dX4_howManyAre_20 : decode cX4_howManyAre 20 = .ok (.invokevirtual 145, 3) := by decide +kernel
theorem dX4_howManyAre_23 : decode cX4_howManyAre 23 = .ok (.checkcast 71, 3) := by decide +kernel
theorem dX4_howManyAre_26 : decode cX4_howManyAre 26 = .ok (.getfield 125, 3) := by decide +kernel
theorem dX4_howManyAre_29 : decode cX4_howManyAre 29 = .ok (.iload_n 1, 1) := by decide +kernel
theorem dX4_howManyAre_30 : decode cX4_howManyAre 30 = .ok (.if_icmp .ne 6, 3) := by decide +kernel
theorem dX4_howManyAre_33 : decode cX4_howManyAre 33 = .ok (.iinc 2 1, 3) := by decide +kernel
theorem dX4_howManyAre_36 : decode cX4_howManyAre 36 = .ok (.iinc 3 1, 3) := by decide +kernel
theorem dX4_howManyAre_39 : decode cX4_howManyAre 39 = .ok (.goto (-35), 3) := by decide +kernel
theorem dX4_howManyAre_42 : decode cX4_howManyAre 42 = .ok (.iload_n 2, 1) := by decide +kernel
theorem dX4_howManyAre_43 : decode cX4_howManyAre 43 = .ok (.ireturn, 1) := by decide +kernel
theorem dX4_allBills_0 : decode cX4_allBills 0 = .ok (.iconst 0, 1) := by decide +kernel
theorem dX4_allBills_1 : decode cX4_allBills 1 = .ok (.istore_n 1, 1) := by decide +kernel
theorem dX4_allBills_2 : decode cX4_allBills 2 = .ok (.iconst 0, 1) := by decide +kernel
theorem dX4_allBills_3 : decode cX4_allBills 3 = .ok (.istore_n 2, 1) := by decide +kernel
theorem dX4_allBills_4 : decode cX4_allBills 4 = .ok (.iload_n 2, 1) := by decide +kernel
theorem dX4_allBills_5 : decode cX4_allBills 5 = .ok (.aload_n 0, 1) := by decide +kernel
theorem dX4_allBills_6 : decode cX4_allBills 6 = .ok (.getfield 19, 3) := by decide +kernel
theorem dX4_allBills_9 : decode cX4_allBills 9 = .ok (.invokevirtual 43, 3) := by decide +kernel
theorem dX4_allBills_12 : decode cX4_allBills 12 = .ok (.if_icmp .ge 26, 3) := by decide +kernel
theorem dX4_allBills_15 : decode cX4_allBills 15 = .ok (.iload_n 1, 1) := by decide +kernel
theorem dX4_allBills_16 : decode cX4_allBills 16 = .ok (.aload_n 0, 1) := by decide +kernel
theorem dX4_allBills_17 : decode cX4_allBills 17 = .ok (.getfield 19, 3) := by decide +kernel
theorem dX4_allBills_20 : decode cX4_allBills 20 = .ok (.iload_n 2, 1) := by decide +kernel
theorem dX4_allBills_21 : decode cX4_allBills 21 = .ok (.invokevirtual 145, 3) := by decide +kernel
theorem dX4_allBills_24 : decode cX4_allBills 24 = .ok (.checkcast 51, 3) := by decide +kernel
theorem dX4_allBills_27 : decode cX4_allBills 27 = .ok (.getfield 196, 3) := by decide +kernel
theorem dX4_allBills_30 : decode cX4_allBills 30 = .ok (.iadd, 1) := by decide +kernel
theorem dX4_allBills_31 : decode cX4_allBills 31 = .ok (.istore_n 1, 1) := by decide +kernel
theorem dX4_allBills_32 : decode cX4_allBills 32 = .ok (.iinc 2 1, 3) := by decide +kernel
theorem dX4_allBills_35 : decode cX4_allBills 35 = .ok (.goto (-31), 3) := by decide +kernel
theorem dX4_allBills_38 : decode cX4_allBills 38 = .ok (.iload_n 1, 1) := by decide +kernel
theorem dX4_allBills_39 : decode cX4_allBills 39 = .ok (.ireturn, 1) := by decide +kernel
theorem dX5_init_0 : decode cX5_init 0 = .ok (.aload_n 0, 1) := by decide +kernel
theorem dX5_init_1 : decode cX5_init 1 = .ok (.invokespecial 1, 3) := by decide +kernel
theorem dX5_init_4 : decode cX5_init 4 = .ok (.aload_n 0, 1) := by decide +kernel
theorem dX5_init_5 : decode cX5_init 5 = .ok (.bipush 100, 2) := by decide +kernel
theorem dX5_init_7 : decode cX5_init 7 = .ok (.putfield 7, 3) := by decide +kernel
theorem dX5_init_10 : decode cX5_init 10 = .ok (.aload_n 0, 1) := by decide +kernel
theorem dX5_init_11 : decode cX5_init 11 = .ok (.bipush 40, 2) := by decide +kernel
theorem dX5_init_13 : decode cX5_init 13 = .ok (.putfield 13, 3) := by decide +kernel
theorem dX5_init_16 : decode cX5_init 16 = .ok (.aload_n 0, 1) := by decide +kernel
theorem dX5_init_17 : decode cX5_init 17 = .ok (.iconst 2, 1) := by decide +kernel
theorem dX5_init_18 : decode cX5_init 18 = .ok (.putfield 16, 3) := by decide +kernel
theorem dX5_init_21 : decode cX5_init 21 = .ok (.aload_n 0, 1) := by decide +kernel
theorem dX5_init_22 : decode cX5_init 22 = .ok (.bipush 12, 2) := by decide +kernel
theorem dX5_init_24 : decode cX5_init 24 = .ok (.newarray .int, 2) := by decide +kernel
theorem dX5_init_26 : decode cX5_init 26 = .ok (.putfield 19, 3) := by decide +kernel
theorem dX5_init_29 : decode cX5_init 29 = .ok (.aload_n 0, 1) := by decide +kernel
theorem dX5_init_30 : decode cX5_init 30 = .ok (.bipush 12, 2) := by decide +kernel
theorem dX5_init_32 : decode cX5_init 32 = .ok (.newarray .int, 2) := by decide +kernel
theorem dX5_init_34 : decode cX5_init 34 = .ok (.putfield 23, 3) := by decide +kernel
theorem dX5_init_37 : decode cX5_init 37 = .ok (.aload_n 0, 1) := by decide +kernel
theorem dX5_init_38 : decode cX5_init 38 = .ok (.bipush 12, 2) := by decide +kernel
theorem dX5_init_40 : decode cX5_init 40 = .ok (.newarray .int, 2) := by decide +kernel
theorem dX5_init_42 : decode cX5_init 42 = .ok (.putfield 26, 3) := by decide +kernel
theorem dX5_init_45 : decode cX5_init 45 = .ok (.aload_n 0, 1) := by decide +kernel
theorem dX5_init_46 : decode cX5_init 46 = .ok (.bipush 12, 2) := by decide +kernel
theorem dX5_init_48 : decode cX5_init 48 = .ok (.newarray .int, 2) := by decide +kernel
theorem dX5_init_50 : decode cX5_init 50 = .ok (.putfield 29, 3) := by decide +kernel
theorem dX5_init_53 : decode cX5_init 53 = .ok (.aload_n 0, 1) := by decide +kernel
theorem dX5_init_54 : decode cX5_init 54 = .ok (.bipush 12, 2) := by decide +kernel
theorem dX5_init_56 : decode cX5_init 56 = .ok (.newarray .int, 2) := by decide +kernel
theorem dX5_init_58 : decode cX5_init 58 = .ok (.putfield 32, 3) := by decide +kernel
theorem dX5_init_61 : decode cX5_init 61 = .ok (.aload_n 0, 1) := by decide +kernel
theorem dX5_init_62 : decode cX5_init 62 = .ok (.bipush 8, 2) := by decide +kernel
theorem dX5_init_64 : decode cX5_init 64 = .ok (.newarray .int, 2) := by decide +kernel
theorem dX5_init_66 : decode cX5_init 66 = .ok (.putfield 35, 3) := by decide +kernel
theorem dX5_init_69 : decode cX5_init 69 = .ok (.aload_n 0, 1) := by decide +kernel
theorem dX5_init_70 : decode cX5_init 70 = .ok (.bipush 8, 2) := by decide +kernel
theorem dX5_init_72 : decode cX5_init 72 = .ok (.newarray .int, 2) := by decide +kernel
theorem dX5_init_74 : decode cX5_init 74 = .ok (.putfield 38, 3) := by decide +kernel
theorem dX5_init_77 : decode cX5_init 77 = .ok (.aload_n 0, 1) := by decide +kernel
theorem dX5_init_78 : decode cX5_init 78 = .ok (.bipush 40, 2) := by decide +kernel
theorem dX5_init_80 : decode cX5_init 80 = .ok (.newarray .int, 2) := by decide +kernel
theorem dX5_init_82 : decode cX5_init 82 = .ok (.putfield 41, 3) := by decide +kernel
theorem dX5_init_85 : decode cX5_init 85 = .ok (.aload_n 0, 1) := by decide +kernel
theorem dX5_init_86 : decode cX5_init 86 = .ok (.bipush 40, 2) := by decide +kernel
theorem dX5_init_88 : decode cX5_init 88 = .ok (.newarray .int, 2) := by decide +kernel
theorem dX5_init_90 : decode cX5_init 90 = .ok (.putfield 44, 3) := by decide +kernel
theorem dX5_init_93 : decode cX5_init 93 = .ok (.aload_n 0, 1) := by decide +kernel
theorem dX5_init_94 : decode cX5_init 94 = .ok (.bipush 40, 2) := by decide +kernel
theorem dX5_init_96 : decode cX5_init 96 = .ok (.newarray .int, 2) := by decide +kernel
theorem dX5_init_98 : decode cX5_init 98 = .ok (.putfield 47, 3) := by decide +kernel
theorem dX5_init_101 : decode cX5_init 101 = .ok (.aload_n 0, 1) := by decide +kernel
theorem dX5_init_102 : decode cX5_init 102 = .ok (.bipush 40, 2) := by decide +kernel
theorem dX5_init_104 : decode cX5_init 104 = .ok (.newarray .int, 2) := by decide +kernel
theorem dX5_init_106 : decode cX5_init 106 = .ok (.putfield 50, 3) := by decide +kernel
theorem dX5_init_109 : decode cX5_init 109 = .ok (.aload_n 0, 1) := by decide +kernel
theorem dX5_init_110 : decode cX5_init 110 = .ok (.bipush 40, 2) := by decide +kernel
theorem dX5_init_112 : decode cX5_init 112 = .ok (.newarray .int, 2) := by decide +kernel
theorem dX5_init_114 : decode cX5_init 114 = .ok (.putfield 53, 3) := by decide +kernel
theorem dX5_init_117 : decode cX5_init 117 = .ok (.aload_n 0, 1) := by decide +kernel
theorem dX5_init_118 : decode cX5_init 118 = .ok (.bipush 40, 2) := by decide +kernel
theorem dX5_init_120 : decode cX5_init 120 = .ok (.newarray .int, 2) := by decide +kernel
theorem dX5_init_122 : decode cX5_init 122 = .ok (.putfield 56, 3) := by decide +kernel
theorem dX5_init_125 : decode cX5_init 125 = .ok (.return_, 1) := by decide +kernel
theorem dX5_thrown_0 : decode cX5_thrown 0 = .ok (.aload_n 0, 1) := by decide +kernel
theorem dX5_thrown_1 : decode cX5_thrown 1 = .ok (.getfield 59, 3) := by decide +kernel
theorem dX5_thrown_4 : decode cX5_thrown 4 = .ok (.ireturn, 1) := by decide +kernel
theorem dX5_in_0 : decode cX5_in 0 = .ok (.iload_n 0, 1) := by decide +kernel
theorem dX5_in_1 : decode cX5_in 1 = .ok (.iload_n 1, 1) := by decide +kernel
theorem dX5_in_2 : decode cX5_in 2 = .ok (.if_icmp .lt 12, 3) := by decide +kernel
theorem dX5_in_5 : decode cX5_in 5 = .ok (.iload_n 0, 1) := by decide +kernel
theorem dX5_in_6 : decode cX5_in 6 = .ok (.iload_n 2, 1) := by decide +kernel
theorem dX5_in_7 : decode cX5_in 7 = .ok (.if_icmp .gt 7, 3) := by decide +kernel
theorem dX5_in_10 : decode cX5_in 10 = .ok (.iconst 1, 1) := by decide +kernel
theorem dX5_in_11 : decode cX5_in 11 = .ok (.goto 4, 3) := by decide +kernel
theorem dX5_in_14 : decode cX5_in 14 = .ok (.iconst 0, 1) := by decide +kernel
theorem dX5_in_15 : decode cX5_in 15 = .ok (.ireturn, 1) := by decide +kernel
theorem dX5_isShip_0 : decode cX5_isShip 0 = .ok (.iload_n 1, 1) := by decide +kernel
theorem dX5_isShip_1 : decode cX5_isShip 1 = .ok (.iconst 0, 1) := by decide +kernel
theorem dX5_isShip_2 : decode cX5_isShip 2 = .ok (.aload_n 0, 1) := by decide +kernel
theorem dX5_isShip_3 : decode cX5_isShip 3 = .ok (.getfield 62, 3) := by decide +kernel
theorem dX5_isShip_6 : decode cX5_isShip 6 = .ok (.iconst 1, 1) := by decide +kernel
theorem dX5_isShip_7 : decode cX5_isShip 7 = .ok (.isub, 1) := by decide +kernel
theorem dX5_isShip_8 : decode cX5_isShip 8 = .ok (.invokestatic 65, 3) := by decide +kernel
theorem dX5_isShip_11 : decode cX5_isShip 11 = .ok (.ireturn, 1) := by decide +kernel
theorem dX5_isPilot_0 : decode cX5_isPilot 0 = .ok (.iload_n 1, 1) := by decide +kernel
theorem dX5_isPilot_1 : decode cX5_isPilot 1 = .ok (.iconst 0, 1) := by decide +kernel
theorem dX5_isPilot_2 : decode cX5_isPilot 2 = .ok (.aload_n 0, 1) := by decide +kernel
theorem dX5_isPilot_3 : decode cX5_isPilot 3 = .ok (.getfield 68, 3) := by decide +kernel
theorem dX5_isPilot_6 : decode cX5_isPilot 6 = .ok (.iconst 1, 1) := by decide +kernel
theorem dX5_isPilot_7 : decode cX5_isPilot 7 = .ok (.isub, 1) := by decide +kernel
theorem dX5_isPilot_8 : decode cX5_isPilot 8 = .ok (.invokestatic 65, 3) := by decide +kernel
theorem dX5_isPilot_11 : decode cX5_isPilot 11 = .ok (.ireturn, 1) := by decide +kernel
theorem dX5_isConference_0 : decode cX5_isConference 0 = .ok (.iload_n 1, 1) := by decide +kernel
theorem dX5_isConference_1 : decode cX5_isConference 1 = .ok (.iconst 0, 1) := by decide +kernel
theorem dX5_isConference_2 : decode cX5_isConference 2 = .ok (.aload_n 0, 1) := by decide +kernel
theorem dX5_isConference_3 : decode cX5_isConference 3 = .ok (.getfield 71, 3) := by decide +kernel
theorem dX5_isConference_6 : decode cX5_isConference 6 = .ok (.iconst 1, 1) := by decide +kernel
theorem dX5_isConference_7 : decode cX5_isConference 7 = .ok (.isub, 1) := by decide +kernel
theorem dX5_isConference_8 : decode cX5_isConference 8 = .ok (.invokestatic 65, 3) := by decide +kernel
theorem dX5_isConference_11 : decode cX5_isConference 11 = .ok (.ireturn, 1) := by decide +kernel
theorem dX5_tide_0 : decode cX5_tide 0 = .ok (.aload_n 0, 1) := by decide +kernel
theorem dX5_tide_1 : decode cX5_tide 1 = .ok (.iload_n 1, 1) := by decide +kernel
theorem dX5_tide_2 : decode cX5_tide 2 = .ok (.bipush 10, 2) := by decide +kernel
theorem dX5_tide_4 : decode cX5_tide 4 = .ok (.sipush 300, 3) := by decide +kernel
theorem dX5_tide_7 : decode cX5_tide 7 = .ok (.invokestatic 65, 3) := by decide +kernel
theorem dX5_tide_10 : decode cX5_tide 10 = .ok (.ifCond .eq 18, 3) := by decide +kernel
theorem dX5_tide_13 : decode cX5_tide 13 = .ok (.iload_n 2, 1) := by decide +kernel
theorem dX5_tide_14 : decode cX5_tide 14 = .ok (.iconst 0, 1) := by decide +kernel
theorem dX5_tide_15 : decode cX5_tide 15 = .ok (.sipush 200, 3) := by decide +kernel
theorem dX5_tide_18 : decode cX5_tide 18 = .ok (.invokestatic 65, 3) := by decide +kernel
theorem dX5_tide_21 : decode cX5_tide 21 = .ok (.ifCond .eq 7, 3) := by decide +kernel
theorem dX5_tide_24 : decode cX5_tide 24 = .ok (.iconst 0, 1) := by decide +kernel
theorem dX5_tide_25 : decode cX5_tide 25 = .ok (.goto 4, 3) := by decide +kernel
theorem dX5_tide_28 : decode cX5_tide 28 = .ok (.iconst 1, 1) := by decide +kernel
theorem dX5_tide_29 : decode cX5_tide 29 = .ok (.putfield 59, 3) := by decide +kernel
theorem dX5_tide_32 : decode cX5_tide 32 = .ok (.aload_n 0, 1) := by decide +kernel
theorem dX5_tide_33 : decode cX5_tide 33 = .ok (.getfield 59, 3) := by decide +kernel
theorem dX5_tide_36 : decode cX5_tide 36 = .ok (.ifCond .ne 13, 3) := by decide +kernel
theorem dX5_tide_39 : decode cX5_tide 39 = .ok (.aload_n 0, 1) := by decide +kernel
theorem dX5_tide_40 : decode cX5_tide 40 = .ok (.iload_n 1, 1) := by decide +kernel
theorem dX5_tide_41 : decode cX5_tide 41 = .ok (.putfield 7, 3) := by decide +kernel
theorem dX5_tide_44 : decode cX5_tide 44 = .ok (.aload_n 0, 1) := by decide +kernel
theorem dX5_tide_45 : decode cX5_tide 45 = .ok (.iload_n 2, 1) := by decide +kernel
theorem dX5_tide_46 : decode cX5_tide 46 = .ok (.putfield 13, 3) := by decide +kernel
theorem dX5_tide_49 : decode cX5_tide 49 = .ok (.return_, 1) := by decide +kernel
theorem dX5_tugs_0 : decode cX5_tugs 0 = .ok (.aload_n 0, 1) := by decide +kernel
theorem dX5_tugs_1 : decode cX5_tugs 1 = .ok (.iload_n 1, 1) := by decide +kernel
theorem dX5_tugs_2 : decode cX5_tugs 2 = .ok (.iconst 0, 1) := by decide +kernel
theorem dX5_tugs_3 : decode cX5_tugs 3 = .ok (.bipush 6, 2) := by decide +kernel
theorem dX5_tugs_5 : decode cX5_tugs 5 = .ok (.invokestatic 65, 3) := by decide +kernel
theorem dX5_tugs_8 : decode cX5_tugs 8 = .ok (.ifCond .eq 7, 3) := by decide +kernel
theorem dX5_tugs_11 : decode cX5_tugs 11 = .ok (.iconst 0, 1) := by decide +kernel
theorem dX5_tugs_12 : decode cX5_tugs 12 = .ok (.goto 4, 3) := by decide +kernel
theorem dX5_tugs_15 : decode cX5_tugs 15 = .ok (.iconst 1, 1) := by decide +kernel
theorem dX5_tugs_16 : decode cX5_tugs 16 = .ok (.putfield 59, 3) := by decide +kernel
theorem dX5_tugs_19 : decode cX5_tugs 19 = .ok (.aload_n 0, 1) := by decide +kernel
theorem dX5_tugs_20 : decode cX5_tugs 20 = .ok (.getfield 59, 3) := by decide +kernel
theorem dX5_tugs_23 : decode cX5_tugs 23 = .ok (.ifCond .le 5, 3) := by decide +kernel
theorem dX5_tugs_26 : decode cX5_tugs 26 = .ok (.iconst 0, 1) := by decide +kernel
theorem dX5_tugs_27 : decode cX5_tugs 27 = .ok (.ireturn, 1) := by decide +kernel
theorem dX5_tugs_28 : decode cX5_tugs 28 = .ok (.aload_n 0, 1) := by decide +kernel
theorem dX5_tugs_29 : decode cX5_tugs 29 = .ok (.getfield 16, 3) := by decide +kernel
theorem dX5_tugs_32 : decode cX5_tugs 32 = .ok (.istore_n 2, 1) := by decide +kernel
theorem dX5_tugs_33 : decode cX5_tugs 33 = .ok (.aload_n 0, 1) := by decide +kernel
theorem dX5_tugs_34 : decode cX5_tugs 34 = .ok (.iload_n 1, 1) := by decide +kernel
theorem dX5_tugs_35 : decode cX5_tugs 35 = .ok (.putfield 16, 3) := by decide +kernel
theorem dX5_tugs_38 : decode cX5_tugs 38 = .ok (.iload_n 2, 1) := by decide +kernel
theorem dX5_tugs_39 : decode cX5_tugs 39 = .ok (.ireturn, 1) := by decide +kernel
theorem dX5_ship_0 : decode cX5_ship 0 = .ok (.iload_n 1, 1) := by decide +kernel
theorem dX5_ship_1 : decode cX5_ship 1 = .ok (.iconst 1, 1) := by decide +kernel
theorem dX5_ship_2 : decode cX5_ship 2 = .ok (.sipush 400, 3) := by decide +kernel
theorem dX5_ship_5 : decode cX5_ship 5 = .ok (.invokestatic 65, 3) := by decide +kernel
theorem dX5_ship_8 : decode cX5_ship 8 = .ok (.ifCond .eq 39, 3) := by decide +kernel
theorem dX5_ship_11 : decode cX5_ship 11 = .ok (.iload_n 2, 1) := by decide +kernel
theorem dX5_ship_12 : decode cX5_ship 12 = .ok (.iconst 1, 1) := by decide +kernel
theorem dX5_ship_13 : decode cX5_ship 13 = .ok (.sipush 9999, 3) := by decide +kernel
theorem dX5_ship_16 : decode cX5_ship 16 = .ok (.invokestatic 65, 3) := by decide +kernel
theorem dX5_ship_19 : decode cX5_ship 19 = .ok (.ifCond .eq 28, 3) := by decide +kernel
theorem dX5_ship_22 : decode cX5_ship 22 = .ok (.iload_n 3, 1) := by decide +kernel
theorem dX5_ship_23 : decode cX5_ship 23 = .ok (.bipush 10, 2) := by decide +kernel
theorem dX5_ship_25 : decode cX5_ship 25 = .ok (.bipush 120, 2) := by decide +kernel
theorem dX5_ship_27 : decode cX5_ship 27 = .ok (.invokestatic 65, 3) := by decide +kernel
theorem dX5_ship_30 : decode cX5_ship 30 = .ok (.ifCond .eq 17, 3) := by decide +kernel
theorem dX5_ship_33 : decode cX5_ship 33 = .ok (.iload 4, 2) := by decide +kernel
theorem dX5_ship_35 : decode cX5_ship 35 = .ok (.iconst 0, 1) := by decide +kernel
theorem dX5_ship_36 : decode cX5_ship 36 = .ok (.iconst 3, 1) := by decide +kernel
theorem dX5_ship_37 : decode cX5_ship 37 = .ok (.invokestatic 65, 3) := by decide +kernel
theorem dX5_ship_40 : decode cX5_ship 40 = .ok (.ifCond .eq 7, 3) := by decide +kernel
theorem dX5_ship_43 : decode cX5_ship 43 = .ok (.iconst 1, 1) := by decide +kernel
theorem dX5_ship_44 : decode cX5_ship 44 = .ok (.goto 4, 3) := by decide +kernel
theorem dX5_ship_47 : decode cX5_ship 47 = .ok (.iconst 0, 1) := by decide +kernel
theorem dX5_ship_48 : decode cX5_ship 48 = .ok (.istore 5, 2) := by decide +kernel
theorem dX5_ship_50 : decode cX5_ship 50 = .ok (.aload_n 0, 1) := by decide +kernel
theorem dX5_ship_51 : decode cX5_ship 51 = .ok (.iload 5, 2) := by decide +kernel
theorem dX5_ship_53 : decode cX5_ship 53 = .ok (.ifCond .ne 7, 3) := by decide +kernel
theorem dX5_ship_56 : decode cX5_ship 56 = .ok (.iconst 1, 1) := by decide +kernel
theorem dX5_ship_57 : decode cX5_ship 57 = .ok (.goto 17, 3) := by decide +kernel
theorem dX5_ship_60 : decode cX5_ship 60 = .ok (.aload_n 0, 1) := by decide +kernel
theorem dX5_ship_61 : decode cX5_ship 61 = .ok (.getfield 62, 3) := by decide +kernel
theorem dX5_ship_64 : decode cX5_ship 64 = .ok (.bipush 12, 2) := by decide +kernel
theorem dX5_ship_66 : decode cX5_ship 66 = .ok (.if_icmp .ne 7, 3) := by decide +kernel
theorem dX5_ship_69 : decode cX5_ship 69 = .ok (.iconst 2, 1) := by decide +kernel
theorem dX5_ship_70 : decode cX5_ship 70 = .ok (.goto 4, 3) := by decide +kernel
theorem dX5_ship_73 : decode cX5_ship 73 = .ok (.iconst 0, 1) := by decide +kernel
theorem dX5_ship_74 : decode cX5_ship 74 = .ok (.putfield 59, 3) := by decide +kernel
theorem dX5_ship_77 : decode cX5_ship 77 = .ok (.aload_n 0, 1) := by decide +kernel
theorem dX5_ship_78 : decode cX5_ship 78 = .ok (.getfield 59, 3) := by decide +kernel
theorem dX5_ship_81 : decode cX5_ship 81 = .ok (.ifCond .le 5, 3) := by decide +kernel
theorem dX5_ship_84 : decode cX5_ship 84 = .ok (.iconst 0, 1) := by decide +kernel
theorem dX5_ship_85 : decode cX5_ship 85 = .ok (.ireturn, 1) := by decide +kernel
theorem dX5_ship_86 : decode cX5_ship 86 = .ok (.aload_n 0, 1) := by decide +kernel
theorem dX5_ship_87 : decode cX5_ship 87 = .ok (.getfield 19, 3) := by decide +kernel
theorem dX5_ship_90 : decode cX5_ship 90 = .ok (.aload_n 0, 1) := by decide +kernel
theorem dX5_ship_91 : decode cX5_ship 91 = .ok (.getfield 62, 3) := by decide +kernel
theorem dX5_ship_94 : decode cX5_ship 94 = .ok (.iload_n 1, 1) := by decide +kernel
theorem dX5_ship_95 : decode cX5_ship 95 = .ok (.iastore, 1) := by decide +kernel
theorem dX5_ship_96 : decode cX5_ship 96 = .ok (.aload_n 0, 1) := by decide +kernel
theorem dX5_ship_97 : decode cX5_ship 97 = .ok (.getfield 23, 3) := by decide +kernel
theorem dX5_ship_100 : decode cX5_ship 100 = .ok (.aload_n 0, 1) := by decide +kernel
theorem dX5_ship_101 : decode cX5_ship 101 = .ok (.getfield 62, 3) := by decide +kernel
theorem dX5_ship_104 : decode cX5_ship 104 = .ok (.iload_n 2, 1) := by decide +kernel
theorem dX5_ship_105 : decode cX5_ship 105 = .ok (.iastore, 1) := by decide +kernel
theorem dX5_ship_106 : decode cX5_ship 106 = .ok (.aload_n 0, 1) := by decide +kernel
theorem dX5_ship_107 : decode cX5_ship 107 = .ok (.getfield 26, 3) := by decide +kernel
theorem dX5_ship_110 : decode cX5_ship 110 = .ok (.aload_n 0, 1) := by decide +kernel
theorem dX5_ship_111 : decode cX5_ship 111 = .ok (.getfield 62, 3) := by decide +kernel
theorem dX5_ship_114 : decode cX5_ship 114 = .ok (.iload_n 3, 1) := by decide +kernel
theorem dX5_ship_115 : decode cX5_ship 115 = .ok (.iastore, 1) := by decide +kernel
theorem dX5_ship_116 : decode cX5_ship 116 = .ok (.aload_n 0, 1) := by decide +kernel
theorem dX5_ship_117 : decode cX5_ship 117 = .ok (.getfield 29, 3) := by decide +kernel
theorem dX5_ship_120 : decode cX5_ship 120 = .ok (.aload_n 0, 1) := by decide +kernel
theorem dX5_ship_121 : decode cX5_ship 121 = .ok (.getfield 62, 3) := by decide +kernel
theorem dX5_ship_124 : decode cX5_ship 124 = .ok (.iload 4, 2) := by decide +kernel
theorem dX5_ship_126 : decode cX5_ship 126 = .ok (.iastore, 1) := by decide +kernel
theorem dX5_ship_127 : decode cX5_ship 127 = .ok (.aload_n 0, 1) := by decide +kernel
theorem dX5_ship_128 : decode cX5_ship 128 = .ok (.dup, 1) := by decide +kernel
theorem dX5_ship_129 : decode cX5_ship 129 = .ok (.getfield 62, 3) := by decide +kernel
theorem dX5_ship_132 : decode cX5_ship 132 = .ok (.iconst 1, 1) := by decide +kernel
theorem dX5_ship_133 : decode cX5_ship 133 = .ok (.iadd, 1) := by decide +kernel
theorem dX5_ship_134 : decode cX5_ship 134 = .ok (.putfield 62, 3) := by decide +kernel
theorem dX5_ship_137 : decode cX5_ship 137 = .ok (.aload_n 0, 1) := by decide +kernel
theorem dX5_ship_138 : decode cX5_ship 138 = .ok (.getfield 62, 3) := by decide +kernel
theorem dX5_ship_141 : decode cX5_ship 141 = .ok (.iconst 1, 1) := by decide +kernel
theorem dX5_ship_142 : decode cX5_ship 142 = .ok (.isub, 1) := by decide +kernel
theorem dX5_ship_143 : decode cX5_ship 143 = .ok (.ireturn, 1) := by decide +kernel
theorem dX5_pilot_0 : decode cX5_pilot 0 = .ok (.iload_n 1, 1) := by decide +kernel
theorem dX5_pilot_1 : decode cX5_pilot 1 = .ok (.iconst 1, 1) := by decide +kernel
theorem dX5_pilot_2 : decode cX5_pilot 2 = .ok (.sipush 9999, 3) := by decide +kernel
theorem dX5_pilot_5 : decode cX5_pilot 5 = .ok (.invokestatic 65, 3) := by decide +kernel
theorem dX5_pilot_8 : decode cX5_pilot 8 = .ok (.ifCond .eq 17, 3) := by decide +kernel
theorem dX5_pilot_11 : decode cX5_pilot 11 = .ok (.iload_n 2, 1) := by decide +kernel
theorem dX5_pilot_12 : decode cX5_pilot 12 = .ok (.iconst 1, 1) := by decide +kernel
theorem dX5_pilot_13 : decode cX5_pilot 13 = .ok (.bipush 50, 2) := by decide +kernel
theorem dX5_pilot_15 : decode cX5_pilot 15 = .ok (.invokestatic 65, 3) := by decide +kernel
theorem dX5_pilot_18 : decode cX5_pilot 18 = .ok (.ifCond .eq 7, 3) := by decide +kernel
theorem dX5_pilot_21 : decode cX5_pilot 21 = .ok (.iconst 1, 1) := by decide +kernel
theorem dX5_pilot_22 : decode cX5_pilot 22 = .ok (.goto 4, 3) := by decide +kernel
theorem dX5_pilot_25 : decode cX5_pilot 25 = .ok (.iconst 0, 1) := by decide +kernel
theorem dX5_pilot_26 : decode cX5_pilot 26 = .ok (.istore_n 3, 1) := by decide +kernel
theorem dX5_pilot_27 : decode cX5_pilot 27 = .ok (.aload_n 0, 1) := by decide +kernel
theorem dX5_pilot_28 : decode cX5_pilot 28 = .ok (.iload_n 3, 1) := by decide +kernel
theorem dX5_pilot_29 : decode cX5_pilot 29 = .ok (.ifCond .ne 7, 3) := by decide +kernel
theorem dX5_pilot_32 : decode cX5_pilot 32 = .ok (.iconst 1, 1) := by decide +kernel
theorem dX5_pilot_33 : decode cX5_pilot 33 = .ok (.goto 17, 3) := by decide +kernel
theorem dX5_pilot_36 : decode cX5_pilot 36 = .ok (.aload_n 0, 1) := by decide +kernel
theorem dX5_pilot_37 : decode cX5_pilot 37 = .ok (.getfield 68, 3) := by decide +kernel
theorem dX5_pilot_40 : decode cX5_pilot 40 = .ok (.bipush 8, 2) := by decide +kernel
theorem dX5_pilot_42 : decode cX5_pilot 42 = .ok (.if_icmp .ne 7, 3) := by decide +kernel
theorem dX5_pilot_45 : decode cX5_pilot 45 = .ok (.iconst 2, 1) := by decide +kernel
theorem dX5_pilot_46 : decode cX5_pilot 46 = .ok (.goto 4, 3) := by decide +kernel
theorem dX5_pilot_49 : decode cX5_pilot 49 = .ok (.iconst 0, 1) := by decide +kernel
theorem dX5_pilot_50 : decode cX5_pilot 50 = .ok (.putfield 59, 3) := by decide +kernel
theorem dX5_pilot_53 : decode cX5_pilot 53 = .ok (.aload_n 0, 1) := by decide +kernel
theorem dX5_pilot_54 : decode cX5_pilot 54 = .ok (.getfield 59, 3) := by decide +kernel
theorem dX5_pilot_57 : decode cX5_pilot 57 = .ok (.ifCond .le 5, 3) := by decide +kernel
theorem dX5_pilot_60 : decode cX5_pilot 60 = .ok (.iconst 0, 1) := by decide +kernel
theorem dX5_pilot_61 : decode cX5_pilot 61 = .ok (.ireturn, 1) := by decide +kernel
theorem dX5_pilot_62 : decode cX5_pilot 62 = .ok (.aload_n 0, 1) := by decide +kernel
theorem dX5_pilot_63 : decode cX5_pilot 63 = .ok (.getfield 35, 3) := by decide +kernel
theorem dX5_pilot_66 : decode cX5_pilot 66 = .ok (.aload_n 0, 1) := by decide +kernel
theorem dX5_pilot_67 : decode cX5_pilot 67 = .ok (.getfield 68, 3) := by decide +kernel
theorem dX5_pilot_70 : decode cX5_pilot 70 = .ok (.iload_n 1, 1) := by decide +kernel
theorem dX5_pilot_71 : decode cX5_pilot 71 = .ok (.iastore, 1) := by decide +kernel
theorem dX5_pilot_72 : decode cX5_pilot 72 = .ok (.aload_n 0, 1) := by decide +kernel
theorem dX5_pilot_73 : decode cX5_pilot 73 = .ok (.getfield 38, 3) := by decide +kernel
theorem dX5_pilot_76 : decode cX5_pilot 76 = .ok (.aload_n 0, 1) := by decide +kernel
theorem dX5_pilot_77 : decode cX5_pilot 77 = .ok (.getfield 68, 3) := by decide +kernel
theorem dX5_pilot_80 : decode cX5_pilot 80 = .ok (.iload_n 2, 1) := by decide +kernel
theorem dX5_pilot_81 : decode cX5_pilot 81 = .ok (.iastore, 1) := by decide +kernel
theorem dX5_pilot_82 : decode cX5_pilot 82 = .ok (.aload_n 0, 1) := by decide +kernel
theorem dX5_pilot_83 : decode cX5_pilot 83 = .ok (.dup, 1) := by decide +kernel
theorem dX5_pilot_84 : decode cX5_pilot 84 = .ok (.getfield 68, 3) := by decide +kernel
theorem dX5_pilot_87 : decode cX5_pilot 87 = .ok (.iconst 1, 1) := by decide +kernel
theorem dX5_pilot_88 : decode cX5_pilot 88 = .ok (.iadd, 1) := by decide +kernel
theorem dX5_pilot_89 : decode cX5_pilot 89 = .ok (.putfield 68, 3) := by decide +kernel
theorem dX5_pilot_92 : decode cX5_pilot 92 = .ok (.aload_n 0, 1) := by decide +kernel
theorem dX5_pilot_93 : decode cX5_pilot 93 = .ok (.getfield 68, 3) := by decide +kernel
theorem dX5_pilot_96 : decode cX5_pilot 96 = .ok (.iconst 1, 1) := by decide +kernel
theorem dX5_pilot_97 : decode cX5_pilot 97 = .ok (.isub, 1) := by decide +kernel
theorem dX5_pilot_98 : decode cX5_pilot 98 = .ok (.ireturn, 1) := by decide +kernel
theorem dX5_levelAt_0 : decode cX5_levelAt 0 = .ok (.iload_n 1, 1) := by decide +kernel
theorem dX5_levelAt_1 : decode cX5_levelAt 1 = .ok (.sipush 720, 3) := by decide +kernel
theorem dX5_levelAt_4 : decode cX5_levelAt 4 = .ok (.irem, 1) := by decide +kernel
theorem dX5_levelAt_5 : decode cX5_levelAt 5 = .ok (.istore_n 2, 1) := by decide +kernel
theorem dX5_levelAt_6 : decode cX5_levelAt 6 = .ok (.iload_n 2, 1) := by decide +kernel
theorem dX5_levelAt_7 : decode cX5_levelAt 7 = .ok (.sipush 360, 3) := by decide +kernel
theorem dX5_levelAt_10 : decode cX5_levelAt 10 = .ok (.if_icmp .ge 7, 3) := by decide +kernel
theorem dX5_levelAt_13 : decode cX5_levelAt 13 = .ok (.iload_n 2, 1) := by decide +kernel
theorem dX5_levelAt_14 : decode cX5_levelAt 14 = .ok (.goto 8, 3) := by decide +kernel
theorem dX5_levelAt_17 : decode cX5_levelAt 17 = .ok (.sipush 720, 3) := by decide +kernel
theorem dX5_levelAt_20 : decode cX5_levelAt 20 = .ok (.iload_n 2, 1) := by decide +kernel
theorem dX5_levelAt_21 : decode cX5_levelAt 21 = .ok (.isub, 1) := by decide +kernel
theorem dX5_levelAt_22 : decode cX5_levelAt 22 = .ok (.aload_n 0, 1) := by decide +kernel
theorem dX5_levelAt_23 : decode cX5_levelAt 23 = .ok (.getfield 13, 3) := by decide +kernel
theorem dX5_levelAt_26 : decode cX5_levelAt 26 = .ok (.imul, 1) := by decide +kernel
theorem dX5_levelAt_27 : decode cX5_levelAt 27 = .ok (.sipush 360, 3) := by decide +kernel
theorem dX5_levelAt_30 : decode cX5_levelAt 30 = .ok (.idiv, 1) := by decide +kernel
theorem dX5_levelAt_31 : decode cX5_levelAt 31 = .ok (.ireturn, 1) := by decide +kernel
theorem dX5_tideDoes_0 : decode cX5_tideDoes 0 = .ok (.iload_n 2, 1) := by decide +kernel
theorem dX5_tideDoes_1 : decode cX5_tideDoes 1 = .ok (.aload_n 0, 1) := by decide +kernel
theorem dX5_tideDoes_2 : decode cX5_tideDoes 2 = .ok (.getfield 26, 3) := by decide +kernel
theorem dX5_tideDoes_5 : decode cX5_tideDoes 5 = .ok (.iload_n 1, 1) := by decide +kernel
theorem dX5_tideDoes_6 : decode cX5_tideDoes 6 = .ok (.iaload, 1) := by decide +kernel
theorem dX5_tideDoes_7 : decode cX5_tideDoes 7 = .ok (.iadd, 1) := by decide +kernel
theorem dX5_tideDoes_8 : decode cX5_tideDoes 8 = .ok (.iconst 1, 1) := by decide +kernel
theorem dX5_tideDoes_9 : decode cX5_tideDoes 9 = .ok (.isub, 1) := by decide +kernel
theorem dX5_tideDoes_10 : decode cX5_tideDoes 10 = .ok (.istore_n 3, 1) := by decide +kernel
theorem dX5_tideDoes_11 : decode cX5_tideDoes 11 = .ok (.aload_n 0, 1) := by decide +kernel
theorem dX5_tideDoes_12 : decode cX5_tideDoes 12 = .ok (.iload_n 2, 1) := by decide +kernel
theorem dX5_tideDoes_13 : decode cX5_tideDoes 13 = .ok (.invokevirtual 74, 3) := by decide +kernel
theorem dX5_tideDoes_16 : decode cX5_tideDoes 16 = .ok (.istore 4, 2) := by decide +kernel
theorem dX5_tideDoes_18 : decode cX5_tideDoes 18 = .ok (.aload_n 0, 1) := by decide +kernel
theorem dX5_tideDoes_19 : decode cX5_tideDoes 19 = .ok (.iload_n 3, 1) := by decide +kernel
theorem dX5_tideDoes_20 : decode cX5_tideDoes 20 = .ok (.invokevirtual 74, 3) := by decide +kernel
theorem dX5_tideDoes_23 : decode cX5_tideDoes 23 = .ok (.istore 5, 2) := by decide +kernel
theorem dX5_tideDoes_25 : decode cX5_tideDoes 25 = .ok (.iload_n 2, 1) := by decide +kernel
theorem dX5_tideDoes_26 : decode cX5_tideDoes 26 = .ok (.sipush 720, 3) := by decide +kernel
theorem dX5_tideDoes_29 : decode cX5_tideDoes 29 = .ok (.idiv, 1) := by decide +kernel
theorem dX5_tideDoes_30 : decode cX5_tideDoes 30 = .ok (.iload_n 3, 1) := by decide +kernel
theorem dX5_tideDoes_31 : decode cX5_tideDoes 31 = .ok (.sipush 720, 3) := by decide +kernel
theorem dX5_tideDoes_34 : decode cX5_tideDoes 34 = .ok (.idiv, 1) := by decide +kernel
theorem dX5_tideDoes_35 : decode cX5_tideDoes 35 = .ok (.if_icmp .ge 7, 3) := by decide +kernel
theorem dX5_tideDoes_38 : decode cX5_tideDoes 38 = .ok (.iconst 0, 1) := by decide +kernel
theorem dX5_tideDoes_39 : decode cX5_tideDoes 39 = .ok (.goto 17, 3) := by decide +kernel
theorem dX5_tideDoes_42 : decode cX5_tideDoes 42 = .ok (.iload 4, 2) := by decide +kernel
theorem dX5_tideDoes_44 : decode cX5_tideDoes 44 = .ok (.iload 5, 2) := by decide +kernel
theorem dX5_tideDoes_46 : decode cX5_tideDoes 46 = .ok (.if_icmp .ge 8, 3) := by decide +kernel
theorem dX5_tideDoes_49 : decode cX5_tideDoes 49 = .ok (.iload 4, 2) := by decide +kernel
theorem dX5_tideDoes_51 : decode cX5_tideDoes 51 = .ok (.goto 5, 3) := by decide +kernel
theorem dX5_tideDoes_54 : decode cX5_tideDoes 54 = .ok (.iload 5, 2) := by decide +kernel
theorem dX5_tideDoes_56 : decode cX5_tideDoes 56 = .ok (.istore 6, 2) := by decide +kernel
theorem dX5_tideDoes_58 : decode cX5_tideDoes 58 = .ok (.aload_n 0, 1) := by decide +kernel
theorem dX5_tideDoes_59 : decode cX5_tideDoes 59 = .ok (.getfield 7, 3) := by decide +kernel
theorem dX5_tideDoes_62 : decode cX5_tideDoes 62 = .ok (.iload 6, 2) := by decide +kernel
theorem dX5_tideDoes_64 : decode cX5_tideDoes 64 = .ok (.iadd, 1) := by decide +kernel
theorem dX5_tideDoes_65 : decode cX5_tideDoes 65 = .ok (.aload_n 0, 1) := by decide +kernel
theorem dX5_tideDoes_66 : decode cX5_tideDoes 66 = .ok (.getfield 19, 3) := by decide +kernel
theorem dX5_tideDoes_69 : decode cX5_tideDoes 69 = .ok (.iload_n 1, 1) := by decide +kernel
theorem dX5_tideDoes_70 : decode cX5_tideDoes 70 = .ok (.iaload, 1) := by decide +kernel
theorem dX5_tideDoes_71 : decode cX5_tideDoes 71 = .ok (.bipush 10, 2) := by decide +kernel
theorem dX5_tideDoes_73 : decode cX5_tideDoes 73 = .ok (.iadd, 1) := by decide +kernel
theorem dX5_tideDoes_74 : decode cX5_tideDoes 74 = .ok (.if_icmp .lt 7, 3) := by decide +kernel
theorem dX5_tideDoes_77 : decode cX5_tideDoes 77 = .ok (.iconst 1, 1) := by decide +kernel
theorem dX5_tideDoes_78 : decode cX5_tideDoes 78 = .ok (.goto 4, 3) := by decide +kernel
theorem dX5_tideDoes_81 : decode cX5_tideDoes 81 = .ok (.iconst 0, 1) := by decide +kernel
theorem dX5_tideDoes_82 : decode cX5_tideDoes 82 = .ok (.ireturn, 1) := by decide +kernel
theorem dX5_over_0 : decode cX5_over 0 = .ok (.aload_n 0, 1) := by decide +kernel
theorem dX5_over_1 : decode cX5_over 1 = .ok (.getfield 56, 3) := by decide +kernel
theorem dX5_over_4 : decode cX5_over 4 = .ok (.iload_n 1, 1) := by decide +kernel
theorem dX5_over_5 : decode cX5_over 5 = .ok (.iaload, 1) := by decide +kernel
theorem dX5_over_6 : decode cX5_over 6 = .ok (.aload_n 0, 1) := by decide +kernel
theorem dX5_over_7 : decode cX5_over 7 = .ok (.getfield 26, 3) := by decide +kernel
theorem dX5_over_10 : decode cX5_over 10 = .ok (.aload_n 0, 1) := by decide +kernel
theorem dX5_over_11 : decode cX5_over 11 = .ok (.getfield 41, 3) := by decide +kernel
theorem dX5_over_14 : decode cX5_over 14 = .ok (.iload_n 1, 1) := by decide +kernel
theorem dX5_over_15 : decode cX5_over 15 = .ok (.iaload, 1) := by decide +kernel
theorem dX5_over_16 : decode cX5_over 16 = .ok (.iaload, 1) := by decide +kernel
theorem dX5_over_17 : decode cX5_over 17 = .ok (.iadd, 1) := by decide +kernel
theorem dX5_over_18 : decode cX5_over 18 = .ok (.ireturn, 1) := by decide +kernel
theorem dX5_rest_0 : decode cX5_rest 0 = .ok (.iload_n 0, 1) := by decide +kernel
theorem dX5_rest_1 : decode cX5_rest 1 = .ok (.bipush 60, 2) := by decide +kernel
theorem dX5_rest_3 : decode cX5_rest 3 = .ok (.if_icmp .le 7, 3) := by decide +kernel
theorem dX5_rest_6 : decode cX5_rest 6 = .ok (.iload_n 0, 1) := by decide +kernel
theorem dX5_rest_7 : decode cX5_rest 7 = .ok (.goto 5, 3) := by decide +kernel
theorem dX5_rest_10 : decode cX5_rest 10 = .ok (.bipush 60, 2) := by decide +kernel
theorem dX5_rest_12 : decode cX5_rest 12 = .ok (.ireturn, 1) := by decide +kernel
theorem dX5_hasSlot_0 : decode cX5_hasSlot 0 = .ok (.aload_n 0, 1) := by decide +kernel
theorem dX5_hasSlot_1 : decode cX5_hasSlot 1 = .ok (.getfield 53, 3) := by decide +kernel
theorem dX5_hasSlot_4 : decode cX5_hasSlot 4 = .ok (.iload_n 1, 1) := by decide +kernel
theorem dX5_hasSlot_5 : decode cX5_hasSlot 5 = .ok (.iaload, 1) := by decide +kernel
theorem dX5_hasSlot_6 : decode cX5_hasSlot 6 = .ok (.iconst 2, 1) := by decide +kernel
theorem dX5_hasSlot_7 : decode cX5_hasSlot 7 = .ok (.if_icmp .lt 7, 3) := by decide +kernel
theorem dX5_hasSlot_10 : decode cX5_hasSlot 10 = .ok (.iconst 1, 1) := by decide +kernel
theorem dX5_hasSlot_11 : decode cX5_hasSlot 11 = .ok (.goto 4, 3) := by decide +kernel
theorem dX5_hasSlot_14 : decode cX5_hasSlot 14 = .ok (.iconst 0, 1) := by decide +kernel
theorem dX5_hasSlot_15 : decode cX5_hasSlot 15 = .ok (.ireturn, 1) := by decide +kernel
theorem dX5_pilotDoes_0 : decode cX5_pilotDoes 0 = .ok (.aload_n 0, 1) := by decide +kernel
theorem dX5_pilotDoes_1 : decode cX5_pilotDoes 1 = .ok (.getfield 26, 3) := by decide +kernel
theorem dX5_pilotDoes_4 : decode cX5_pilotDoes 4 = .ok (.aload_n 0, 1) := by decide +kernel
theorem dX5_pilotDoes_5 : decode cX5_pilotDoes 5 = .ok (.getfield 41, 3) := by decide +kernel
theorem dX5_pilotDoes_8 : decode cX5_pilotDoes 8 = .ok (.iload_n 1, 1) := by decide +kernel
theorem dX5_pilotDoes_9 : decode cX5_pilotDoes 9 = .ok (.iaload, 1) := by decide +kernel
theorem dX5_pilotDoes_10 : decode cX5_pilotDoes 10 = .ok (.iaload, 1) := by decide +kernel
theorem dX5_pilotDoes_11 : decode cX5_pilotDoes 11 = .ok (.istore_n 3, 1) := by decide +kernel
theorem dX5_pilotDoes_12 : decode cX5_pilotDoes 12 = .ok (.iconst 1, 1) := by decide +kernel
theorem dX5_pilotDoes_13 : decode cX5_pilotDoes 13 = .ok (.istore 4, 2) := by decide +kernel
theorem dX5_pilotDoes_15 : decode cX5_pilotDoes 15 = .ok (.iconst 0, 1) := by decide +kernel
theorem dX5_pilotDoes_16 : decode cX5_pilotDoes 16 = .ok (.istore 5, 2) := by decide +kernel
theorem dX5_pilotDoes_18 : decode cX5_pilotDoes 18 = .ok (.iload 5, 2) := by decide +kernel
theorem dX5_pilotDoes_20 : decode cX5_pilotDoes 20 = .ok (.aload_n 0, 1) := by decide +kernel
theorem dX5_pilotDoes_21 : decode cX5_pilotDoes 21 = .ok (.getfield 71, 3) := by decide +kernel
theorem dX5_pilotDoes_24 : decode cX5_pilotDoes 24 = .ok (.if_icmp .ge 100, 3) := by decide +kernel
theorem dX5_pilotDoes_27 : decode cX5_pilotDoes 27 = .ok (.iload 5, 2) := by decide +kernel
theorem dX5_pilotDoes_29 : decode cX5_pilotDoes 29 = .ok (.iload_n 1, 1) := by decide +kernel
theorem dX5_pilotDoes_30 : decode cX5_pilotDoes 30 = .ok (.if_icmp .eq 88, 3) := by decide +kernel
theorem dX5_pilotDoes_33 : decode cX5_pilotDoes 33 = .ok (.aload_n 0, 1) := by decide +kernel
theorem dX5_pilotDoes_34 : decode cX5_pilotDoes 34 = .ok (.iload 5, 2) := by decide +kernel
theorem dX5_pilotDoes_36 : decode cX5_pilotDoes 36 = .ok (.invokevirtual 78, 3) := by decide +kernel
theorem dX5_pilotDoes_39 : decode cX5_pilotDoes 39 = .ok (.ifCond .eq 79, 3) := by decide +kernel
theorem dX5_pilotDoes_42 : decode cX5_pilotDoes 42 = .ok (.aload_n 0, 1) := by decide +kernel
theorem dX5_pilotDoes_43 : decode cX5_pilotDoes 43 = .ok (.getfield 50, 3) := by decide +kernel
theorem dX5_pilotDoes_46 : decode cX5_pilotDoes 46 = .ok (.iload 5, 2) := by decide +kernel
theorem dX5_pilotDoes_48 : decode cX5_pilotDoes 48 = .ok (.iaload, 1) := by decide +kernel
theorem dX5_pilotDoes_49 : decode cX5_pilotDoes 49 = .ok (.aload_n 0, 1) := by decide +kernel
theorem dX5_pilotDoes_50 : decode cX5_pilotDoes 50 = .ok (.getfield 50, 3) := by decide +kernel
theorem dX5_pilotDoes_53 : decode cX5_pilotDoes 53 = .ok (.iload_n 1, 1) := by decide +kernel
theorem dX5_pilotDoes_54 : decode cX5_pilotDoes 54 = .ok (.iaload, 1) := by decide +kernel
theorem dX5_pilotDoes_55 : decode cX5_pilotDoes 55 = .ok (.if_icmp .ne 63, 3) := by decide +kernel
theorem dX5_pilotDoes_58 : decode cX5_pilotDoes 58 = .ok (.aload_n 0, 1) := by decide +kernel
theorem dX5_pilotDoes_59 : decode cX5_pilotDoes 59 = .ok (.getfield 26, 3) := by decide +kernel
theorem dX5_pilotDoes_62 : decode cX5_pilotDoes 62 = .ok (.aload_n 0, 1) := by decide +kernel
theorem dX5_pilotDoes_63 : decode cX5_pilotDoes 63 = .ok (.getfield 41, 3) := by decide +kernel
theorem dX5_pilotDoes_66 : decode cX5_pilotDoes 66 = .ok (.iload 5, 2) := by decide +kernel
theorem dX5_pilotDoes_68 : decode cX5_pilotDoes 68 = .ok (.iaload, 1) := by decide +kernel
theorem dX5_pilotDoes_69 : decode cX5_pilotDoes 69 = .ok (.iaload, 1) := by decide +kernel
theorem dX5_pilotDoes_70 : decode cX5_pilotDoes 70 = .ok (.istore 6, 2) := by decide +kernel
theorem dX5_pilotDoes_72 : decode cX5_pilotDoes 72 = .ok (.iload 4, 2) := by decide +kernel
theorem dX5_pilotDoes_74 : decode cX5_pilotDoes 74 = .ok (.ifCond .eq 41, 3) := by decide +kernel
theorem dX5_pilotDoes_77 : decode cX5_pilotDoes 77 = .ok (.iload_n 2, 1) := by decide +kernel
theorem dX5_pilotDoes_78 : decode cX5_pilotDoes 78 = .ok (.aload_n 0, 1) := by decide +kernel
theorem dX5_pilotDoes_79 : decode cX5_pilotDoes 79 = .ok (.iload 5, 2) := by decide +kernel
theorem dX5_pilotDoes_81 : decode cX5_pilotDoes 81 = .ok (.invokevirtual 82, 3) := by decide +kernel
theorem dX5_pilotDoes_84 : decode cX5_pilotDoes 84 = .ok (.iload 6, 2) := by decide +kernel
theorem dX5_pilotDoes_86 : decode cX5_pilotDoes 86 = .ok (.invokestatic 85, 3) := by decide +kernel
theorem dX5_pilotDoes_89 : decode cX5_pilotDoes 89 = .ok (.iadd, 1) := by decide +kernel
theorem dX5_pilotDoes_90 : decode cX5_pilotDoes 90 = .ok (.if_icmp .ge 21, 3) := by decide +kernel
theorem dX5_pilotDoes_93 : decode cX5_pilotDoes 93 = .ok (.aload_n 0, 1) := by decide +kernel
theorem dX5_pilotDoes_94 : decode cX5_pilotDoes 94 = .ok (.getfield 56, 3) := by decide +kernel
theorem dX5_pilotDoes_97 : decode cX5_pilotDoes 97 = .ok (.iload 5, 2) := by decide +kernel
theorem dX5_pilotDoes_99 : decode cX5_pilotDoes 99 = .ok (.iaload, 1) := by decide +kernel
theorem dX5_pilotDoes_100 : decode cX5_pilotDoes 100 = .ok (.iload_n 2, 1) := by decide +kernel
theorem dX5_pilotDoes_101 : decode cX5_pilotDoes 101 = .ok (.iload_n 3, 1) := by decide +kernel
theorem dX5_pilotDoes_102 : decode cX5_pilotDoes 102 = .ok (.iadd, 1) := by decide +kernel
theorem dX5_pilotDoes_103 : decode cX5_pilotDoes 103 = .ok (.iload_n 3, 1) := by decide +kernel
theorem dX5_pilotDoes_104 : decode cX5_pilotDoes 104 = .ok (.invokestatic 85, 3) := by decide +kernel
theorem dX5_pilotDoes_107 : decode cX5_pilotDoes 107 = .ok (.iadd, 1) := by decide +kernel
theorem dX5_pilotDoes_108 : decode cX5_pilotDoes 108 = .ok (.if_icmp .lt 7, 3) := by decide +kernel
theorem dX5_pilotDoes_111 : decode cX5_pilotDoes 111 = .ok (.iconst 1, 1) := by decide +kernel
theorem dX5_pilotDoes_112 : decode cX5_pilotDoes 112 = .ok (.goto 4, 3) := by decide +kernel
theorem dX5_pilotDoes_115 : decode cX5_pilotDoes 115 = .ok (.iconst 0, 1) := by decide +kernel
theorem dX5_pilotDoes_116 : decode cX5_pilotDoes 116 = .ok (.istore 4, 2) := by decide +kernel
theorem dX5_pilotDoes_118 : decode cX5_pilotDoes 118 = .ok (.iinc 5 1, 3) := by decide +kernel
theorem dX5_pilotDoes_121 : decode cX5_pilotDoes 121 = .ok (.goto (-103), 3) := by decide +kernel
theorem dX5_pilotDoes_124 : decode cX5_pilotDoes 124 = .ok (.iload 4, 2) := by decide +kernel
theorem dX5_pilotDoes_126 : decode cX5_pilotDoes 126 = .ok (.ireturn, 1) := by decide +kernel
theorem dX5_tugsIn_0 : decode cX5_tugsIn 0 = .ok (.iconst 0, 1) := by decide +kernel
theorem dX5_tugsIn_1 : decode cX5_tugsIn 1 = .ok (.istore_n 3, 1) := by decide +kernel
theorem dX5_tugsIn_2 : decode cX5_tugsIn 2 = .ok (.iconst 0, 1) := by decide +kernel
theorem dX5_tugsIn_3 : decode cX5_tugsIn 3 = .ok (.istore 4, 2) := by decide +kernel
theorem dX5_tugsIn_5 : decode cX5_tugsIn 5 = .ok (.iload 4, 2) := by decide +kernel
theorem dX5_tugsIn_7 : decode cX5_tugsIn 7 = .ok (.aload_n 0, 1) := by decide +kernel
theorem dX5_tugsIn_8 : decode cX5_tugsIn 8 = .ok (.getfield 71, 3) := by decide +kernel
theorem dX5_tugsIn_11 : decode cX5_tugsIn 11 = .ok (.if_icmp .ge 65, 3) := by decide +kernel
theorem dX5_tugsIn_14 : decode cX5_tugsIn 14 = .ok (.iload_n 3, 1) := by decide +kernel
theorem dX5_tugsIn_15 : decode cX5_tugsIn 15 = .ok (.iload 4, 2) := by decide +kernel
theorem dX5_tugsIn_17 : decode cX5_tugsIn 17 = .ok (.iload_n 1, 1) := by decide +kernel
theorem dX5_tugsIn_18 : decode cX5_tugsIn 18 = .ok (.if_icmp .eq 49, 3) := by decide +kernel
theorem dX5_tugsIn_21 : decode cX5_tugsIn 21 = .ok (.aload_n 0, 1) := by decide +kernel
theorem dX5_tugsIn_22 : decode cX5_tugsIn 22 = .ok (.iload 4, 2) := by decide +kernel
theorem dX5_tugsIn_24 : decode cX5_tugsIn 24 = .ok (.invokevirtual 78, 3) := by decide +kernel
theorem dX5_tugsIn_27 : decode cX5_tugsIn 27 = .ok (.ifCond .eq 40, 3) := by decide +kernel
theorem dX5_tugsIn_30 : decode cX5_tugsIn 30 = .ok (.iload_n 2, 1) := by decide +kernel
theorem dX5_tugsIn_31 : decode cX5_tugsIn 31 = .ok (.aload_n 0, 1) := by decide +kernel
theorem dX5_tugsIn_32 : decode cX5_tugsIn 32 = .ok (.getfield 56, 3) := by decide +kernel
theorem dX5_tugsIn_35 : decode cX5_tugsIn 35 = .ok (.iload 4, 2) := by decide +kernel
theorem dX5_tugsIn_37 : decode cX5_tugsIn 37 = .ok (.iaload, 1) := by decide +kernel
theorem dX5_tugsIn_38 : decode cX5_tugsIn 38 = .ok (.aload_n 0, 1) := by decide +kernel
theorem dX5_tugsIn_39 : decode cX5_tugsIn 39 = .ok (.iload 4, 2) := by decide +kernel
theorem dX5_tugsIn_41 : decode cX5_tugsIn 41 = .ok (.invokevirtual 82, 3) := by decide +kernel
theorem dX5_tugsIn_44 : decode cX5_tugsIn 44 = .ok (.iconst 1, 1) := by decide +kernel
theorem dX5_tugsIn_45 : decode cX5_tugsIn 45 = .ok (.isub, 1) := by decide +kernel
theorem dX5_tugsIn_46 : decode cX5_tugsIn 46 = .ok (.invokestatic 65, 3) := by decide +kernel
theorem dX5_tugsIn_49 : decode cX5_tugsIn 49 = .ok (.ifCond .eq 18, 3) := by decide +kernel
theorem dX5_tugsIn_52 : decode cX5_tugsIn 52 = .ok (.aload_n 0, 1) := by decide +kernel
theorem dX5_tugsIn_53 : decode cX5_tugsIn 53 = .ok (.getfield 29, 3) := by decide +kernel
theorem dX5_tugsIn_56 : decode cX5_tugsIn 56 = .ok (.aload_n 0, 1) := by decide +kernel
theorem dX5_tugsIn_57 : decode cX5_tugsIn 57 = .ok (.getfield 41, 3) := by decide +kernel
theorem dX5_tugsIn_60 : decode cX5_tugsIn 60 = .ok (.iload 4, 2) := by decide +kernel
theorem dX5_tugsIn_62 : decode cX5_tugsIn 62 = .ok (.iaload, 1) := by decide +kernel
theorem dX5_tugsIn_63 : decode cX5_tugsIn 63 = .ok (.iaload, 1) := by decide +kernel
theorem dX5_tugsIn_64 : decode cX5_tugsIn 64 = .ok (.goto 4, 3) := by decide +kernel
theorem dX5_tugsIn_67 : decode cX5_tugsIn 67 = .ok (.iconst 0, 1) := by decide +kernel
theorem dX5_tugsIn_68 : decode cX5_tugsIn 68 = .ok (.iadd, 1) := by decide +kernel
theorem dX5_tugsIn_69 : decode cX5_tugsIn 69 = .ok (.istore_n 3, 1) := by decide +kernel
theorem dX5_tugsIn_70 : decode cX5_tugsIn 70 = .ok (.iinc 4 1, 3) := by decide +kernel
theorem dX5_tugsIn_73 : decode cX5_tugsIn 73 = .ok (.goto (-68), 3) := by decide +kernel
theorem dX5_tugsIn_76 : decode cX5_tugsIn 76 = .ok (.iload_n 3, 1) := by decide +kernel
theorem dX5_tugsIn_77 : decode cX5_tugsIn 77 = .ok (.ireturn, 1) := by decide +kernel
theorem dX5_tugsDo_0 : decode cX5_tugsDo 0 = .ok (.iconst 1, 1) := by decide +kernel
theorem dX5_tugsDo_1 : decode cX5_tugsDo 1 = .ok (.istore_n 3, 1) := by decide +kernel
theorem dX5_tugsDo_2 : decode cX5_tugsDo 2 = .ok (.iload_n 2, 1) := by decide +kernel
theorem dX5_tugsDo_3 : decode cX5_tugsDo 3 = .ok (.istore 4, 2) := by decide +kernel
theorem dX5_tugsDo_5 : decode cX5_tugsDo 5 = .ok (.iload 4, 2) := by decide +kernel
theorem dX5_tugsDo_7 : decode cX5_tugsDo 7 = .ok (.iload_n 2, 1) := by decide +kernel
theorem dX5_tugsDo_8 : decode cX5_tugsDo 8 = .ok (.aload_n 0, 1) := by decide +kernel
theorem dX5_tugsDo_9 : decode cX5_tugsDo 9 = .ok (.getfield 26, 3) := by decide +kernel
theorem dX5_tugsDo_12 : decode cX5_tugsDo 12 = .ok (.aload_n 0, 1) := by decide +kernel
theorem dX5_tugsDo_13 : decode cX5_tugsDo 13 = .ok (.getfield 41, 3) := by decide +kernel
theorem dX5_tugsDo_16 : decode cX5_tugsDo 16 = .ok (.iload_n 1, 1) := by decide +kernel
theorem dX5_tugsDo_17 : decode cX5_tugsDo 17 = .ok (.iaload, 1) := by decide +kernel
theorem dX5_tugsDo_18 : decode cX5_tugsDo 18 = .ok (.iaload, 1) := by decide +kernel
theorem dX5_tugsDo_19 : decode cX5_tugsDo 19 = .ok (.iadd, 1) := by decide +kernel
theorem dX5_tugsDo_20 : decode cX5_tugsDo 20 = .ok (.if_icmp .ge 45, 3) := by decide +kernel
theorem dX5_tugsDo_23 : decode cX5_tugsDo 23 = .ok (.iload_n 3, 1) := by decide +kernel
theorem dX5_tugsDo_24 : decode cX5_tugsDo 24 = .ok (.ifCond .eq 41, 3) := by decide +kernel
theorem dX5_tugsDo_27 : decode cX5_tugsDo 27 = .ok (.aload_n 0, 1) := by decide +kernel
theorem dX5_tugsDo_28 : decode cX5_tugsDo 28 = .ok (.iload_n 1, 1) := by decide +kernel
theorem dX5_tugsDo_29 : decode cX5_tugsDo 29 = .ok (.iload 4, 2) := by decide +kernel
theorem dX5_tugsDo_31 : decode cX5_tugsDo 31 = .ok (.invokevirtual 88, 3) := by decide +kernel
theorem dX5_tugsDo_34 : decode cX5_tugsDo 34 = .ok (.aload_n 0, 1) := by decide +kernel
theorem dX5_tugsDo_35 : decode cX5_tugsDo 35 = .ok (.getfield 29, 3) := by decide +kernel
theorem dX5_tugsDo_38 : decode cX5_tugsDo 38 = .ok (.aload_n 0, 1) := by decide +kernel
theorem dX5_tugsDo_39 : decode cX5_tugsDo 39 = .ok (.getfield 41, 3) := by decide +kernel
theorem dX5_tugsDo_42 : decode cX5_tugsDo 42 = .ok (.iload_n 1, 1) := by decide +kernel
theorem dX5_tugsDo_43 : decode cX5_tugsDo 43 = .ok (.iaload, 1) := by decide +kernel
theorem dX5_tugsDo_44 : decode cX5_tugsDo 44 = .ok (.iaload, 1) := by decide +kernel
theorem dX5_tugsDo_45 : decode cX5_tugsDo 45 = .ok (.iadd, 1) := by decide +kernel
theorem dX5_tugsDo_46 : decode cX5_tugsDo 46 = .ok (.aload_n 0, 1) := by decide +kernel
theorem dX5_tugsDo_47 : decode cX5_tugsDo 47 = .ok (.getfield 16, 3) := by decide +kernel
theorem dX5_tugsDo_50 : decode cX5_tugsDo 50 = .ok (.if_icmp .gt 7, 3) := by decide +kernel
theorem dX5_tugsDo_53 : decode cX5_tugsDo 53 = .ok (.iconst 1, 1) := by decide +kernel
theorem dX5_tugsDo_54 : decode cX5_tugsDo 54 = .ok (.goto 4, 3) := by decide +kernel
theorem dX5_tugsDo_57 : decode cX5_tugsDo 57 = .ok (.iconst 0, 1) := by decide +kernel
theorem dX5_tugsDo_58 : decode cX5_tugsDo 58 = .ok (.istore_n 3, 1) := by decide +kernel
theorem dX5_tugsDo_59 : decode cX5_tugsDo 59 = .ok (.iinc 4 1, 3) := by decide +kernel
theorem dX5_tugsDo_62 : decode cX5_tugsDo 62 = .ok (.goto (-57), 3) := by decide +kernel
theorem dX5_tugsDo_65 : decode cX5_tugsDo 65 = .ok (.iload_n 3, 1) := by decide +kernel
theorem dX5_tugsDo_66 : decode cX5_tugsDo 66 = .ok (.ireturn, 1) := by decide +kernel
theorem dX5_channelDoes_0 : decode cX5_channelDoes 0 = .ok (.iconst 1, 1) := by decide +kernel
theorem dX5_channelDoes_1 : decode cX5_channelDoes 1 = .ok (.istore_n 3, 1) := by decide +kernel
theorem dX5_channelDoes_2 : decode cX5_channelDoes 2 = .ok (.iconst 0, 1) := by decide +kernel
theorem dX5_channelDoes_3 : decode cX5_channelDoes 3 = .ok (.istore 4, 2) := by decide +kernel
theorem dX5_channelDoes_5 : decode cX5_channelDoes 5 = .ok (.iload 4, 2) := by decide +kernel
theorem dX5_channelDoes_7 : decode cX5_channelDoes 7 = .ok (.aload_n 0, 1) := by decide +kernel
theorem dX5_channelDoes_8 : decode cX5_channelDoes 8 = .ok (.getfield 71, 3) := by decide +kernel
theorem dX5_channelDoes_11 : decode cX5_channelDoes 11 = .ok (.if_icmp .ge 62, 3) := by decide +kernel
theorem dX5_channelDoes_14 : decode cX5_channelDoes 14 = .ok (.iload_n 3, 1) := by decide +kernel
theorem dX5_channelDoes_15 : decode cX5_channelDoes 15 = .ok (.ifCond .eq 50, 3) := by decide +kernel
theorem dX5_channelDoes_18 : decode cX5_channelDoes 18 = .ok (.iload 4, 2) := by decide +kernel
theorem dX5_channelDoes_20 : decode cX5_channelDoes 20 = .ok (.iload_n 1, 1) := by decide +kernel
theorem dX5_channelDoes_21 : decode cX5_channelDoes 21 = .ok (.if_icmp .eq 40, 3) := by decide +kernel
theorem dX5_channelDoes_24 : decode cX5_channelDoes 24 = .ok (.aload_n 0, 1) := by decide +kernel
theorem dX5_channelDoes_25 : decode cX5_channelDoes 25 = .ok (.iload 4, 2) := by decide +kernel
theorem dX5_channelDoes_27 : decode cX5_channelDoes 27 = .ok (.invokevirtual 78, 3) := by decide +kernel
theorem dX5_channelDoes_30 : decode cX5_channelDoes 30 = .ok (.ifCond .eq 31, 3) := by decide +kernel
theorem dX5_channelDoes_33 : decode cX5_channelDoes 33 = .ok (.iload_n 2, 1) := by decide +kernel
theorem dX5_channelDoes_34 : decode cX5_channelDoes 34 = .ok (.aload_n 0, 1) := by decide +kernel
theorem dX5_channelDoes_35 : decode cX5_channelDoes 35 = .ok (.getfield 56, 3) := by decide +kernel
theorem dX5_channelDoes_38 : decode cX5_channelDoes 38 = .ok (.iload 4, 2) := by decide +kernel
theorem dX5_channelDoes_40 : decode cX5_channelDoes 40 = .ok (.iaload, 1) := by decide +kernel
theorem dX5_channelDoes_41 : decode cX5_channelDoes 41 = .ok (.isub, 1) := by decide +kernel
theorem dX5_channelDoes_42 : decode cX5_channelDoes 42 = .ok (.bipush 15, 2) := by decide +kernel
theorem dX5_channelDoes_44 : decode cX5_channelDoes 44 = .ok (.if_icmp .ge 17, 3) := by decide +kernel
theorem dX5_channelDoes_47 : decode cX5_channelDoes 47 = .ok (.aload_n 0, 1) := by decide +kernel
theorem dX5_channelDoes_48 : decode cX5_channelDoes 48 = .ok (.getfield 56, 3) := by decide +kernel
theorem dX5_channelDoes_51 : decode cX5_channelDoes 51 = .ok (.iload 4, 2) := by decide +kernel
theorem dX5_channelDoes_53 : decode cX5_channelDoes 53 = .ok (.iaload, 1) := by decide +kernel
theorem dX5_channelDoes_54 : decode cX5_channelDoes 54 = .ok (.iload_n 2, 1) := by decide +kernel
theorem dX5_channelDoes_55 : decode cX5_channelDoes 55 = .ok (.isub, 1) := by decide +kernel
theorem dX5_channelDoes_56 : decode cX5_channelDoes 56 = .ok (.bipush 15, 2) := by decide +kernel
theorem dX5_channelDoes_58 : decode cX5_channelDoes 58 = .ok (.if_icmp .lt 7, 3) := by decide +kernel
theorem dX5_channelDoes_61 : decode cX5_channelDoes 61 = .ok (.iconst 1, 1) := by decide +kernel
theorem dX5_channelDoes_62 : decode cX5_channelDoes 62 = .ok (.goto 4, 3) := by decide +kernel
theorem dX5_channelDoes_65 : decode cX5_channelDoes 65 = .ok (.iconst 0, 1) := by decide +kernel
theorem dX5_channelDoes_66 : decode cX5_channelDoes 66 = .ok (.istore_n 3, 1) := by decide +kernel
theorem dX5_channelDoes_67 : decode cX5_channelDoes 67 = .ok (.iinc 4 1, 3) := by decide +kernel
theorem dX5_channelDoes_70 : decode cX5_channelDoes 70 = .ok (.goto (-65), 3) := by decide +kernel
theorem dX5_channelDoes_73 : decode cX5_channelDoes 73 = .ok (.iload_n 3, 1) := by decide +kernel
theorem dX5_channelDoes_74 : decode cX5_channelDoes 74 = .ok (.ireturn, 1) := by decide +kernel
theorem dX5_looks_0 : decode cX5_looks 0 = .ok (.aload_n 0, 1) := by decide +kernel
theorem dX5_looks_1 : decode cX5_looks 1 = .ok (.getfield 44, 3) := by decide +kernel
theorem dX5_looks_4 : decode cX5_looks 4 = .ok (.iload_n 1, 1) := by decide +kernel
theorem dX5_looks_5 : decode cX5_looks 5 = .ok (.iaload, 1) := by decide +kernel
theorem dX5_looks_6 : decode cX5_looks 6 = .ok (.aload_n 0, 1) := by decide +kernel
theorem dX5_looks_7 : decode cX5_looks 7 = .ok (.getfield 92, 3) := by decide +kernel
theorem dX5_looks_10 : decode cX5_looks 10 = .ok (.if_icmp .le 12, 3) := by decide +kernel
theorem dX5_looks_13 : decode cX5_looks 13 = .ok (.aload_n 0, 1) := by decide +kernel
theorem dX5_looks_14 : decode cX5_looks 14 = .ok (.getfield 44, 3) := by decide +kernel
theorem dX5_looks_17 : decode cX5_looks 17 = .ok (.iload_n 1, 1) := by decide +kernel
theorem dX5_looks_18 : decode cX5_looks 18 = .ok (.iaload, 1) := by decide +kernel
theorem dX5_looks_19 : decode cX5_looks 19 = .ok (.goto 7, 3) := by decide +kernel
theorem dX5_looks_22 : decode cX5_looks 22 = .ok (.aload_n 0, 1) := by decide +kernel
theorem dX5_looks_23 : decode cX5_looks 23 = .ok (.getfield 92, 3) := by decide +kernel
theorem dX5_looks_26 : decode cX5_looks 26 = .ok (.istore_n 2, 1) := by decide +kernel
theorem dX5_looks_27 : decode cX5_looks 27 = .ok (.iconst (-1), 1) := by decide +kernel
theorem dX5_looks_28 : decode cX5_looks 28 = .ok (.istore_n 3, 1) := by decide +kernel
theorem dX5_looks_29 : decode cX5_looks 29 = .ok (.iload_n 2, 1) := by decide +kernel
theorem dX5_looks_30 : decode cX5_looks 30 = .ok (.istore 4, 2) := by decide +kernel
theorem dX5_looks_32 : decode cX5_looks 32 = .ok (.iload 4, 2) := by decide +kernel
theorem dX5_looks_34 : decode cX5_looks 34 = .ok (.iload_n 2, 1) := by decide +kernel
theorem dX5_looks_35 : decode cX5_looks 35 = .ok (.sipush 1440, 3) := by decide +kernel
theorem dX5_looks_38 : decode cX5_looks 38 = .ok (.iadd, 1) := by decide +kernel
theorem dX5_looks_39 : decode cX5_looks 39 = .ok (.if_icmp .gt 78, 3) := by decide +kernel
theorem dX5_looks_42 : decode cX5_looks 42 = .ok (.iload_n 3, 1) := by decide +kernel
theorem dX5_looks_43 : decode cX5_looks 43 = .ok (.iconst (-1), 1) := by decide +kernel
theorem dX5_looks_44 : decode cX5_looks 44 = .ok (.if_icmp .ne 73, 3) := by decide +kernel
theorem dX5_looks_47 : decode cX5_looks 47 = .ok (.aload_n 0, 1) := by decide +kernel
theorem dX5_looks_48 : decode cX5_looks 48 = .ok (.aload_n 0, 1) := by decide +kernel
theorem dX5_looks_49 : decode cX5_looks 49 = .ok (.getfield 41, 3) := by decide +kernel
theorem dX5_looks_52 : decode cX5_looks 52 = .ok (.iload_n 1, 1) := by decide +kernel
theorem dX5_looks_53 : decode cX5_looks 53 = .ok (.iaload, 1) := by decide +kernel
theorem dX5_looks_54 : decode cX5_looks 54 = .ok (.iload 4, 2) := by decide +kernel
theorem dX5_looks_56 : decode cX5_looks 56 = .ok (.invokevirtual 95, 3) := by decide +kernel
theorem dX5_looks_59 : decode cX5_looks 59 = .ok (.ifCond .eq 37, 3) := by decide +kernel
theorem dX5_looks_62 : decode cX5_looks 62 = .ok (.aload_n 0, 1) := by decide +kernel
theorem dX5_looks_63 : decode cX5_looks 63 = .ok (.iload_n 1, 1) := by decide +kernel
theorem dX5_looks_64 : decode cX5_looks 64 = .ok (.iload 4, 2) := by decide +kernel
theorem dX5_looks_66 : decode cX5_looks 66 = .ok (.invokevirtual 99, 3) := by decide +kernel
theorem dX5_looks_69 : decode cX5_looks 69 = .ok (.ifCond .eq 27, 3) := by decide +kernel
theorem dX5_looks_72 : decode cX5_looks 72 = .ok (.aload_n 0, 1) := by decide +kernel
theorem dX5_looks_73 : decode cX5_looks 73 = .ok (.iload_n 1, 1) := by decide +kernel
theorem dX5_looks_74 : decode cX5_looks 74 = .ok (.iload 4, 2) := by decide +kernel
theorem dX5_looks_76 : decode cX5_looks 76 = .ok (.invokevirtual 102, 3) := by decide +kernel
theorem dX5_looks_79 : decode cX5_looks 79 = .ok (.ifCond .eq 17, 3) := by decide +kernel
theorem dX5_looks_82 : decode cX5_looks 82 = .ok (.aload_n 0, 1) := by decide +kernel
theorem dX5_looks_83 : decode cX5_looks 83 = .ok (.iload_n 1, 1) := by decide +kernel
theorem dX5_looks_84 : decode cX5_looks 84 = .ok (.iload 4, 2) := by decide +kernel
theorem dX5_looks_86 : decode cX5_looks 86 = .ok (.invokevirtual 105, 3) := by decide +kernel
theorem dX5_looks_89 : decode cX5_looks 89 = .ok (.ifCond .eq 7, 3) := by decide +kernel
theorem dX5_looks_92 : decode cX5_looks 92 = .ok (.iconst 1, 1) := by decide +kernel
theorem dX5_looks_93 : decode cX5_looks 93 = .ok (.goto 4, 3) := by decide +kernel
theorem dX5_looks_96 : decode cX5_looks 96 = .ok (.iconst 0, 1) := by decide +kernel
theorem dX5_looks_97 : decode cX5_looks 97 = .ok (.istore 5, 2) := by decide +kernel
theorem dX5_looks_99 : decode cX5_looks 99 = .ok (.iload 5, 2) := by decide +kernel
theorem dX5_looks_101 : decode cX5_looks 101 = .ok (.ifCond .eq 8, 3) := by decide +kernel
theorem dX5_looks_104 : decode cX5_looks 104 = .ok (.iload 4, 2) := by decide +kernel
theorem dX5_looks_106 : decode cX5_looks 106 = .ok (.goto 4, 3) := by decide +kernel
theorem dX5_looks_109 : decode cX5_looks 109 = .ok (.iconst (-1), 1) := by decide +kernel
theorem dX5_looks_110 : decode cX5_looks 110 = .ok (.istore_n 3, 1) := by decide +kernel
theorem dX5_looks_111 : decode cX5_looks 111 = .ok (.iinc 4 1, 3) := by decide +kernel
theorem dX5_looks_114 : decode cX5_looks 114 = .ok (.goto (-82), 3) := by decide +kernel
theorem dX5_looks_117 : decode cX5_looks 117 = .ok (.aload_n 0, 1) := by decide +kernel
theorem dX5_looks_118 : decode cX5_looks 118 = .ok (.getfield 56, 3) := by decide +kernel
theorem dX5_looks_121 : decode cX5_looks 121 = .ok (.iload_n 1, 1) := by decide +kernel
theorem dX5_looks_122 : decode cX5_looks 122 = .ok (.iload_n 3, 1) := by decide +kernel
theorem dX5_looks_123 : decode cX5_looks 123 = .ok (.iastore, 1) := by decide +kernel
theorem dX5_looks_124 : decode cX5_looks 124 = .ok (.aload_n 0, 1) := by decide +kernel
theorem dX5_looks_125 : decode cX5_looks 125 = .ok (.getfield 53, 3) := by decide +kernel
theorem dX5_looks_128 : decode cX5_looks 128 = .ok (.iload_n 1, 1) := by decide +kernel
theorem dX5_looks_129 : decode cX5_looks 129 = .ok (.iload_n 3, 1) := by decide +kernel
theorem dX5_looks_130 : decode cX5_looks 130 = .ok (.iconst (-1), 1) := by decide +kernel
theorem dX5_looks_131 : decode cX5_looks 131 = .ok (.if_icmp .ne 7, 3) := by decide +kernel
theorem dX5_looks_134 : decode cX5_looks 134 = .ok (.iconst 1, 1) := by decide +kernel
theorem dX5_looks_135 : decode cX5_looks 135 = .ok (.goto 16, 3) := by decide +kernel
theorem dX5_looks_138 : decode cX5_looks 138 = .ok (.iload_n 3, 1) := by decide +kernel
theorem dX5_looks_139 : decode cX5_looks 139 = .ok (.aload_n 0, 1) := by decide +kernel
theorem dX5_looks_140 : decode cX5_looks 140 = .ok (.getfield 92, 3) := by decide +kernel
theorem dX5_looks_143 : decode cX5_looks 143 = .ok (.if_icmp .ne 7, 3) := by decide +kernel
theorem dX5_looks_146 : decode cX5_looks 146 = .ok (.iconst 3, 1) := by decide +kernel
theorem dX5_looks_147 : decode cX5_looks 147 = .ok (.goto 4, 3) := by decide +kernel
theorem dX5_looks_150 : decode cX5_looks 150 = .ok (.iconst 2, 1) := by decide +kernel
theorem dX5_looks_151 : decode cX5_looks 151 = .ok (.iastore, 1) := by decide +kernel
theorem dX5_looks_152 : decode cX5_looks 152 = .ok (.return_, 1) := by decide +kernel
theorem dX5_call_0 : decode cX5_call 0 = .ok (.aload_n 0, 1) := by decide +kernel
theorem dX5_call_1 : decode cX5_call 1 = .ok (.aload_n 0, 1) := by decide +kernel
theorem dX5_call_2 : decode cX5_call 2 = .ok (.iload_n 1, 1) := by decide +kernel
theorem dX5_call_3 : decode cX5_call 3 = .ok (.invokevirtual 108, 3) := by decide +kernel
theorem dX5_call_6 : decode cX5_call 6 = .ok (.ifCond .ne 7, 3) := by decide +kernel
theorem dX5_call_9 : decode cX5_call 9 = .ok (.iconst 1, 1) := by decide +kernel
theorem dX5_call_10 : decode cX5_call 10 = .ok (.goto 35, 3) := by decide +kernel
theorem dX5_call_13 : decode cX5_call 13 = .ok (.iload_n 2, 1) := by decide +kernel
theorem dX5_call_14 : decode cX5_call 14 = .ok (.aload_n 0, 1) := by decide +kernel
theorem dX5_call_15 : decode cX5_call 15 = .ok (.getfield 92, 3) := by decide +kernel
theorem dX5_call_18 : decode cX5_call 18 = .ok (.sipush 20000, 3) := by decide +kernel
theorem dX5_call_21 : decode cX5_call 21 = .ok (.invokestatic 65, 3) := by decide +kernel
theorem dX5_call_24 : decode cX5_call 24 = .ok (.ifCond .ne 7, 3) := by decide +kernel
theorem dX5_call_27 : decode cX5_call 27 = .ok (.iconst 2, 1) := by decide +kernel
theorem dX5_call_28 : decode cX5_call 28 = .ok (.goto 17, 3) := by decide +kernel
theorem dX5_call_31 : decode cX5_call 31 = .ok (.aload_n 0, 1) := by decide +kernel
theorem dX5_call_32 : decode cX5_call 32 = .ok (.getfield 71, 3) := by decide +kernel
theorem dX5_call_35 : decode cX5_call 35 = .ok (.bipush 40, 2) := by decide +kernel
theorem dX5_call_37 : decode cX5_call 37 = .ok (.if_icmp .ne 7, 3) := by decide +kernel
theorem dX5_call_40 : decode cX5_call 40 = .ok (.iconst 3, 1) := by decide +kernel
theorem dX5_call_41 : decode cX5_call 41 = .ok (.goto 4, 3) := by decide +kernel
theorem dX5_call_44 : decode cX5_call 44 = .ok (.iconst 0, 1) := by decide +kernel
theorem dX5_call_45 : decode cX5_call 45 = .ok (.putfield 59, 3) := by decide +kernel
theorem dX5_call_48 : decode cX5_call 48 = .ok (.aload_n 0, 1) := by decide +kernel
theorem dX5_call_49 : decode cX5_call 49 = .ok (.getfield 59, 3) := by decide +kernel
theorem dX5_call_52 : decode cX5_call 52 = .ok (.ifCond .le 5, 3) := by decide +kernel
theorem dX5_call_55 : decode cX5_call 55 = .ok (.iconst 0, 1) := by decide +kernel
theorem dX5_call_56 : decode cX5_call 56 = .ok (.ireturn, 1) := by decide +kernel
theorem dX5_call_57 : decode cX5_call 57 = .ok (.aload_n 0, 1) := by decide +kernel
theorem dX5_call_58 : decode cX5_call 58 = .ok (.getfield 41, 3) := by decide +kernel
theorem dX5_call_61 : decode cX5_call 61 = .ok (.aload_n 0, 1) := by decide +kernel
theorem dX5_call_62 : decode cX5_call 62 = .ok (.getfield 71, 3) := by decide +kernel
theorem dX5_call_65 : decode cX5_call 65 = .ok (.iload_n 1, 1) := by decide +kernel
theorem dX5_call_66 : decode cX5_call 66 = .ok (.iastore, 1) := by decide +kernel
theorem dX5_call_67 : decode cX5_call 67 = .ok (.aload_n 0, 1) := by decide +kernel
theorem dX5_call_68 : decode cX5_call 68 = .ok (.getfield 44, 3) := by decide +kernel
theorem dX5_call_71 : decode cX5_call 71 = .ok (.aload_n 0, 1) := by decide +kernel
theorem dX5_call_72 : decode cX5_call 72 = .ok (.getfield 71, 3) := by decide +kernel
theorem dX5_call_75 : decode cX5_call 75 = .ok (.iload_n 2, 1) := by decide +kernel
theorem dX5_call_76 : decode cX5_call 76 = .ok (.iastore, 1) := by decide +kernel
theorem dX5_call_77 : decode cX5_call 77 = .ok (.aload_n 0, 1) := by decide +kernel
theorem dX5_call_78 : decode cX5_call 78 = .ok (.getfield 50, 3) := by decide +kernel
theorem dX5_call_81 : decode cX5_call 81 = .ok (.aload_n 0, 1) := by decide +kernel
theorem dX5_call_82 : decode cX5_call 82 = .ok (.getfield 71, 3) := by decide +kernel
theorem dX5_call_85 : decode cX5_call 85 = .ok (.iconst (-1), 1) := by decide +kernel
theorem dX5_call_86 : decode cX5_call 86 = .ok (.iastore, 1) := by decide +kernel
theorem dX5_call_87 : decode cX5_call 87 = .ok (.aload_n 0, 1) := by decide +kernel
theorem dX5_call_88 : decode cX5_call 88 = .ok (.getfield 56, 3) := by decide +kernel
theorem dX5_call_91 : decode cX5_call 91 = .ok (.aload_n 0, 1) := by decide +kernel
theorem dX5_call_92 : decode cX5_call 92 = .ok (.getfield 71, 3) := by decide +kernel
theorem dX5_call_95 : decode cX5_call 95 = .ok (.iconst (-1), 1) := by decide +kernel
theorem dX5_call_96 : decode cX5_call 96 = .ok (.iastore, 1) := by decide +kernel
theorem dX5_call_97 : decode cX5_call 97 = .ok (.aload_n 0, 1) := by decide +kernel
theorem dX5_call_98 : decode cX5_call 98 = .ok (.getfield 53, 3) := by decide +kernel
theorem dX5_call_101 : decode cX5_call 101 = .ok (.aload_n 0, 1) := by decide +kernel
theorem dX5_call_102 : decode cX5_call 102 = .ok (.getfield 71, 3) := by decide +kernel
theorem dX5_call_105 : decode cX5_call 105 = .ok (.iconst 0, 1) := by decide +kernel
theorem dX5_call_106 : decode cX5_call 106 = .ok (.iastore, 1) := by decide +kernel
theorem dX5_call_107 : decode cX5_call 107 = .ok (.aload_n 0, 1) := by decide +kernel
theorem dX5_call_108 : decode cX5_call 108 = .ok (.dup, 1) := by decide +kernel
theorem dX5_call_109 : decode cX5_call 109 = .ok (.getfield 71, 3) := by decide +kernel
theorem dX5_call_112 : decode cX5_call 112 = .ok (.iconst 1, 1) := by decide +kernel
theorem dX5_call_113 : decode cX5_call 113 = .ok (.iadd, 1) := by decide +kernel
theorem dX5_call_114 : decode cX5_call 114 = .ok (.putfield 71, 3) := by decide +kernel
theorem dX5_call_117 : decode cX5_call 117 = .ok (.aload_n 0, 1) := by decide +kernel
theorem dX5_call_118 : decode cX5_call 118 = .ok (.getfield 71, 3) := by decide +kernel
theorem dX5_call_121 : decode cX5_call 121 = .ok (.iconst 1, 1) := by decide +kernel
theorem dX5_call_122 : decode cX5_call 122 = .ok (.isub, 1) := by decide +kernel
theorem dX5_call_123 : decode cX5_call 123 = .ok (.ireturn, 1) := by decide +kernel
theorem dX5_isIn_0 : decode cX5_isIn 0 = .ok (.aload_n 0, 1) := by decide +kernel
theorem dX5_isIn_1 : decode cX5_isIn 1 = .ok (.getfield 47, 3) := by decide +kernel
theorem dX5_isIn_4 : decode cX5_isIn 4 = .ok (.iload_n 1, 1) := by decide +kernel
theorem dX5_isIn_5 : decode cX5_isIn 5 = .ok (.iaload, 1) := by decide +kernel
theorem dX5_isIn_6 : decode cX5_isIn 6 = .ok (.iload_n 2, 1) := by decide +kernel
theorem dX5_isIn_7 : decode cX5_isIn 7 = .ok (.ishr, 1) := by decide +kernel
theorem dX5_isIn_8 : decode cX5_isIn 8 = .ok (.iconst 1, 1) := by decide +kernel
theorem dX5_isIn_9 : decode cX5_isIn 9 = .ok (.iand, 1) := by decide +kernel
theorem dX5_isIn_10 : decode cX5_isIn 10 = .ok (.iconst 1, 1) := by decide +kernel
theorem dX5_isIn_11 : decode cX5_isIn 11 = .ok (.if_icmp .ne 7, 3) := by decide +kernel
theorem dX5_isIn_14 : decode cX5_isIn 14 = .ok (.iconst 1, 1) := by decide +kernel
theorem dX5_isIn_15 : decode cX5_isIn 15 = .ok (.goto 4, 3) := by decide +kernel
theorem dX5_isIn_18 : decode cX5_isIn 18 = .ok (.iconst 0, 1) := by decide +kernel
theorem dX5_isIn_19 : decode cX5_isIn 19 = .ok (.ireturn, 1) := by decide +kernel
theorem dX5_join_0 : decode cX5_join 0 = .ok (.aload_n 0, 1) := by decide +kernel
theorem dX5_join_1 : decode cX5_join 1 = .ok (.iload_n 1, 1) := by decide +kernel
theorem dX5_join_2 : decode cX5_join 2 = .ok (.invokevirtual 111, 3) := by decide +kernel
theorem dX5_join_5 : decode cX5_join 5 = .ok (.ifCond .eq 29, 3) := by decide +kernel
theorem dX5_join_8 : decode cX5_join 8 = .ok (.iload_n 2, 1) := by decide +kernel
theorem dX5_join_9 : decode cX5_join 9 = .ok (.iconst 0, 1) := by decide +kernel
theorem dX5_join_10 : decode cX5_join 10 = .ok (.iconst 2, 1) := by decide +kernel
theorem dX5_join_11 : decode cX5_join 11 = .ok (.invokestatic 65, 3) := by decide +kernel
theorem dX5_join_14 : decode cX5_join 14 = .ok (.ifCond .eq 20, 3) := by decide +kernel
theorem dX5_join_17 : decode cX5_join 17 = .ok (.iload_n 2, 1) := by decide +kernel
theorem dX5_join_18 : decode cX5_join 18 = .ok (.iconst 2, 1) := by decide +kernel
theorem dX5_join_19 : decode cX5_join 19 = .ok (.if_icmp .ne 11, 3) := by decide +kernel
theorem dX5_join_22 : decode cX5_join 22 = .ok (.aload_n 0, 1) := by decide +kernel
theorem dX5_join_23 : decode cX5_join 23 = .ok (.iload_n 3, 1) := by decide +kernel
theorem dX5_join_24 : decode cX5_join 24 = .ok (.invokevirtual 114, 3) := by decide +kernel
theorem dX5_join_27 : decode cX5_join 27 = .ok (.ifCond .eq 7, 3) := by decide +kernel
theorem dX5_join_30 : decode cX5_join 30 = .ok (.iconst 1, 1) := by decide +kernel
theorem dX5_join_31 : decode cX5_join 31 = .ok (.goto 4, 3) := by decide +kernel
theorem dX5_join_34 : decode cX5_join 34 = .ok (.iconst 0, 1) := by decide +kernel
theorem dX5_join_35 : decode cX5_join 35 = .ok (.istore 4, 2) := by decide +kernel
theorem dX5_join_37 : decode cX5_join 37 = .ok (.aload_n 0, 1) := by decide +kernel
theorem dX5_join_38 : decode cX5_join 38 = .ok (.iload 4, 2) := by decide +kernel
theorem dX5_join_40 : decode cX5_join 40 = .ok (.ifCond .eq 7, 3) := by decide +kernel
theorem dX5_join_43 : decode cX5_join 43 = .ok (.iconst 0, 1) := by decide +kernel
theorem dX5_join_44 : decode cX5_join 44 = .ok (.goto 4, 3) := by decide +kernel
theorem dX5_join_47 : decode cX5_join 47 = .ok (.iconst 1, 1) := by decide +kernel
theorem dX5_join_48 : decode cX5_join 48 = .ok (.putfield 59, 3) := by decide +kernel
theorem dX5_join_51 : decode cX5_join 51 = .ok (.aload_n 0, 1) := by decide +kernel
theorem dX5_join_52 : decode cX5_join 52 = .ok (.getfield 59, 3) := by decide +kernel
theorem dX5_join_55 : decode cX5_join 55 = .ok (.ifCond .ne 58, 3) := by decide +kernel
theorem dX5_join_58 : decode cX5_join 58 = .ok (.aload_n 0, 1) := by decide +kernel
theorem dX5_join_59 : decode cX5_join 59 = .ok (.iload_n 1, 1) := by decide +kernel
theorem dX5_join_60 : decode cX5_join 60 = .ok (.iload_n 2, 1) := by decide +kernel
theorem dX5_join_61 : decode cX5_join 61 = .ok (.invokevirtual 117, 3) := by decide +kernel
theorem dX5_join_64 : decode cX5_join 64 = .ok (.ifCond .ne 32, 3) := by decide +kernel
theorem dX5_join_67 : decode cX5_join 67 = .ok (.iload_n 2, 1) := by decide +kernel
theorem dX5_join_68 : decode cX5_join 68 = .ok (.iconst 2, 1) := by decide +kernel
theorem dX5_join_69 : decode cX5_join 69 = .ok (.if_icmp .ne 23, 3) := by decide +kernel
theorem dX5_join_72 : decode cX5_join 72 = .ok (.aload_n 0, 1) := by decide +kernel
theorem dX5_join_73 : decode cX5_join 73 = .ok (.getfield 35, 3) := by decide +kernel
theorem dX5_join_76 : decode cX5_join 76 = .ok (.iload_n 3, 1) := by decide +kernel
theorem dX5_join_77 : decode cX5_join 77 = .ok (.iaload, 1) := by decide +kernel
theorem dX5_join_78 : decode cX5_join 78 = .ok (.aload_n 0, 1) := by decide +kernel
theorem dX5_join_79 : decode cX5_join 79 = .ok (.getfield 23, 3) := by decide +kernel
theorem dX5_join_82 : decode cX5_join 82 = .ok (.aload_n 0, 1) := by decide +kernel
theorem dX5_join_83 : decode cX5_join 83 = .ok (.getfield 41, 3) := by decide +kernel
theorem dX5_join_86 : decode cX5_join 86 = .ok (.iload_n 1, 1) := by decide +kernel
theorem dX5_join_87 : decode cX5_join 87 = .ok (.iaload, 1) := by decide +kernel
theorem dX5_join_88 : decode cX5_join 88 = .ok (.iaload, 1) := by decide +kernel
theorem dX5_join_89 : decode cX5_join 89 = .ok (.if_icmp .lt 7, 3) := by decide +kernel
theorem dX5_join_92 : decode cX5_join 92 = .ok (.iconst 1, 1) := by decide +kernel
theorem dX5_join_93 : decode cX5_join 93 = .ok (.goto 4, 3) := by decide +kernel
theorem dX5_join_96 : decode cX5_join 96 = .ok (.iconst 0, 1) := by decide +kernel
theorem dX5_join_97 : decode cX5_join 97 = .ok (.istore 5, 2) := by decide +kernel
theorem dX5_join_99 : decode cX5_join 99 = .ok (.aload_n 0, 1) := by decide +kernel
theorem dX5_join_100 : decode cX5_join 100 = .ok (.iload 5, 2) := by decide +kernel
theorem dX5_join_102 : decode cX5_join 102 = .ok (.ifCond .eq 7, 3) := by decide +kernel
theorem dX5_join_105 : decode cX5_join 105 = .ok (.iconst 0, 1) := by decide +kernel
theorem dX5_join_106 : decode cX5_join 106 = .ok (.goto 4, 3) := by decide +kernel
theorem dX5_join_109 : decode cX5_join 109 = .ok (.iconst 2, 1) := by decide +kernel
theorem dX5_join_110 : decode cX5_join 110 = .ok (.putfield 59, 3) := by decide +kernel
theorem dX5_join_113 : decode cX5_join 113 = .ok (.aload_n 0, 1) := by decide +kernel
theorem dX5_join_114 : decode cX5_join 114 = .ok (.getfield 59, 3) := by decide +kernel
theorem dX5_join_117 : decode cX5_join 117 = .ok (.ifCond .le 5, 3) := by decide +kernel
theorem dX5_join_120 : decode cX5_join 120 = .ok (.iconst 0, 1) := by decide +kernel
theorem dX5_join_121 : decode cX5_join 121 = .ok (.ireturn, 1) := by decide +kernel
theorem dX5_join_122 : decode cX5_join 122 = .ok (.aload_n 0, 1) := by decide +kernel
theorem dX5_join_123 : decode cX5_join 123 = .ok (.getfield 47, 3) := by decide +kernel
theorem dX5_join_126 : decode cX5_join 126 = .ok (.iload_n 1, 1) := by decide +kernel
theorem dX5_join_127 : decode cX5_join 127 = .ok (.dup2, 1) := by decide +kernel
theorem dX5_join_128 : decode cX5_join 128 = .ok (.iaload, 1) := by decide +kernel
theorem dX5_join_129 : decode cX5_join 129 = .ok (.iconst 1, 1) := by decide +kernel
theorem dX5_join_130 : decode cX5_join 130 = .ok (.iload_n 2, 1) := by decide +kernel
theorem dX5_join_131 : decode cX5_join 131 = .ok (.ishl, 1) := by decide +kernel
theorem dX5_join_132 : decode cX5_join 132 = .ok (.ior, 1) := by decide +kernel
theorem dX5_join_133 : decode cX5_join 133 = .ok (.iastore, 1) := by decide +kernel
theorem dX5_join_134 : decode cX5_join 134 = .ok (.iload_n 2, 1) := by decide +kernel
theorem dX5_join_135 : decode cX5_join 135 = .ok (.iconst 2, 1) := by decide +kernel
theorem dX5_join_136 : decode cX5_join 136 = .ok (.if_icmp .ne 10, 3) := by decide +kernel
theorem dX5_join_139 : decode cX5_join 139 = .ok (.aload_n 0, 1) := by decide +kernel
theorem dX5_join_140 : decode cX5_join 140 = .ok (.getfield 50, 3) := by decide +kernel
theorem dX5_join_143 : decode cX5_join 143 = .ok (.iload_n 1, 1) := by decide +kernel
theorem dX5_join_144 : decode cX5_join 144 = .ok (.iload_n 3, 1) := by decide +kernel
theorem dX5_join_145 : decode cX5_join 145 = .ok (.iastore, 1) := by decide +kernel
theorem dX5_join_146 : decode cX5_join 146 = .ok (.aload_n 0, 1) := by decide +kernel
theorem dX5_join_147 : decode cX5_join 147 = .ok (.getfield 47, 3) := by decide +kernel
theorem dX5_join_150 : decode cX5_join 150 = .ok (.iload_n 1, 1) := by decide +kernel
theorem dX5_join_151 : decode cX5_join 151 = .ok (.iaload, 1) := by decide +kernel
theorem dX5_join_152 : decode cX5_join 152 = .ok (.bipush 7, 2) := by decide +kernel
theorem dX5_join_154 : decode cX5_join 154 = .ok (.if_icmp .ne 8, 3) := by decide +kernel
theorem dX5_join_157 : decode cX5_join 157 = .ok (.aload_n 0, 1) := by decide +kernel
theorem dX5_join_158 : decode cX5_join 158 = .ok (.iload_n 1, 1) := by decide +kernel
theorem dX5_join_159 : decode cX5_join 159 = .ok (.invokevirtual 120, 3) := by decide +kernel
theorem dX5_join_162 : decode cX5_join 162 = .ok (.aload_n 0, 1) := by decide +kernel
theorem dX5_join_163 : decode cX5_join 163 = .ok (.getfield 56, 3) := by decide +kernel
theorem dX5_join_166 : decode cX5_join 166 = .ok (.iload_n 1, 1) := by decide +kernel
theorem dX5_join_167 : decode cX5_join 167 = .ok (.iaload, 1) := by decide +kernel
theorem dX5_join_168 : decode cX5_join 168 = .ok (.ireturn, 1) := by decide +kernel
theorem dX5_again_0 : decode cX5_again 0 = .ok (.aload_n 0, 1) := by decide +kernel
theorem dX5_again_1 : decode cX5_again 1 = .ok (.aload_n 0, 1) := by decide +kernel
theorem dX5_again_2 : decode cX5_again 2 = .ok (.iload_n 1, 1) := by decide +kernel
theorem dX5_again_3 : decode cX5_again 3 = .ok (.invokevirtual 111, 3) := by decide +kernel
theorem dX5_again_6 : decode cX5_again 6 = .ok (.ifCond .ne 7, 3) := by decide +kernel
theorem dX5_again_9 : decode cX5_again 9 = .ok (.iconst 1, 1) := by decide +kernel
theorem dX5_again_10 : decode cX5_again 10 = .ok (.goto 18, 3) := by decide +kernel
theorem dX5_again_13 : decode cX5_again 13 = .ok (.aload_n 0, 1) := by decide +kernel
theorem dX5_again_14 : decode cX5_again 14 = .ok (.getfield 53, 3) := by decide +kernel
theorem dX5_again_17 : decode cX5_again 17 = .ok (.iload_n 1, 1) := by decide +kernel
theorem dX5_again_18 : decode cX5_again 18 = .ok (.iaload, 1) := by decide +kernel
theorem dX5_again_19 : decode cX5_again 19 = .ok (.iconst 1, 1) := by decide +kernel
theorem dX5_again_20 : decode cX5_again 20 = .ok (.if_icmp .ne 7, 3) := by decide +kernel
theorem dX5_again_23 : decode cX5_again 23 = .ok (.iconst 0, 1) := by decide +kernel
theorem dX5_again_24 : decode cX5_again 24 = .ok (.goto 4, 3) := by decide +kernel
theorem dX5_again_27 : decode cX5_again 27 = .ok (.iconst 2, 1) := by decide +kernel
theorem dX5_again_28 : decode cX5_again 28 = .ok (.putfield 59, 3) := by decide +kernel
theorem dX5_again_31 : decode cX5_again 31 = .ok (.aload_n 0, 1) := by decide +kernel
theorem dX5_again_32 : decode cX5_again 32 = .ok (.getfield 59, 3) := by decide +kernel
theorem dX5_again_35 : decode cX5_again 35 = .ok (.ifCond .le 5, 3) := by decide +kernel
theorem dX5_again_38 : decode cX5_again 38 = .ok (.iconst 0, 1) := by decide +kernel
theorem dX5_again_39 : decode cX5_again 39 = .ok (.ireturn, 1) := by decide +kernel
theorem dX5_again_40 : decode cX5_again 40 = .ok (.aload_n 0, 1) := by decide +kernel
theorem dX5_again_41 : decode cX5_again 41 = .ok (.iload_n 1, 1) := by decide +kernel
theorem dX5_again_42 : decode cX5_again 42 = .ok (.invokevirtual 120, 3) := by decide +kernel
theorem dX5_again_45 : decode cX5_again 45 = .ok (.aload_n 0, 1) := by decide +kernel
theorem dX5_again_46 : decode cX5_again 46 = .ok (.getfield 56, 3) := by decide +kernel
theorem dX5_again_49 : decode cX5_again 49 = .ok (.iload_n 1, 1) := by decide +kernel
theorem dX5_again_50 : decode cX5_again 50 = .ok (.iaload, 1) := by decide +kernel
theorem dX5_again_51 : decode cX5_again 51 = .ok (.ireturn, 1) := by decide +kernel
theorem dX5_looksAnew_0 : decode cX5_looksAnew 0 = .ok (.aload_n 0, 1) := by decide +kernel
theorem dX5_looksAnew_1 : decode cX5_looksAnew 1 = .ok (.getfield 56, 3) := by decide +kernel
theorem dX5_looksAnew_4 : decode cX5_looksAnew 4 = .ok (.iload_n 1, 1) := by decide +kernel
theorem dX5_looksAnew_5 : decode cX5_looksAnew 5 = .ok (.iaload, 1) := by decide +kernel
theorem dX5_looksAnew_6 : decode cX5_looksAnew 6 = .ok (.istore_n 2, 1) := by decide +kernel
theorem dX5_looksAnew_7 : decode cX5_looksAnew 7 = .ok (.aload_n 0, 1) := by decide +kernel
theorem dX5_looksAnew_8 : decode cX5_looksAnew 8 = .ok (.getfield 56, 3) := by decide +kernel
theorem dX5_looksAnew_11 : decode cX5_looksAnew 11 = .ok (.iload_n 1, 1) := by decide +kernel
theorem dX5_looksAnew_12 : decode cX5_looksAnew 12 = .ok (.iconst (-1), 1) := by decide +kernel
theorem dX5_looksAnew_13 : decode cX5_looksAnew 13 = .ok (.iastore, 1) := by decide +kernel
theorem dX5_looksAnew_14 : decode cX5_looksAnew 14 = .ok (.aload_n 0, 1) := by decide +kernel
theorem dX5_looksAnew_15 : decode cX5_looksAnew 15 = .ok (.getfield 53, 3) := by decide +kernel
theorem dX5_looksAnew_18 : decode cX5_looksAnew 18 = .ok (.iload_n 1, 1) := by decide +kernel
theorem dX5_looksAnew_19 : decode cX5_looksAnew 19 = .ok (.iconst 1, 1) := by decide +kernel
theorem dX5_looksAnew_20 : decode cX5_looksAnew 20 = .ok (.iastore, 1) := by decide +kernel
theorem dX5_looksAnew_21 : decode cX5_looksAnew 21 = .ok (.aload_n 0, 1) := by decide +kernel
theorem dX5_looksAnew_22 : decode cX5_looksAnew 22 = .ok (.iload_n 1, 1) := by decide +kernel
theorem dX5_looksAnew_23 : decode cX5_looksAnew 23 = .ok (.invokevirtual 120, 3) := by decide +kernel
theorem dX5_looksAnew_26 : decode cX5_looksAnew 26 = .ok (.aload_n 0, 1) := by decide +kernel
theorem dX5_looksAnew_27 : decode cX5_looksAnew 27 = .ok (.getfield 56, 3) := by decide +kernel
theorem dX5_looksAnew_30 : decode cX5_looksAnew 30 = .ok (.iload_n 1, 1) := by decide +kernel
theorem dX5_looksAnew_31 : decode cX5_looksAnew 31 = .ok (.iaload, 1) := by decide +kernel
theorem dX5_looksAnew_32 : decode cX5_looksAnew 32 = .ok (.iload_n 2, 1) := by decide +kernel
theorem dX5_looksAnew_33 : decode cX5_looksAnew 33 = .ok (.if_icmp .eq 7, 3) := by decide +kernel
theorem dX5_looksAnew_36 : decode cX5_looksAnew 36 = .ok (.iconst 1, 1) := by decide +kernel
theorem dX5_looksAnew_37 : decode cX5_looksAnew 37 = .ok (.goto 4, 3) := by decide +kernel
theorem dX5_looksAnew_40 : decode cX5_looksAnew 40 = .ok (.iconst 0, 1) := by decide +kernel
theorem dX5_looksAnew_41 : decode cX5_looksAnew 41 = .ok (.ireturn, 1) := by decide +kernel
theorem dX5_drop_0 : decode cX5_drop 0 = .ok (.aload_n 0, 1) := by decide +kernel
theorem dX5_drop_1 : decode cX5_drop 1 = .ok (.aload_n 0, 1) := by decide +kernel
theorem dX5_drop_2 : decode cX5_drop 2 = .ok (.iload_n 1, 1) := by decide +kernel
theorem dX5_drop_3 : decode cX5_drop 3 = .ok (.invokevirtual 111, 3) := by decide +kernel
theorem dX5_drop_6 : decode cX5_drop 6 = .ok (.ifCond .eq 16, 3) := by decide +kernel
theorem dX5_drop_9 : decode cX5_drop 9 = .ok (.iload_n 2, 1) := by decide +kernel
theorem dX5_drop_10 : decode cX5_drop 10 = .ok (.iconst 0, 1) := by decide +kernel
theorem dX5_drop_11 : decode cX5_drop 11 = .ok (.iconst 2, 1) := by decide +kernel
theorem dX5_drop_12 : decode cX5_drop 12 = .ok (.invokestatic 65, 3) := by decide +kernel
theorem dX5_drop_15 : decode cX5_drop 15 = .ok (.ifCond .eq 7, 3) := by decide +kernel
theorem dX5_drop_18 : decode cX5_drop 18 = .ok (.iconst 0, 1) := by decide +kernel
theorem dX5_drop_19 : decode cX5_drop 19 = .ok (.goto 4, 3) := by decide +kernel
theorem dX5_drop_22 : decode cX5_drop 22 = .ok (.iconst 1, 1) := by decide +kernel
theorem dX5_drop_23 : decode cX5_drop 23 = .ok (.putfield 59, 3) := by decide +kernel
theorem dX5_drop_26 : decode cX5_drop 26 = .ok (.aload_n 0, 1) := by decide +kernel
theorem dX5_drop_27 : decode cX5_drop 27 = .ok (.getfield 59, 3) := by decide +kernel
theorem dX5_drop_30 : decode cX5_drop 30 = .ok (.ifCond .ne 31, 3) := by decide +kernel
theorem dX5_drop_33 : decode cX5_drop 33 = .ok (.aload_n 0, 1) := by decide +kernel
theorem dX5_drop_34 : decode cX5_drop 34 = .ok (.aload_n 0, 1) := by decide +kernel
theorem dX5_drop_35 : decode cX5_drop 35 = .ok (.iload_n 1, 1) := by decide +kernel
theorem dX5_drop_36 : decode cX5_drop 36 = .ok (.iload_n 2, 1) := by decide +kernel
theorem dX5_drop_37 : decode cX5_drop 37 = .ok (.invokevirtual 117, 3) := by decide +kernel
theorem dX5_drop_40 : decode cX5_drop 40 = .ok (.ifCond .eq 13, 3) := by decide +kernel
theorem dX5_drop_43 : decode cX5_drop 43 = .ok (.aload_n 0, 1) := by decide +kernel
theorem dX5_drop_44 : decode cX5_drop 44 = .ok (.getfield 53, 3) := by decide +kernel
theorem dX5_drop_47 : decode cX5_drop 47 = .ok (.iload_n 1, 1) := by decide +kernel
theorem dX5_drop_48 : decode cX5_drop 48 = .ok (.iaload, 1) := by decide +kernel
theorem dX5_drop_49 : decode cX5_drop 49 = .ok (.iconst 3, 1) := by decide +kernel
theorem dX5_drop_50 : decode cX5_drop 50 = .ok (.if_icmp .lt 7, 3) := by decide +kernel
theorem dX5_drop_53 : decode cX5_drop 53 = .ok (.iconst 2, 1) := by decide +kernel
theorem dX5_drop_54 : decode cX5_drop 54 = .ok (.goto 4, 3) := by decide +kernel
theorem dX5_drop_57 : decode cX5_drop 57 = .ok (.iconst 0, 1) := by decide +kernel
theorem dX5_drop_58 : decode cX5_drop 58 = .ok (.putfield 59, 3) := by decide +kernel
theorem dX5_drop_61 : decode cX5_drop 61 = .ok (.aload_n 0, 1) := by decide +kernel
theorem dX5_drop_62 : decode cX5_drop 62 = .ok (.getfield 59, 3) := by decide +kernel
theorem dX5_drop_65 : decode cX5_drop 65 = .ok (.ifCond .le 5, 3) := by decide +kernel
theorem dX5_drop_68 : decode cX5_drop 68 = .ok (.iconst 0, 1) := by decide +kernel
theorem dX5_drop_69 : decode cX5_drop 69 = .ok (.ireturn, 1) := by decide +kernel
theorem dX5_drop_70 : decode cX5_drop 70 = .ok (.aload_n 0, 1) := by decide +kernel
theorem dX5_drop_71 : decode cX5_drop 71 = .ok (.getfield 53, 3) := by decide +kernel
theorem dX5_drop_74 : decode cX5_drop 74 = .ok (.iload_n 1, 1) := by decide +kernel
theorem dX5_drop_75 : decode cX5_drop 75 = .ok (.iaload, 1) := by decide +kernel
theorem dX5_drop_76 : decode cX5_drop 76 = .ok (.iconst 2, 1) := by decide +kernel
theorem dX5_drop_77 : decode cX5_drop 77 = .ok (.if_icmp .ne 7, 3) := by decide +kernel
theorem dX5_drop_80 : decode cX5_drop 80 = .ok (.iconst 1, 1) := by decide +kernel
theorem dX5_drop_81 : decode cX5_drop 81 = .ok (.goto 4, 3) := by decide +kernel
theorem dX5_drop_84 : decode cX5_drop 84 = .ok (.iconst 0, 1) := by decide +kernel
theorem dX5_drop_85 : decode cX5_drop 85 = .ok (.istore_n 3, 1) := by decide +kernel
theorem dX5_drop_86 : decode cX5_drop 86 = .ok (.aload_n 0, 1) := by decide +kernel
theorem dX5_drop_87 : decode cX5_drop 87 = .ok (.getfield 47, 3) := by decide +kernel
theorem dX5_drop_90 : decode cX5_drop 90 = .ok (.iload_n 1, 1) := by decide +kernel
theorem dX5_drop_91 : decode cX5_drop 91 = .ok (.dup2, 1) := by decide +kernel
theorem dX5_drop_92 : decode cX5_drop 92 = .ok (.iaload, 1) := by decide +kernel
theorem dX5_drop_93 : decode cX5_drop 93 = .ok (.iconst 1, 1) := by decide +kernel
theorem dX5_drop_94 : decode cX5_drop 94 = .ok (.iload_n 2, 1) := by decide +kernel
theorem dX5_drop_95 : decode cX5_drop 95 = .ok (.ishl, 1) := by decide +kernel
theorem dX5_drop_96 : decode cX5_drop 96 = .ok (.iconst (-1), 1) := by decide +kernel
theorem dX5_drop_97 : decode cX5_drop 97 = .ok (.ixor, 1) := by decide +kernel
theorem dX5_drop_98 : decode cX5_drop 98 = .ok (.iand, 1) := by decide +kernel
theorem dX5_drop_99 : decode cX5_drop 99 = .ok (.iastore, 1) := by decide +kernel
theorem dX5_drop_100 : decode cX5_drop 100 = .ok (.aload_n 0, 1) := by decide +kernel
theorem dX5_drop_101 : decode cX5_drop 101 = .ok (.getfield 50, 3) := by decide +kernel
theorem dX5_drop_104 : decode cX5_drop 104 = .ok (.iload_n 1, 1) := by decide +kernel
theorem dX5_drop_105 : decode cX5_drop 105 = .ok (.iload_n 2, 1) := by decide +kernel
theorem dX5_drop_106 : decode cX5_drop 106 = .ok (.iconst 2, 1) := by decide +kernel
theorem dX5_drop_107 : decode cX5_drop 107 = .ok (.if_icmp .ne 7, 3) := by decide +kernel
theorem dX5_drop_110 : decode cX5_drop 110 = .ok (.iconst (-1), 1) := by decide +kernel
theorem dX5_drop_111 : decode cX5_drop 111 = .ok (.goto 9, 3) := by decide +kernel
theorem dX5_drop_114 : decode cX5_drop 114 = .ok (.aload_n 0, 1) := by decide +kernel
theorem dX5_drop_115 : decode cX5_drop 115 = .ok (.getfield 50, 3) := by decide +kernel
theorem dX5_drop_118 : decode cX5_drop 118 = .ok (.iload_n 1, 1) := by decide +kernel
theorem dX5_drop_119 : decode cX5_drop 119 = .ok (.iaload, 1) := by decide +kernel
theorem dX5_drop_120 : decode cX5_drop 120 = .ok (.iastore, 1) := by decide +kernel
theorem dX5_drop_121 : decode cX5_drop 121 = .ok (.aload_n 0, 1) := by decide +kernel
theorem dX5_drop_122 : decode cX5_drop 122 = .ok (.getfield 56, 3) := by decide +kernel
theorem dX5_drop_125 : decode cX5_drop 125 = .ok (.iload_n 1, 1) := by decide +kernel
theorem dX5_drop_126 : decode cX5_drop 126 = .ok (.iconst (-1), 1) := by decide +kernel
theorem dX5_drop_127 : decode cX5_drop 127 = .ok (.iastore, 1) := by decide +kernel
theorem dX5_drop_128 : decode cX5_drop 128 = .ok (.aload_n 0, 1) := by decide +kernel
theorem dX5_drop_129 : decode cX5_drop 129 = .ok (.getfield 53, 3) := by decide +kernel
theorem dX5_drop_132 : decode cX5_drop 132 = .ok (.iload_n 1, 1) := by decide +kernel
theorem dX5_drop_133 : decode cX5_drop 133 = .ok (.iconst 0, 1) := by decide +kernel
theorem dX5_drop_134 : decode cX5_drop 134 = .ok (.iastore, 1) := by decide +kernel
theorem dX5_drop_135 : decode cX5_drop 135 = .ok (.iconst 0, 1) := by decide +kernel
theorem dX5_drop_136 : decode cX5_drop 136 = .ok (.istore 4, 2) := by decide +kernel
theorem dX5_drop_138 : decode cX5_drop 138 = .ok (.iconst 0, 1) := by decide +kernel
theorem dX5_drop_139 : decode cX5_drop 139 = .ok (.istore 5, 2) := by decide +kernel
theorem dX5_drop_141 : decode cX5_drop 141 = .ok (.iload 5, 2) := by decide +kernel
theorem dX5_drop_143 : decode cX5_drop 143 = .ok (.aload_n 0, 1) := by decide +kernel
theorem dX5_drop_144 : decode cX5_drop 144 = .ok (.getfield 71, 3) := by decide +kernel
theorem dX5_drop_147 : decode cX5_drop 147 = .ok (.if_icmp .ge 54, 3) := by decide +kernel
theorem dX5_drop_150 : decode cX5_drop 150 = .ok (.iload_n 3, 1) := by decide +kernel
theorem dX5_drop_151 : decode cX5_drop 151 = .ok (.ifCond .eq 50, 3) := by decide +kernel
theorem dX5_drop_154 : decode cX5_drop 154 = .ok (.aload_n 0, 1) := by decide +kernel
theorem dX5_drop_155 : decode cX5_drop 155 = .ok (.getfield 53, 3) := by decide +kernel
theorem dX5_drop_158 : decode cX5_drop 158 = .ok (.iload 5, 2) := by decide +kernel
theorem dX5_drop_160 : decode cX5_drop 160 = .ok (.iaload, 1) := by decide +kernel
theorem dX5_drop_161 : decode cX5_drop 161 = .ok (.iconst 1, 1) := by decide +kernel
theorem dX5_drop_162 : decode cX5_drop 162 = .ok (.if_icmp .eq 14, 3) := by decide +kernel
theorem dX5_drop_165 : decode cX5_drop 165 = .ok (.aload_n 0, 1) := by decide +kernel
theorem dX5_drop_166 : decode cX5_drop 166 = .ok (.getfield 53, 3) := by decide +kernel
theorem dX5_drop_169 : decode cX5_drop 169 = .ok (.iload 5, 2) := by decide +kernel
theorem dX5_drop_171 : decode cX5_drop 171 = .ok (.iaload, 1) := by decide +kernel
theorem dX5_drop_172 : decode cX5_drop 172 = .ok (.iconst 2, 1) := by decide +kernel
theorem dX5_drop_173 : decode cX5_drop 173 = .ok (.if_icmp .ne 22, 3) := by decide +kernel
theorem dX5_drop_176 : decode cX5_drop 176 = .ok (.iload 4, 2) := by decide +kernel
theorem dX5_drop_178 : decode cX5_drop 178 = .ok (.aload_n 0, 1) := by decide +kernel
theorem dX5_drop_179 : decode cX5_drop 179 = .ok (.iload 5, 2) := by decide +kernel
theorem dX5_drop_181 : decode cX5_drop 181 = .ok (.invokevirtual 124, 3) := by decide +kernel
theorem dX5_drop_184 : decode cX5_drop 184 = .ok (.ifCond .eq 7, 3) := by decide +kernel
theorem dX5_drop_187 : decode cX5_drop 187 = .ok (.iconst 1, 1) := by decide +kernel
theorem dX5_drop_188 : decode cX5_drop 188 = .ok (.goto 4, 3) := by decide +kernel
theorem dX5_drop_191 : decode cX5_drop 191 = .ok (.iconst 0, 1) := by decide +kernel
theorem dX5_drop_192 : decode cX5_drop 192 = .ok (.iadd, 1) := by decide +kernel
theorem dX5_drop_193 : decode cX5_drop 193 = .ok (.istore 4, 2) := by decide +kernel
theorem dX5_drop_195 : decode cX5_drop 195 = .ok (.iinc 5 1, 3) := by decide +kernel
theorem dX5_drop_198 : decode cX5_drop 198 = .ok (.goto (-57), 3) := by decide +kernel
theorem dX5_drop_201 : decode cX5_drop 201 = .ok (.aload_n 0, 1) := by decide +kernel
theorem dX5_drop_202 : decode cX5_drop 202 = .ok (.dup, 1) := by decide +kernel
theorem dX5_drop_203 : decode cX5_drop 203 = .ok (.getfield 127, 3) := by decide +kernel
theorem dX5_drop_206 : decode cX5_drop 206 = .ok (.iload 4, 2) := by decide +kernel
theorem dX5_drop_208 : decode cX5_drop 208 = .ok (.iadd, 1) := by decide +kernel
theorem dX5_drop_209 : decode cX5_drop 209 = .ok (.putfield 127, 3) := by decide +kernel
theorem dX5_drop_212 : decode cX5_drop 212 = .ok (.iload 4, 2) := by decide +kernel
theorem dX5_drop_214 : decode cX5_drop 214 = .ok (.ireturn, 1) := by decide +kernel
theorem dX5_passesOne_0 : decode cX5_passesOne 0 = .ok (.aload_n 0, 1) := by decide +kernel
theorem dX5_passesOne_1 : decode cX5_passesOne 1 = .ok (.dup, 1) := by decide +kernel
theorem dX5_passesOne_2 : decode cX5_passesOne 2 = .ok (.getfield 92, 3) := by decide +kernel
theorem dX5_passesOne_5 : decode cX5_passesOne 5 = .ok (.iconst 1, 1) := by decide +kernel
theorem dX5_passesOne_6 : decode cX5_passesOne 6 = .ok (.iadd, 1) := by decide +kernel
theorem dX5_passesOne_7 : decode cX5_passesOne 7 = .ok (.putfield 92, 3) := by decide +kernel
theorem dX5_passesOne_10 : decode cX5_passesOne 10 = .ok (.iconst 0, 1) := by decide +kernel
theorem dX5_passesOne_11 : decode cX5_passesOne 11 = .ok (.istore_n 1, 1) := by decide +kernel
theorem dX5_passesOne_12 : decode cX5_passesOne 12 = .ok (.iconst 0, 1) := by decide +kernel
theorem dX5_passesOne_13 : decode cX5_passesOne 13 = .ok (.istore_n 2, 1) := by decide +kernel
theorem dX5_passesOne_14 : decode cX5_passesOne 14 = .ok (.iload_n 2, 1) := by decide +kernel
theorem dX5_passesOne_15 : decode cX5_passesOne 15 = .ok (.aload_n 0, 1) := by decide +kernel
theorem dX5_passesOne_16 : decode cX5_passesOne 16 = .ok (.getfield 71, 3) := by decide +kernel
theorem dX5_passesOne_19 : decode cX5_passesOne 19 = .ok (.if_icmp .ge 90, 3) := by decide +kernel
theorem dX5_passesOne_22 : decode cX5_passesOne 22 = .ok (.aload_n 0, 1) := by decide +kernel
theorem dX5_passesOne_23 : decode cX5_passesOne 23 = .ok (.getfield 53, 3) := by decide +kernel
theorem dX5_passesOne_26 : decode cX5_passesOne 26 = .ok (.iload_n 2, 1) := by decide +kernel
theorem dX5_passesOne_27 : decode cX5_passesOne 27 = .ok (.iaload, 1) := by decide +kernel
theorem dX5_passesOne_28 : decode cX5_passesOne 28 = .ok (.iconst 2, 1) := by decide +kernel
theorem dX5_passesOne_29 : decode cX5_passesOne 29 = .ok (.if_icmp .ne 23, 3) := by decide +kernel
theorem dX5_passesOne_32 : decode cX5_passesOne 32 = .ok (.aload_n 0, 1) := by decide +kernel
theorem dX5_passesOne_33 : decode cX5_passesOne 33 = .ok (.getfield 56, 3) := by decide +kernel
theorem dX5_passesOne_36 : decode cX5_passesOne 36 = .ok (.iload_n 2, 1) := by decide +kernel
theorem dX5_passesOne_37 : decode cX5_passesOne 37 = .ok (.iaload, 1) := by decide +kernel
theorem dX5_passesOne_38 : decode cX5_passesOne 38 = .ok (.aload_n 0, 1) := by decide +kernel
theorem dX5_passesOne_39 : decode cX5_passesOne 39 = .ok (.getfield 92, 3) := by decide +kernel
theorem dX5_passesOne_42 : decode cX5_passesOne 42 = .ok (.if_icmp .ne 10, 3) := by decide +kernel
theorem dX5_passesOne_45 : decode cX5_passesOne 45 = .ok (.aload_n 0, 1) := by decide +kernel
theorem dX5_passesOne_46 : decode cX5_passesOne 46 = .ok (.getfield 53, 3) := by decide +kernel
theorem dX5_passesOne_49 : decode cX5_passesOne 49 = .ok (.iload_n 2, 1) := by decide +kernel
theorem dX5_passesOne_50 : decode cX5_passesOne 50 = .ok (.iconst 3, 1) := by decide +kernel
theorem dX5_passesOne_51 : decode cX5_passesOne 51 = .ok (.iastore, 1) := by decide +kernel
theorem dX5_passesOne_52 : decode cX5_passesOne 52 = .ok (.aload_n 0, 1) := by decide +kernel
theorem dX5_passesOne_53 : decode cX5_passesOne 53 = .ok (.getfield 53, 3) := by decide +kernel
theorem dX5_passesOne_56 : decode cX5_passesOne 56 = .ok (.iload_n 2, 1) := by decide +kernel
theorem dX5_passesOne_57 : decode cX5_passesOne 57 = .ok (.iaload, 1) := by decide +kernel
theorem dX5_passesOne_58 : decode cX5_passesOne 58 = .ok (.iconst 3, 1) := by decide +kernel
theorem dX5_passesOne_59 : decode cX5_passesOne 59 = .ok (.if_icmp .ne 44, 3) := by decide +kernel
theorem dX5_passesOne_62 : decode cX5_passesOne 62 = .ok (.aload_n 0, 1) := by decide +kernel
theorem dX5_passesOne_63 : decode cX5_passesOne 63 = .ok (.iload_n 2, 1) := by decide +kernel
theorem dX5_passesOne_64 : decode cX5_passesOne 64 = .ok (.invokevirtual 82, 3) := by decide +kernel
theorem dX5_passesOne_67 : decode cX5_passesOne 67 = .ok (.aload_n 0, 1) := by decide +kernel
theorem dX5_passesOne_68 : decode cX5_passesOne 68 = .ok (.getfield 92, 3) := by decide +kernel
theorem dX5_passesOne_71 : decode cX5_passesOne 71 = .ok (.if_icmp .ne 32, 3) := by decide +kernel
theorem dX5_passesOne_74 : decode cX5_passesOne 74 = .ok (.aload_n 0, 1) := by decide +kernel
theorem dX5_passesOne_75 : decode cX5_passesOne 75 = .ok (.getfield 53, 3) := by decide +kernel
theorem dX5_passesOne_78 : decode cX5_passesOne 78 = .ok (.iload_n 2, 1) := by decide +kernel
theorem dX5_passesOne_79 : decode cX5_passesOne 79 = .ok (.iconst 4, 1) := by decide +kernel
theorem dX5_passesOne_80 : decode cX5_passesOne 80 = .ok (.iastore, 1) := by decide +kernel
theorem dX5_passesOne_81 : decode cX5_passesOne 81 = .ok (.aload_n 0, 1) := by decide +kernel
theorem dX5_passesOne_82 : decode cX5_passesOne 82 = .ok (.getfield 32, 3) := by decide +kernel
theorem dX5_passesOne_85 : decode cX5_passesOne 85 = .ok (.aload_n 0, 1) := by decide +kernel
theorem dX5_passesOne_86 : decode cX5_passesOne 86 = .ok (.getfield 41, 3) := by decide +kernel
theorem dX5_passesOne_89 : decode cX5_passesOne 89 = .ok (.iload_n 2, 1) := by decide +kernel
theorem dX5_passesOne_90 : decode cX5_passesOne 90 = .ok (.iaload, 1) := by decide +kernel
theorem dX5_passesOne_91 : decode cX5_passesOne 91 = .ok (.dup2, 1) := by decide +kernel
theorem dX5_passesOne_92 : decode cX5_passesOne 92 = .ok (.iaload, 1) := by decide +kernel
theorem dX5_passesOne_93 : decode cX5_passesOne 93 = .ok (.aload_n 0, 1) := by decide +kernel
theorem dX5_passesOne_94 : decode cX5_passesOne 94 = .ok (.iload_n 2, 1) := by decide +kernel
theorem dX5_passesOne_95 : decode cX5_passesOne 95 = .ok (.invokevirtual 130, 3) := by decide +kernel
theorem dX5_passesOne_98 : decode cX5_passesOne 98 = .ok (.iadd, 1) := by decide +kernel
theorem dX5_passesOne_99 : decode cX5_passesOne 99 = .ok (.iastore, 1) := by decide +kernel
theorem dX5_passesOne_100 : decode cX5_passesOne 100 = .ok (.iinc 1 1, 3) := by decide +kernel
theorem dX5_passesOne_103 : decode cX5_passesOne 103 = .ok (.iinc 2 1, 3) := by decide +kernel
theorem dX5_passesOne_106 : decode cX5_passesOne 106 = .ok (.goto (-92), 3) := by decide +kernel
theorem dX5_passesOne_109 : decode cX5_passesOne 109 = .ok (.iload_n 1, 1) := by decide +kernel
theorem dX5_passesOne_110 : decode cX5_passesOne 110 = .ok (.ireturn, 1) := by decide +kernel
theorem dX5_billOf_0 : decode cX5_billOf 0 = .ok (.aload_n 0, 1) := by decide +kernel
theorem dX5_billOf_1 : decode cX5_billOf 1 = .ok (.getfield 26, 3) := by decide +kernel
theorem dX5_billOf_4 : decode cX5_billOf 4 = .ok (.aload_n 0, 1) := by decide +kernel
theorem dX5_billOf_5 : decode cX5_billOf 5 = .ok (.getfield 41, 3) := by decide +kernel
theorem dX5_billOf_8 : decode cX5_billOf 8 = .ok (.iload_n 1, 1) := by decide +kernel
theorem dX5_billOf_9 : decode cX5_billOf 9 = .ok (.iaload, 1) := by decide +kernel
theorem dX5_billOf_10 : decode cX5_billOf 10 = .ok (.iaload, 1) := by decide +kernel
theorem dX5_billOf_11 : decode cX5_billOf 11 = .ok (.aload_n 0, 1) := by decide +kernel
theorem dX5_billOf_12 : decode cX5_billOf 12 = .ok (.getfield 38, 3) := by decide +kernel
theorem dX5_billOf_15 : decode cX5_billOf 15 = .ok (.aload_n 0, 1) := by decide +kernel
theorem dX5_billOf_16 : decode cX5_billOf 16 = .ok (.getfield 50, 3) := by decide +kernel
theorem dX5_billOf_19 : decode cX5_billOf 19 = .ok (.iload_n 1, 1) := by decide +kernel
theorem dX5_billOf_20 : decode cX5_billOf 20 = .ok (.iaload, 1) := by decide +kernel
theorem dX5_billOf_21 : decode cX5_billOf 21 = .ok (.iaload, 1) := by decide +kernel
theorem dX5_billOf_22 : decode cX5_billOf 22 = .ok (.imul, 1) := by decide +kernel
theorem dX5_billOf_23 : decode cX5_billOf 23 = .ok (.bipush 100, 2) := by decide +kernel
theorem dX5_billOf_25 : decode cX5_billOf 25 = .ok (.aload_n 0, 1) := by decide +kernel
theorem dX5_billOf_26 : decode cX5_billOf 26 = .ok (.getfield 29, 3) := by decide +kernel
theorem dX5_billOf_29 : decode cX5_billOf 29 = .ok (.aload_n 0, 1) := by decide +kernel
theorem dX5_billOf_30 : decode cX5_billOf 30 = .ok (.getfield 41, 3) := by decide +kernel
theorem dX5_billOf_33 : decode cX5_billOf 33 = .ok (.iload_n 1, 1) := by decide +kernel
theorem dX5_billOf_34 : decode cX5_billOf 34 = .ok (.iaload, 1) := by decide +kernel
theorem dX5_billOf_35 : decode cX5_billOf 35 = .ok (.iaload, 1) := by decide +kernel
theorem dX5_billOf_36 : decode cX5_billOf 36 = .ok (.imul, 1) := by decide +kernel
theorem dX5_billOf_37 : decode cX5_billOf 37 = .ok (.iadd, 1) := by decide +kernel
theorem dX5_billOf_38 : decode cX5_billOf 38 = .ok (.ireturn, 1) := by decide +kernel
theorem dX5_pass_0 : decode cX5_pass 0 = .ok (.aload_n 0, 1) := by decide +kernel
theorem dX5_pass_1 : decode cX5_pass 1 = .ok (.iload_n 1, 1) := by decide +kernel
theorem dX5_pass_2 : decode cX5_pass 2 = .ok (.iconst 1, 1) := by decide +kernel
theorem dX5_pass_3 : decode cX5_pass 3 = .ok (.sipush 2000, 3) := by decide +kernel
theorem dX5_pass_6 : decode cX5_pass 6 = .ok (.invokestatic 65, 3) := by decide +kernel
theorem dX5_pass_9 : decode cX5_pass 9 = .ok (.ifCond .ne 7, 3) := by decide +kernel
theorem dX5_pass_12 : decode cX5_pass 12 = .ok (.iconst 1, 1) := by decide +kernel
theorem dX5_pass_13 : decode cX5_pass 13 = .ok (.goto 20, 3) := by decide +kernel
theorem dX5_pass_16 : decode cX5_pass 16 = .ok (.aload_n 0, 1) := by decide +kernel
theorem dX5_pass_17 : decode cX5_pass 17 = .ok (.getfield 92, 3) := by decide +kernel
theorem dX5_pass_20 : decode cX5_pass 20 = .ok (.iload_n 1, 1) := by decide +kernel
theorem dX5_pass_21 : decode cX5_pass 21 = .ok (.iadd, 1) := by decide +kernel
theorem dX5_pass_22 : decode cX5_pass 22 = .ok (.sipush 20000, 3) := by decide +kernel
theorem dX5_pass_25 : decode cX5_pass 25 = .ok (.if_icmp .le 7, 3) := by decide +kernel
theorem dX5_pass_28 : decode cX5_pass 28 = .ok (.iconst 2, 1) := by decide +kernel
theorem dX5_pass_29 : decode cX5_pass 29 = .ok (.goto 4, 3) := by decide +kernel
theorem dX5_pass_32 : decode cX5_pass 32 = .ok (.iconst 0, 1) := by decide +kernel
theorem dX5_pass_33 : decode cX5_pass 33 = .ok (.putfield 59, 3) := by decide +kernel
theorem dX5_pass_36 : decode cX5_pass 36 = .ok (.iconst 0, 1) := by decide +kernel
theorem dX5_pass_37 : decode cX5_pass 37 = .ok (.istore_n 2, 1) := by decide +kernel
theorem dX5_pass_38 : decode cX5_pass 38 = .ok (.iconst 0, 1) := by decide +kernel
theorem dX5_pass_39 : decode cX5_pass 39 = .ok (.istore_n 3, 1) := by decide +kernel
theorem dX5_pass_40 : decode cX5_pass 40 = .ok (.iload_n 3, 1) := by decide +kernel
theorem dX5_pass_41 : decode cX5_pass 41 = .ok (.iload_n 1, 1) := by decide +kernel
theorem dX5_pass_42 : decode cX5_pass 42 = .ok (.if_icmp .ge 23, 3) := by decide +kernel
theorem dX5_pass_45 : decode cX5_pass 45 = .ok (.aload_n 0, 1) := by decide +kernel
theorem dX5_pass_46 : decode cX5_pass 46 = .ok (.getfield 59, 3) := by decide +kernel
theorem dX5_pass_49 : decode cX5_pass 49 = .ok (.ifCond .ne 16, 3) := by decide +kernel
theorem dX5_pass_52 : decode cX5_pass 52 = .ok (.iload_n 2, 1) := by decide +kernel
theorem dX5_pass_53 : decode cX5_pass 53 = .ok (.aload_n 0, 1) := by decide +kernel
theorem dX5_pass_54 : decode cX5_pass 54 = .ok (.invokevirtual 133, 3) := by decide +kernel
theorem dX5_pass_57 : decode cX5_pass 57 = .ok (.iadd, 1) := by decide +kernel
theorem dX5_pass_58 : decode cX5_pass 58 = .ok (.istore_n 2, 1) := by decide +kernel
theorem dX5_pass_59 : decode cX5_pass 59 = .ok (.iinc 3 1, 3) := by decide +kernel
theorem dX5_pass_62 : decode cX5_pass 62 = .ok (.goto (-22), 3) := by decide +kernel
theorem dX5_pass_65 : decode cX5_pass 65 = .ok (.iload_n 2, 1) := by decide +kernel
theorem dX5_pass_66 : decode cX5_pass 66 = .ok (.ireturn, 1) := by decide +kernel
theorem dX5_minute_0 : decode cX5_minute 0 = .ok (.aload_n 0, 1) := by decide +kernel
theorem dX5_minute_1 : decode cX5_minute 1 = .ok (.iconst 0, 1) := by decide +kernel
theorem dX5_minute_2 : decode cX5_minute 2 = .ok (.putfield 59, 3) := by decide +kernel
theorem dX5_minute_5 : decode cX5_minute 5 = .ok (.aload_n 0, 1) := by decide +kernel
theorem dX5_minute_6 : decode cX5_minute 6 = .ok (.getfield 92, 3) := by decide +kernel
theorem dX5_minute_9 : decode cX5_minute 9 = .ok (.ireturn, 1) := by decide +kernel
theorem dX5_level_0 : decode cX5_level 0 = .ok (.aload_n 0, 1) := by decide +kernel
theorem dX5_level_1 : decode cX5_level 1 = .ok (.iload_n 1, 1) := by decide +kernel
theorem dX5_level_2 : decode cX5_level 2 = .ok (.iconst 0, 1) := by decide +kernel
theorem dX5_level_3 : decode cX5_level 3 = .ok (.sipush 30000, 3) := by decide +kernel
theorem dX5_level_6 : decode cX5_level 6 = .ok (.invokestatic 65, 3) := by decide +kernel
theorem dX5_level_9 : decode cX5_level 9 = .ok (.ifCond .eq 7, 3) := by decide +kernel
theorem dX5_level_12 : decode cX5_level 12 = .ok (.iconst 0, 1) := by decide +kernel
theorem dX5_level_13 : decode cX5_level 13 = .ok (.goto 4, 3) := by decide +kernel
theorem dX5_level_16 : decode cX5_level 16 = .ok (.iconst 1, 1) := by decide +kernel
theorem dX5_level_17 : decode cX5_level 17 = .ok (.putfield 59, 3) := by decide +kernel
theorem dX5_level_20 : decode cX5_level 20 = .ok (.aload_n 0, 1) := by decide +kernel
theorem dX5_level_21 : decode cX5_level 21 = .ok (.getfield 59, 3) := by decide +kernel
theorem dX5_level_24 : decode cX5_level 24 = .ok (.ifCond .le 7, 3) := by decide +kernel
theorem dX5_level_27 : decode cX5_level 27 = .ok (.iconst 0, 1) := by decide +kernel
theorem dX5_level_28 : decode cX5_level 28 = .ok (.goto 8, 3) := by decide +kernel
theorem dX5_level_31 : decode cX5_level 31 = .ok (.aload_n 0, 1) := by decide +kernel
theorem dX5_level_32 : decode cX5_level 32 = .ok (.iload_n 1, 1) := by decide +kernel
theorem dX5_level_33 : decode cX5_level 33 = .ok (.invokevirtual 74, 3) := by decide +kernel
theorem dX5_level_36 : decode cX5_level 36 = .ok (.ireturn, 1) := by decide +kernel
theorem dX5_window_0 : decode cX5_window 0 = .ok (.aload_n 0, 1) := by decide +kernel
theorem dX5_window_1 : decode cX5_window 1 = .ok (.aload_n 0, 1) := by decide +kernel
theorem dX5_window_2 : decode cX5_window 2 = .ok (.iload_n 1, 1) := by decide +kernel
theorem dX5_window_3 : decode cX5_window 3 = .ok (.invokevirtual 108, 3) := by decide +kernel
theorem dX5_window_6 : decode cX5_window 6 = .ok (.ifCond .ne 7, 3) := by decide +kernel
theorem dX5_window_9 : decode cX5_window 9 = .ok (.iconst 1, 1) := by decide +kernel
theorem dX5_window_10 : decode cX5_window 10 = .ok (.goto 19, 3) := by decide +kernel
theorem dX5_window_13 : decode cX5_window 13 = .ok (.iload_n 2, 1) := by decide +kernel
theorem dX5_window_14 : decode cX5_window 14 = .ok (.iconst 0, 1) := by decide +kernel
theorem dX5_window_15 : decode cX5_window 15 = .ok (.sipush 20000, 3) := by decide +kernel
theorem dX5_window_18 : decode cX5_window 18 = .ok (.invokestatic 65, 3) := by decide +kernel
theorem dX5_window_21 : decode cX5_window 21 = .ok (.ifCond .eq 7, 3) := by decide +kernel
theorem dX5_window_24 : decode cX5_window 24 = .ok (.iconst 0, 1) := by decide +kernel
theorem dX5_window_25 : decode cX5_window 25 = .ok (.goto 4, 3) := by decide +kernel
theorem dX5_window_28 : decode cX5_window 28 = .ok (.iconst 2, 1) := by decide +kernel
theorem dX5_window_29 : decode cX5_window 29 = .ok (.putfield 59, 3) := by decide +kernel
theorem dX5_window_32 : decode cX5_window 32 = .ok (.iconst (-1), 1) := by decide +kernel
theorem dX5_window_33 : decode cX5_window 33 = .ok (.istore_n 3, 1) := by decide +kernel
theorem dX5_window_34 : decode cX5_window 34 = .ok (.iload_n 2, 1) := by decide +kernel
theorem dX5_window_35 : decode cX5_window 35 = .ok (.istore 4, 2) := by decide +kernel
theorem dX5_window_37 : decode cX5_window 37 = .ok (.aload_n 0, 1) := by decide +kernel
theorem dX5_window_38 : decode cX5_window 38 = .ok (.getfield 59, 3) := by decide +kernel
theorem dX5_window_41 : decode cX5_window 41 = .ok (.ifCond .ne 41, 3) := by decide +kernel
theorem dX5_window_44 : decode cX5_window 44 = .ok (.iload 4, 2) := by decide +kernel
theorem dX5_window_46 : decode cX5_window 46 = .ok (.iload_n 2, 1) := by decide +kernel
theorem dX5_window_47 : decode cX5_window 47 = .ok (.sipush 1440, 3) := by decide +kernel
theorem dX5_window_50 : decode cX5_window 50 = .ok (.iadd, 1) := by decide +kernel
theorem dX5_window_51 : decode cX5_window 51 = .ok (.if_icmp .gt 31, 3) := by decide +kernel
theorem dX5_window_54 : decode cX5_window 54 = .ok (.iload_n 3, 1) := by decide +kernel
theorem dX5_window_55 : decode cX5_window 55 = .ok (.iconst (-1), 1) := by decide +kernel
theorem dX5_window_56 : decode cX5_window 56 = .ok (.if_icmp .ne 26, 3) := by decide +kernel
theorem dX5_window_59 : decode cX5_window 59 = .ok (.aload_n 0, 1) := by decide +kernel
theorem dX5_window_60 : decode cX5_window 60 = .ok (.iload_n 1, 1) := by decide +kernel
theorem dX5_window_61 : decode cX5_window 61 = .ok (.iload 4, 2) := by decide +kernel
theorem dX5_window_63 : decode cX5_window 63 = .ok (.invokevirtual 95, 3) := by decide +kernel
theorem dX5_window_66 : decode cX5_window 66 = .ok (.ifCond .eq 8, 3) := by decide +kernel
theorem dX5_window_69 : decode cX5_window 69 = .ok (.iload 4, 2) := by decide +kernel
theorem dX5_window_71 : decode cX5_window 71 = .ok (.goto 4, 3) := by decide +kernel
theorem dX5_window_74 : decode cX5_window 74 = .ok (.iconst (-1), 1) := by decide +kernel
theorem dX5_window_75 : decode cX5_window 75 = .ok (.istore_n 3, 1) := by decide +kernel
theorem dX5_window_76 : decode cX5_window 76 = .ok (.iinc 4 1, 3) := by decide +kernel
theorem dX5_window_79 : decode cX5_window 79 = .ok (.goto (-42), 3) := by decide +kernel
theorem dX5_window_82 : decode cX5_window 82 = .ok (.aload_n 0, 1) := by decide +kernel
theorem dX5_window_83 : decode cX5_window 83 = .ok (.getfield 59, 3) := by decide +kernel
theorem dX5_window_86 : decode cX5_window 86 = .ok (.ifCond .le 7, 3) := by decide +kernel
theorem dX5_window_89 : decode cX5_window 89 = .ok (.iconst 0, 1) := by decide +kernel
theorem dX5_window_90 : decode cX5_window 90 = .ok (.goto 4, 3) := by decide +kernel
theorem dX5_window_93 : decode cX5_window 93 = .ok (.iload_n 3, 1) := by decide +kernel
theorem dX5_window_94 : decode cX5_window 94 = .ok (.ireturn, 1) := by decide +kernel
theorem dX5_many_0 : decode cX5_many 0 = .ok (.iload_n 0, 1) := by decide +kernel
theorem dX5_many_1 : decode cX5_many 1 = .ok (.iconst 1, 1) := by decide +kernel
theorem dX5_many_2 : decode cX5_many 2 = .ok (.iand, 1) := by decide +kernel
theorem dX5_many_3 : decode cX5_many 3 = .ok (.iload_n 0, 1) := by decide +kernel
theorem dX5_many_4 : decode cX5_many 4 = .ok (.iconst 1, 1) := by decide +kernel
theorem dX5_many_5 : decode cX5_many 5 = .ok (.ishr, 1) := by decide +kernel
theorem dX5_many_6 : decode cX5_many 6 = .ok (.iconst 1, 1) := by decide +kernel
theorem dX5_many_7 : decode cX5_many 7 = .ok (.iand, 1) := by decide +kernel
theorem dX5_many_8 : decode cX5_many 8 = .ok (.iadd, 1) := by decide +kernel
theorem dX5_many_9 : decode cX5_many 9 = .ok (.iload_n 0, 1) := by decide +kernel
theorem dX5_many_10 : decode cX5_many 10 = .ok (.iconst 2, 1) := by decide +kernel
theorem dX5_many_11 : decode cX5_many 11 = .ok (.ishr, 1) := by decide +kernel
theorem dX5_many_12 : decode cX5_many 12 = .ok (.iconst 1, 1) := by decide +kernel
theorem dX5_many_13 : decode cX5_many 13 = .ok (.iand, 1) := by decide +kernel
theorem dX5_many_14 : decode cX5_many 14 = .ok (.iadd, 1) := by decide +kernel
theorem dX5_many_15 : decode cX5_many 15 = .ok (.ireturn, 1) := by decide +kernel
theorem dX5_ofConference_0 : decode cX5_ofConference 0 = .ok (.aload_n 0, 1) := by decide +kernel
theorem dX5_ofConference_1 : decode cX5_ofConference 1 = .ok (.aload_n 0, 1) := by decide +kernel
theorem dX5_ofConference_2 : decode cX5_ofConference 2 = .ok (.iload_n 1, 1) := by decide +kernel
theorem dX5_ofConference_3 : decode cX5_ofConference 3 = .ok (.invokevirtual 111, 3) := by decide +kernel
theorem dX5_ofConference_6 : decode cX5_ofConference 6 = .ok (.ifCond .eq 16, 3) := by decide +kernel
theorem dX5_ofConference_9 : decode cX5_ofConference 9 = .ok (.iload_n 2, 1) := by decide +kernel
theorem dX5_ofConference_10 : decode cX5_ofConference 10 = .ok (.iconst 0, 1) := by decide +kernel
theorem dX5_ofConference_11 : decode cX5_ofConference 11 = .ok (.iconst 4, 1) := by decide +kernel
theorem dX5_ofConference_12 : decode cX5_ofConference 12 = .ok (.invokestatic 65, 3) := by decide +kernel
theorem dX5_ofConference_15 : decode cX5_ofConference 15 = .ok (.ifCond .eq 7, 3) := by decide +kernel
theorem dX5_ofConference_18 : decode cX5_ofConference 18 = .ok (.iconst 0, 1) := by decide +kernel
theorem dX5_ofConference_19 : decode cX5_ofConference 19 = .ok (.goto 4, 3) := by decide +kernel
theorem dX5_ofConference_22 : decode cX5_ofConference 22 = .ok (.iconst 1, 1) := by decide +kernel
theorem dX5_ofConference_23 : decode cX5_ofConference 23 = .ok (.putfield 59, 3) := by decide +kernel
theorem dX5_ofConference_26 : decode cX5_ofConference 26 = .ok (.aload_n 0, 1) := by decide +kernel
theorem dX5_ofConference_27 : decode cX5_ofConference 27 = .ok (.getfield 59, 3) := by decide +kernel
theorem dX5_ofConference_30 : decode cX5_ofConference 30 = .ok (.ifCond .le 5, 3) := by decide +kernel
theorem dX5_ofConference_33 : decode cX5_ofConference 33 = .ok (.iconst 0, 1) := by decide +kernel
theorem dX5_ofConference_34 : decode cX5_ofConference 34 = .ok (.ireturn, 1) := by decide +kernel
theorem dX5_ofConference_35 : decode cX5_ofConference 35 = .ok (.iload_n 2, 1) := by decide +kernel
theorem dX5_ofConference_36 : decode cX5_ofConference 36 = .ok (.tableswitch 63 0 3 #[32, 39, 46, 53], 32) := by decide +kernel
theorem dX5_ofConference_68 : decode cX5_ofConference 68 = .ok (.aload_n 0, 1) := by decide +kernel
theorem dX5_ofConference_69 : decode cX5_ofConference 69 = .ok (.getfield 53, 3) := by decide +kernel
theorem dX5_ofConference_72 : decode cX5_ofConference 72 = .ok (.iload_n 1, 1) := by decide +kernel
theorem dX5_ofConference_73 : decode cX5_ofConference 73 = .ok (.iaload, 1) := by decide +kernel
theorem dX5_ofConference_74 : decode cX5_ofConference 74 = .ok (.ireturn, 1) := by decide +kernel
theorem dX5_ofConference_75 : decode cX5_ofConference 75 = .ok (.aload_n 0, 1) := by decide +kernel
theorem dX5_ofConference_76 : decode cX5_ofConference 76 = .ok (.getfield 56, 3) := by decide +kernel
theorem dX5_ofConference_79 : decode cX5_ofConference 79 = .ok (.iload_n 1, 1) := by decide +kernel
theorem dX5_ofConference_80 : decode cX5_ofConference 80 = .ok (.iaload, 1) := by decide +kernel
theorem dX5_ofConference_81 : decode cX5_ofConference 81 = .ok (.ireturn, 1) := by decide +kernel
theorem dX5_ofConference_82 : decode cX5_ofConference 82 = .ok (.aload_n 0, 1) := by decide +kernel
theorem dX5_ofConference_83 : decode cX5_ofConference 83 = .ok (.getfield 50, 3) := by decide +kernel
theorem dX5_ofConference_86 : decode cX5_ofConference 86 = .ok (.iload_n 1, 1) := by decide +kernel
theorem dX5_ofConference_87 : decode cX5_ofConference 87 = .ok (.iaload, 1) := by decide +kernel
theorem dX5_ofConference_88 : decode cX5_ofConference 88 = .ok (.ireturn, 1) := by decide +kernel
theorem dX5_ofConference_89 : decode cX5_ofConference 89 = .ok (.aload_n 0, 1) := by decide +kernel
theorem dX5_ofConference_90 : decode cX5_ofConference 90 = .ok (.getfield 47, 3) := by decide +kernel
theorem dX5_ofConference_93 : decode cX5_ofConference 93 = .ok (.iload_n 1, 1) := by decide +kernel
theorem dX5_ofConference_94 : decode cX5_ofConference 94 = .ok (.iaload, 1) := by decide +kernel
theorem dX5_ofConference_95 : decode cX5_ofConference 95 = .ok (.invokestatic 137, 3) := by decide +kernel
theorem dX5_ofConference_98 : decode cX5_ofConference 98 = .ok (.ireturn, 1) := by decide +kernel
theorem dX5_ofConference_99 : decode cX5_ofConference 99 = .ok (.aload_n 0, 1) := by decide +kernel
theorem dX5_ofConference_100 : decode cX5_ofConference 100 = .ok (.getfield 41, 3) := by decide +kernel
theorem dX5_ofConference_103 : decode cX5_ofConference 103 = .ok (.iload_n 1, 1) := by decide +kernel
theorem dX5_ofConference_104 : decode cX5_ofConference 104 = .ok (.iaload, 1) := by decide +kernel
theorem dX5_ofConference_105 : decode cX5_ofConference 105 = .ok (.ireturn, 1) := by decide +kernel
theorem dX5_why_0 : decode cX5_why 0 = .ok (.aload_n 0, 1) := by decide +kernel
theorem dX5_why_1 : decode cX5_why 1 = .ok (.aload_n 0, 1) := by decide +kernel
theorem dX5_why_2 : decode cX5_why 2 = .ok (.iload_n 1, 1) := by decide +kernel
theorem dX5_why_3 : decode cX5_why 3 = .ok (.invokevirtual 111, 3) := by decide +kernel
theorem dX5_why_6 : decode cX5_why 6 = .ok (.ifCond .ne 7, 3) := by decide +kernel
theorem dX5_why_9 : decode cX5_why 9 = .ok (.iconst 1, 1) := by decide +kernel
theorem dX5_why_10 : decode cX5_why 10 = .ok (.goto 36, 3) := by decide +kernel
theorem dX5_why_13 : decode cX5_why 13 = .ok (.iload_n 2, 1) := by decide +kernel
theorem dX5_why_14 : decode cX5_why 14 = .ok (.aload_n 0, 1) := by decide +kernel
theorem dX5_why_15 : decode cX5_why 15 = .ok (.getfield 92, 3) := by decide +kernel
theorem dX5_why_18 : decode cX5_why 18 = .ok (.sipush 21440, 3) := by decide +kernel
theorem dX5_why_21 : decode cX5_why 21 = .ok (.invokestatic 65, 3) := by decide +kernel
theorem dX5_why_24 : decode cX5_why 24 = .ok (.ifCond .ne 7, 3) := by decide +kernel
theorem dX5_why_27 : decode cX5_why 27 = .ok (.iconst 2, 1) := by decide +kernel
theorem dX5_why_28 : decode cX5_why 28 = .ok (.goto 18, 3) := by decide +kernel
theorem dX5_why_31 : decode cX5_why 31 = .ok (.aload_n 0, 1) := by decide +kernel
theorem dX5_why_32 : decode cX5_why 32 = .ok (.getfield 50, 3) := by decide +kernel
theorem dX5_why_35 : decode cX5_why 35 = .ok (.iload_n 1, 1) := by decide +kernel
theorem dX5_why_36 : decode cX5_why 36 = .ok (.iaload, 1) := by decide +kernel
theorem dX5_why_37 : decode cX5_why 37 = .ok (.iconst (-1), 1) := by decide +kernel
theorem dX5_why_38 : decode cX5_why 38 = .ok (.if_icmp .ne 7, 3) := by decide +kernel
theorem dX5_why_41 : decode cX5_why 41 = .ok (.iconst 3, 1) := by decide +kernel
theorem dX5_why_42 : decode cX5_why 42 = .ok (.goto 4, 3) := by decide +kernel
theorem dX5_why_45 : decode cX5_why 45 = .ok (.iconst 0, 1) := by decide +kernel
theorem dX5_why_46 : decode cX5_why 46 = .ok (.putfield 59, 3) := by decide +kernel
theorem dX5_why_49 : decode cX5_why 49 = .ok (.aload_n 0, 1) := by decide +kernel
theorem dX5_why_50 : decode cX5_why 50 = .ok (.getfield 59, 3) := by decide +kernel
theorem dX5_why_53 : decode cX5_why 53 = .ok (.ifCond .le 5, 3) := by decide +kernel
theorem dX5_why_56 : decode cX5_why 56 = .ok (.iconst 0, 1) := by decide +kernel
theorem dX5_why_57 : decode cX5_why 57 = .ok (.ireturn, 1) := by decide +kernel
theorem dX5_why_58 : decode cX5_why 58 = .ok (.aload_n 0, 1) := by decide +kernel
theorem dX5_why_59 : decode cX5_why 59 = .ok (.aload_n 0, 1) := by decide +kernel
theorem dX5_why_60 : decode cX5_why 60 = .ok (.getfield 41, 3) := by decide +kernel
theorem dX5_why_63 : decode cX5_why 63 = .ok (.iload_n 1, 1) := by decide +kernel
theorem dX5_why_64 : decode cX5_why 64 = .ok (.iaload, 1) := by decide +kernel
theorem dX5_why_65 : decode cX5_why 65 = .ok (.iload_n 2, 1) := by decide +kernel
theorem dX5_why_66 : decode cX5_why 66 = .ok (.invokevirtual 95, 3) := by decide +kernel
theorem dX5_why_69 : decode cX5_why 69 = .ok (.ifCond .ne 5, 3) := by decide +kernel
theorem dX5_why_72 : decode cX5_why 72 = .ok (.iconst 1, 1) := by decide +kernel
theorem dX5_why_73 : decode cX5_why 73 = .ok (.ireturn, 1) := by decide +kernel
theorem dX5_why_74 : decode cX5_why 74 = .ok (.aload_n 0, 1) := by decide +kernel
theorem dX5_why_75 : decode cX5_why 75 = .ok (.iload_n 1, 1) := by decide +kernel
theorem dX5_why_76 : decode cX5_why 76 = .ok (.iload_n 2, 1) := by decide +kernel
theorem dX5_why_77 : decode cX5_why 77 = .ok (.invokevirtual 102, 3) := by decide +kernel
theorem dX5_why_80 : decode cX5_why 80 = .ok (.ifCond .ne 5, 3) := by decide +kernel
theorem dX5_why_83 : decode cX5_why 83 = .ok (.iconst 2, 1) := by decide +kernel
theorem dX5_why_84 : decode cX5_why 84 = .ok (.ireturn, 1) := by decide +kernel
theorem dX5_why_85 : decode cX5_why 85 = .ok (.aload_n 0, 1) := by decide +kernel
theorem dX5_why_86 : decode cX5_why 86 = .ok (.iload_n 1, 1) := by decide +kernel
theorem dX5_why_87 : decode cX5_why 87 = .ok (.iload_n 2, 1) := by decide +kernel
theorem dX5_why_88 : decode cX5_why 88 = .ok (.invokevirtual 105, 3) := by decide +kernel
theorem dX5_why_91 : decode cX5_why 91 = .ok (.ifCond .ne 7, 3) := by decide +kernel
theorem dX5_why_94 : decode cX5_why 94 = .ok (.iconst 3, 1) := by decide +kernel
theorem dX5_why_95 : decode cX5_why 95 = .ok (.goto 17, 3) := by decide +kernel
theorem dX5_why_98 : decode cX5_why 98 = .ok (.aload_n 0, 1) := by decide +kernel
theorem dX5_why_99 : decode cX5_why 99 = .ok (.iload_n 1, 1) := by decide +kernel
theorem dX5_why_100 : decode cX5_why 100 = .ok (.iload_n 2, 1) := by decide +kernel
theorem dX5_why_101 : decode cX5_why 101 = .ok (.invokevirtual 99, 3) := by decide +kernel
theorem dX5_why_104 : decode cX5_why 104 = .ok (.ifCond .eq 7, 3) := by decide +kernel
theorem dX5_why_107 : decode cX5_why 107 = .ok (.iconst 0, 1) := by decide +kernel
theorem dX5_why_108 : decode cX5_why 108 = .ok (.goto 4, 3) := by decide +kernel
theorem dX5_why_111 : decode cX5_why 111 = .ok (.iconst 4, 1) := by decide +kernel
theorem dX5_why_112 : decode cX5_why 112 = .ok (.ireturn, 1) := by decide +kernel
theorem dX5_rested_0 : decode cX5_rested 0 = .ok (.aload_n 0, 1) := by decide +kernel
theorem dX5_rested_1 : decode cX5_rested 1 = .ok (.aload_n 0, 1) := by decide +kernel
theorem dX5_rested_2 : decode cX5_rested 2 = .ok (.iload_n 1, 1) := by decide +kernel
theorem dX5_rested_3 : decode cX5_rested 3 = .ok (.invokevirtual 114, 3) := by decide +kernel
theorem dX5_rested_6 : decode cX5_rested 6 = .ok (.ifCond .eq 7, 3) := by decide +kernel
theorem dX5_rested_9 : decode cX5_rested 9 = .ok (.iconst 0, 1) := by decide +kernel
theorem dX5_rested_10 : decode cX5_rested 10 = .ok (.goto 4, 3) := by decide +kernel
theorem dX5_rested_13 : decode cX5_rested 13 = .ok (.iconst 1, 1) := by decide +kernel
theorem dX5_rested_14 : decode cX5_rested 14 = .ok (.putfield 59, 3) := by decide +kernel
theorem dX5_rested_17 : decode cX5_rested 17 = .ok (.aload_n 0, 1) := by decide +kernel
theorem dX5_rested_18 : decode cX5_rested 18 = .ok (.getfield 92, 3) := by decide +kernel
theorem dX5_rested_21 : decode cX5_rested 21 = .ok (.istore_n 2, 1) := by decide +kernel
theorem dX5_rested_22 : decode cX5_rested 22 = .ok (.iconst 0, 1) := by decide +kernel
theorem dX5_rested_23 : decode cX5_rested 23 = .ok (.istore_n 3, 1) := by decide +kernel
theorem dX5_rested_24 : decode cX5_rested 24 = .ok (.iload_n 3, 1) := by decide +kernel
theorem dX5_rested_25 : decode cX5_rested 25 = .ok (.aload_n 0, 1) := by decide +kernel
theorem dX5_rested_26 : decode cX5_rested 26 = .ok (.getfield 71, 3) := by decide +kernel
theorem dX5_rested_29 : decode cX5_rested 29 = .ok (.if_icmp .ge 73, 3) := by decide +kernel
theorem dX5_rested_32 : decode cX5_rested 32 = .ok (.aload_n 0, 1) := by decide +kernel
theorem dX5_rested_33 : decode cX5_rested 33 = .ok (.getfield 59, 3) := by decide +kernel
theorem dX5_rested_36 : decode cX5_rested 36 = .ok (.ifCond .ne 66, 3) := by decide +kernel
theorem dX5_rested_39 : decode cX5_rested 39 = .ok (.aload_n 0, 1) := by decide +kernel
theorem dX5_rested_40 : decode cX5_rested 40 = .ok (.iload_n 3, 1) := by decide +kernel
theorem dX5_rested_41 : decode cX5_rested 41 = .ok (.invokevirtual 78, 3) := by decide +kernel
theorem dX5_rested_44 : decode cX5_rested 44 = .ok (.ifCond .eq 36, 3) := by decide +kernel
theorem dX5_rested_47 : decode cX5_rested 47 = .ok (.aload_n 0, 1) := by decide +kernel
theorem dX5_rested_48 : decode cX5_rested 48 = .ok (.getfield 50, 3) := by decide +kernel
theorem dX5_rested_51 : decode cX5_rested 51 = .ok (.iload_n 3, 1) := by decide +kernel
theorem dX5_rested_52 : decode cX5_rested 52 = .ok (.iaload, 1) := by decide +kernel
theorem dX5_rested_53 : decode cX5_rested 53 = .ok (.iload_n 1, 1) := by decide +kernel
theorem dX5_rested_54 : decode cX5_rested 54 = .ok (.if_icmp .ne 26, 3) := by decide +kernel
theorem dX5_rested_57 : decode cX5_rested 57 = .ok (.aload_n 0, 1) := by decide +kernel
theorem dX5_rested_58 : decode cX5_rested 58 = .ok (.iload_n 3, 1) := by decide +kernel
theorem dX5_rested_59 : decode cX5_rested 59 = .ok (.invokevirtual 82, 3) := by decide +kernel
theorem dX5_rested_62 : decode cX5_rested 62 = .ok (.aload_n 0, 1) := by decide +kernel
theorem dX5_rested_63 : decode cX5_rested 63 = .ok (.getfield 26, 3) := by decide +kernel
theorem dX5_rested_66 : decode cX5_rested 66 = .ok (.aload_n 0, 1) := by decide +kernel
theorem dX5_rested_67 : decode cX5_rested 67 = .ok (.getfield 41, 3) := by decide +kernel
theorem dX5_rested_70 : decode cX5_rested 70 = .ok (.iload_n 3, 1) := by decide +kernel
theorem dX5_rested_71 : decode cX5_rested 71 = .ok (.iaload, 1) := by decide +kernel
theorem dX5_rested_72 : decode cX5_rested 72 = .ok (.iaload, 1) := by decide +kernel
theorem dX5_rested_73 : decode cX5_rested 73 = .ok (.invokestatic 85, 3) := by decide +kernel
theorem dX5_rested_76 : decode cX5_rested 76 = .ok (.iadd, 1) := by decide +kernel
theorem dX5_rested_77 : decode cX5_rested 77 = .ok (.goto 4, 3) := by decide +kernel
theorem dX5_rested_80 : decode cX5_rested 80 = .ok (.iconst 0, 1) := by decide +kernel
theorem dX5_rested_81 : decode cX5_rested 81 = .ok (.istore 4, 2) := by decide +kernel
theorem dX5_rested_83 : decode cX5_rested 83 = .ok (.iload 4, 2) := by decide +kernel
theorem dX5_rested_85 : decode cX5_rested 85 = .ok (.iload_n 2, 1) := by decide +kernel
theorem dX5_rested_86 : decode cX5_rested 86 = .ok (.if_icmp .le 8, 3) := by decide +kernel
theorem dX5_rested_89 : decode cX5_rested 89 = .ok (.iload 4, 2) := by decide +kernel
theorem dX5_rested_91 : decode cX5_rested 91 = .ok (.goto 4, 3) := by decide +kernel
theorem dX5_rested_94 : decode cX5_rested 94 = .ok (.iload_n 2, 1) := by decide +kernel
theorem dX5_rested_95 : decode cX5_rested 95 = .ok (.istore_n 2, 1) := by decide +kernel
theorem dX5_rested_96 : decode cX5_rested 96 = .ok (.iinc 3 1, 3) := by decide +kernel
theorem dX5_rested_99 : decode cX5_rested 99 = .ok (.goto (-75), 3) := by decide +kernel
theorem dX5_rested_102 : decode cX5_rested 102 = .ok (.aload_n 0, 1) := by decide +kernel
theorem dX5_rested_103 : decode cX5_rested 103 = .ok (.getfield 59, 3) := by decide +kernel
theorem dX5_rested_106 : decode cX5_rested 106 = .ok (.ifCond .le 7, 3) := by decide +kernel
theorem dX5_rested_109 : decode cX5_rested 109 = .ok (.iconst 0, 1) := by decide +kernel
theorem dX5_rested_110 : decode cX5_rested 110 = .ok (.goto 4, 3) := by decide +kernel
theorem dX5_rested_113 : decode cX5_rested 113 = .ok (.iload_n 2, 1) := by decide +kernel
theorem dX5_rested_114 : decode cX5_rested 114 = .ok (.ireturn, 1) := by decide +kernel
theorem dX5_restedAnew_0 : decode cX5_restedAnew 0 = .ok (.aload_n 0, 1) := by decide +kernel
theorem dX5_restedAnew_1 : decode cX5_restedAnew 1 = .ok (.iload_n 1, 1) := by decide +kernel
theorem dX5_restedAnew_2 : decode cX5_restedAnew 2 = .ok (.invokevirtual 140, 3) := by decide +kernel
theorem dX5_restedAnew_5 : decode cX5_restedAnew 5 = .ok (.ireturn, 1) := by decide +kernel
theorem dX5_bill_0 : decode cX5_bill 0 = .ok (.aload_n 0, 1) := by decide +kernel
theorem dX5_bill_1 : decode cX5_bill 1 = .ok (.aload_n 0, 1) := by decide +kernel
theorem dX5_bill_2 : decode cX5_bill 2 = .ok (.iload_n 1, 1) := by decide +kernel
theorem dX5_bill_3 : decode cX5_bill 3 = .ok (.invokevirtual 108, 3) := by decide +kernel
theorem dX5_bill_6 : decode cX5_bill 6 = .ok (.ifCond .eq 7, 3) := by decide +kernel
theorem dX5_bill_9 : decode cX5_bill 9 = .ok (.iconst 0, 1) := by decide +kernel
theorem dX5_bill_10 : decode cX5_bill 10 = .ok (.goto 4, 3) := by decide +kernel
theorem dX5_bill_13 : decode cX5_bill 13 = .ok (.iconst 1, 1) := by decide +kernel
theorem dX5_bill_14 : decode cX5_bill 14 = .ok (.putfield 59, 3) := by decide +kernel
theorem dX5_bill_17 : decode cX5_bill 17 = .ok (.aload_n 0, 1) := by decide +kernel
theorem dX5_bill_18 : decode cX5_bill 18 = .ok (.getfield 59, 3) := by decide +kernel
theorem dX5_bill_21 : decode cX5_bill 21 = .ok (.ifCond .le 7, 3) := by decide +kernel
theorem dX5_bill_24 : decode cX5_bill 24 = .ok (.iconst 0, 1) := by decide +kernel
theorem dX5_bill_25 : decode cX5_bill 25 = .ok (.goto 9, 3) := by decide +kernel
theorem dX5_bill_28 : decode cX5_bill 28 = .ok (.aload_n 0, 1) := by decide +kernel
theorem dX5_bill_29 : decode cX5_bill 29 = .ok (.getfield 32, 3) := by decide +kernel
theorem dX5_bill_32 : decode cX5_bill 32 = .ok (.iload_n 1, 1) := by decide +kernel
theorem dX5_bill_33 : decode cX5_bill 33 = .ok (.iaload, 1) := by decide +kernel
theorem dX5_bill_34 : decode cX5_bill 34 = .ok (.ireturn, 1) := by decide +kernel
theorem dX5_ofPilot_0 : decode cX5_ofPilot 0 = .ok (.aload_n 0, 1) := by decide +kernel
theorem dX5_ofPilot_1 : decode cX5_ofPilot 1 = .ok (.aload_n 0, 1) := by decide +kernel
theorem dX5_ofPilot_2 : decode cX5_ofPilot 2 = .ok (.iload_n 1, 1) := by decide +kernel
theorem dX5_ofPilot_3 : decode cX5_ofPilot 3 = .ok (.invokevirtual 114, 3) := by decide +kernel
theorem dX5_ofPilot_6 : decode cX5_ofPilot 6 = .ok (.ifCond .eq 16, 3) := by decide +kernel
theorem dX5_ofPilot_9 : decode cX5_ofPilot 9 = .ok (.iload_n 2, 1) := by decide +kernel
theorem dX5_ofPilot_10 : decode cX5_ofPilot 10 = .ok (.iconst 0, 1) := by decide +kernel
theorem dX5_ofPilot_11 : decode cX5_ofPilot 11 = .ok (.iconst 3, 1) := by decide +kernel
theorem dX5_ofPilot_12 : decode cX5_ofPilot 12 = .ok (.invokestatic 65, 3) := by decide +kernel
theorem dX5_ofPilot_15 : decode cX5_ofPilot 15 = .ok (.ifCond .eq 7, 3) := by decide +kernel
theorem dX5_ofPilot_18 : decode cX5_ofPilot 18 = .ok (.iconst 0, 1) := by decide +kernel
theorem dX5_ofPilot_19 : decode cX5_ofPilot 19 = .ok (.goto 4, 3) := by decide +kernel
theorem dX5_ofPilot_22 : decode cX5_ofPilot 22 = .ok (.iconst 1, 1) := by decide +kernel
theorem dX5_ofPilot_23 : decode cX5_ofPilot 23 = .ok (.putfield 59, 3) := by decide +kernel
theorem dX5_ofPilot_26 : decode cX5_ofPilot 26 = .ok (.iconst 0, 1) := by decide +kernel
theorem dX5_ofPilot_27 : decode cX5_ofPilot 27 = .ok (.istore_n 3, 1) := by decide +kernel
theorem dX5_ofPilot_28 : decode cX5_ofPilot 28 = .ok (.iconst 0, 1) := by decide +kernel
theorem dX5_ofPilot_29 : decode cX5_ofPilot 29 = .ok (.istore 4, 2) := by decide +kernel
theorem dX5_ofPilot_31 : decode cX5_ofPilot 31 = .ok (.iload 4, 2) := by decide +kernel
theorem dX5_ofPilot_33 : decode cX5_ofPilot 33 = .ok (.aload_n 0, 1) := by decide +kernel
theorem dX5_ofPilot_34 : decode cX5_ofPilot 34 = .ok (.getfield 71, 3) := by decide +kernel
theorem dX5_ofPilot_37 : decode cX5_ofPilot 37 = .ok (.if_icmp .ge 114, 3) := by decide +kernel
theorem dX5_ofPilot_40 : decode cX5_ofPilot 40 = .ok (.aload_n 0, 1) := by decide +kernel
theorem dX5_ofPilot_41 : decode cX5_ofPilot 41 = .ok (.getfield 59, 3) := by decide +kernel
theorem dX5_ofPilot_44 : decode cX5_ofPilot 44 = .ok (.ifCond .ne 107, 3) := by decide +kernel
theorem dX5_ofPilot_47 : decode cX5_ofPilot 47 = .ok (.aload_n 0, 1) := by decide +kernel
theorem dX5_ofPilot_48 : decode cX5_ofPilot 48 = .ok (.getfield 50, 3) := by decide +kernel
theorem dX5_ofPilot_51 : decode cX5_ofPilot 51 = .ok (.iload 4, 2) := by decide +kernel
theorem dX5_ofPilot_53 : decode cX5_ofPilot 53 = .ok (.iaload, 1) := by decide +kernel
theorem dX5_ofPilot_54 : decode cX5_ofPilot 54 = .ok (.iload_n 1, 1) := by decide +kernel
theorem dX5_ofPilot_55 : decode cX5_ofPilot 55 = .ok (.if_icmp .ne 27, 3) := by decide +kernel
theorem dX5_ofPilot_58 : decode cX5_ofPilot 58 = .ok (.aload_n 0, 1) := by decide +kernel
theorem dX5_ofPilot_59 : decode cX5_ofPilot 59 = .ok (.getfield 53, 3) := by decide +kernel
theorem dX5_ofPilot_62 : decode cX5_ofPilot 62 = .ok (.iload 4, 2) := by decide +kernel
theorem dX5_ofPilot_64 : decode cX5_ofPilot 64 = .ok (.iaload, 1) := by decide +kernel
theorem dX5_ofPilot_65 : decode cX5_ofPilot 65 = .ok (.iload_n 2, 1) := by decide +kernel
theorem dX5_ofPilot_66 : decode cX5_ofPilot 66 = .ok (.iconst 2, 1) := by decide +kernel
theorem dX5_ofPilot_67 : decode cX5_ofPilot 67 = .ok (.if_icmp .ne 7, 3) := by decide +kernel
theorem dX5_ofPilot_70 : decode cX5_ofPilot 70 = .ok (.iconst 3, 1) := by decide +kernel
theorem dX5_ofPilot_71 : decode cX5_ofPilot 71 = .ok (.goto 4, 3) := by decide +kernel
theorem dX5_ofPilot_74 : decode cX5_ofPilot 74 = .ok (.iconst 4, 1) := by decide +kernel
theorem dX5_ofPilot_75 : decode cX5_ofPilot 75 = .ok (.if_icmp .ne 7, 3) := by decide +kernel
theorem dX5_ofPilot_78 : decode cX5_ofPilot 78 = .ok (.iconst 1, 1) := by decide +kernel
theorem dX5_ofPilot_79 : decode cX5_ofPilot 79 = .ok (.goto 4, 3) := by decide +kernel
theorem dX5_ofPilot_82 : decode cX5_ofPilot 82 = .ok (.iconst 0, 1) := by decide +kernel
theorem dX5_ofPilot_83 : decode cX5_ofPilot 83 = .ok (.istore 5, 2) := by decide +kernel
theorem dX5_ofPilot_85 : decode cX5_ofPilot 85 = .ok (.iload_n 3, 1) := by decide +kernel
theorem dX5_ofPilot_86 : decode cX5_ofPilot 86 = .ok (.iload 5, 2) := by decide +kernel
theorem dX5_ofPilot_88 : decode cX5_ofPilot 88 = .ok (.ifCond .ne 7, 3) := by decide +kernel
theorem dX5_ofPilot_91 : decode cX5_ofPilot 91 = .ok (.iconst 0, 1) := by decide +kernel
theorem dX5_ofPilot_92 : decode cX5_ofPilot 92 = .ok (.goto 51, 3) := by decide +kernel
theorem dX5_ofPilot_95 : decode cX5_ofPilot 95 = .ok (.iload_n 2, 1) := by decide +kernel
theorem dX5_ofPilot_96 : decode cX5_ofPilot 96 = .ok (.iconst 1, 1) := by decide +kernel
theorem dX5_ofPilot_97 : decode cX5_ofPilot 97 = .ok (.if_icmp .ne 18, 3) := by decide +kernel
theorem dX5_ofPilot_100 : decode cX5_ofPilot 100 = .ok (.aload_n 0, 1) := by decide +kernel
theorem dX5_ofPilot_101 : decode cX5_ofPilot 101 = .ok (.getfield 26, 3) := by decide +kernel
theorem dX5_ofPilot_104 : decode cX5_ofPilot 104 = .ok (.aload_n 0, 1) := by decide +kernel
theorem dX5_ofPilot_105 : decode cX5_ofPilot 105 = .ok (.getfield 41, 3) := by decide +kernel
theorem dX5_ofPilot_108 : decode cX5_ofPilot 108 = .ok (.iload 4, 2) := by decide +kernel
theorem dX5_ofPilot_110 : decode cX5_ofPilot 110 = .ok (.iaload, 1) := by decide +kernel
theorem dX5_ofPilot_111 : decode cX5_ofPilot 111 = .ok (.iaload, 1) := by decide +kernel
theorem dX5_ofPilot_112 : decode cX5_ofPilot 112 = .ok (.goto 31, 3) := by decide +kernel
theorem dX5_ofPilot_115 : decode cX5_ofPilot 115 = .ok (.iload_n 2, 1) := by decide +kernel
theorem dX5_ofPilot_116 : decode cX5_ofPilot 116 = .ok (.iconst 3, 1) := by decide +kernel
theorem dX5_ofPilot_117 : decode cX5_ofPilot 117 = .ok (.if_icmp .ne 25, 3) := by decide +kernel
theorem dX5_ofPilot_120 : decode cX5_ofPilot 120 = .ok (.aload_n 0, 1) := by decide +kernel
theorem dX5_ofPilot_121 : decode cX5_ofPilot 121 = .ok (.getfield 26, 3) := by decide +kernel
theorem dX5_ofPilot_124 : decode cX5_ofPilot 124 = .ok (.aload_n 0, 1) := by decide +kernel
theorem dX5_ofPilot_125 : decode cX5_ofPilot 125 = .ok (.getfield 41, 3) := by decide +kernel
theorem dX5_ofPilot_128 : decode cX5_ofPilot 128 = .ok (.iload 4, 2) := by decide +kernel
theorem dX5_ofPilot_130 : decode cX5_ofPilot 130 = .ok (.iaload, 1) := by decide +kernel
theorem dX5_ofPilot_131 : decode cX5_ofPilot 131 = .ok (.iaload, 1) := by decide +kernel
theorem dX5_ofPilot_132 : decode cX5_ofPilot 132 = .ok (.aload_n 0, 1) := by decide +kernel
theorem dX5_ofPilot_133 : decode cX5_ofPilot 133 = .ok (.getfield 38, 3) := by decide +kernel
theorem dX5_ofPilot_136 : decode cX5_ofPilot 136 = .ok (.iload_n 1, 1) := by decide +kernel
theorem dX5_ofPilot_137 : decode cX5_ofPilot 137 = .ok (.iaload, 1) := by decide +kernel
theorem dX5_ofPilot_138 : decode cX5_ofPilot 138 = .ok (.imul, 1) := by decide +kernel
theorem dX5_ofPilot_139 : decode cX5_ofPilot 139 = .ok (.goto 4, 3) := by decide +kernel
theorem dX5_ofPilot_142 : decode cX5_ofPilot 142 = .ok (.iconst 1, 1) := by decide +kernel
theorem dX5_ofPilot_143 : decode cX5_ofPilot 143 = .ok (.iadd, 1) := by decide +kernel
theorem dX5_ofPilot_144 : decode cX5_ofPilot 144 = .ok (.istore_n 3, 1) := by decide +kernel
theorem dX5_ofPilot_145 : decode cX5_ofPilot 145 = .ok (.iinc 4 1, 3) := by decide +kernel
theorem dX5_ofPilot_148 : decode cX5_ofPilot 148 = .ok (.goto (-117), 3) := by decide +kernel
theorem dX5_ofPilot_151 : decode cX5_ofPilot 151 = .ok (.iload_n 2, 1) := by decide +kernel
theorem dX5_ofPilot_152 : decode cX5_ofPilot 152 = .ok (.iconst 2, 1) := by decide +kernel
theorem dX5_ofPilot_153 : decode cX5_ofPilot 153 = .ok (.if_icmp .ne 11, 3) := by decide +kernel
theorem dX5_ofPilot_156 : decode cX5_ofPilot 156 = .ok (.iload_n 3, 1) := by decide +kernel
theorem dX5_ofPilot_157 : decode cX5_ofPilot 157 = .ok (.ifCond .le 7, 3) := by decide +kernel
theorem dX5_ofPilot_160 : decode cX5_ofPilot 160 = .ok (.iconst 1, 1) := by decide +kernel
theorem dX5_ofPilot_161 : decode cX5_ofPilot 161 = .ok (.goto 4, 3) := by decide +kernel
theorem dX5_ofPilot_164 : decode cX5_ofPilot 164 = .ok (.iload_n 3, 1) := by decide +kernel
theorem dX5_ofPilot_165 : decode cX5_ofPilot 165 = .ok (.ireturn, 1) := by decide +kernel
theorem dX5_bills_0 : decode cX5_bills 0 = .ok (.iconst 0, 1) := by decide +kernel
theorem dX5_bills_1 : decode cX5_bills 1 = .ok (.istore_n 1, 1) := by decide +kernel
theorem dX5_bills_2 : decode cX5_bills 2 = .ok (.iconst 0, 1) := by decide +kernel
theorem dX5_bills_3 : decode cX5_bills 3 = .ok (.istore_n 2, 1) := by decide +kernel
theorem dX5_bills_4 : decode cX5_bills 4 = .ok (.iload_n 2, 1) := by decide +kernel
theorem dX5_bills_5 : decode cX5_bills 5 = .ok (.aload_n 0, 1) := by decide +kernel
theorem dX5_bills_6 : decode cX5_bills 6 = .ok (.getfield 62, 3) := by decide +kernel
theorem dX5_bills_9 : decode cX5_bills 9 = .ok (.if_icmp .ge 18, 3) := by decide +kernel
theorem dX5_bills_12 : decode cX5_bills 12 = .ok (.iload_n 1, 1) := by decide +kernel
theorem dX5_bills_13 : decode cX5_bills 13 = .ok (.aload_n 0, 1) := by decide +kernel
theorem dX5_bills_14 : decode cX5_bills 14 = .ok (.getfield 32, 3) := by decide +kernel
theorem dX5_bills_17 : decode cX5_bills 17 = .ok (.iload_n 2, 1) := by decide +kernel
theorem dX5_bills_18 : decode cX5_bills 18 = .ok (.iaload, 1) := by decide +kernel
theorem dX5_bills_19 : decode cX5_bills 19 = .ok (.iadd, 1) := by decide +kernel
theorem dX5_bills_20 : decode cX5_bills 20 = .ok (.istore_n 1, 1) := by decide +kernel
theorem dX5_bills_21 : decode cX5_bills 21 = .ok (.iinc 2 1, 3) := by decide +kernel
theorem dX5_bills_24 : decode cX5_bills 24 = .ok (.goto (-20), 3) := by decide +kernel
theorem dX5_bills_27 : decode cX5_bills 27 = .ok (.iload_n 1, 1) := by decide +kernel
theorem dX5_bills_28 : decode cX5_bills 28 = .ok (.ireturn, 1) := by decide +kernel
theorem dX5_count_0 : decode cX5_count 0 = .ok (.aload_n 0, 1) := by decide +kernel
theorem dX5_count_1 : decode cX5_count 1 = .ok (.iload_n 1, 1) := by decide +kernel
theorem dX5_count_2 : decode cX5_count 2 = .ok (.iconst 0, 1) := by decide +kernel
theorem dX5_count_3 : decode cX5_count 3 = .ok (.bipush 7, 2) := by decide +kernel
theorem dX5_count_5 : decode cX5_count 5 = .ok (.invokestatic 65, 3) := by decide +kernel
theorem dX5_count_8 : decode cX5_count 8 = .ok (.ifCond .eq 7, 3) := by decide +kernel
theorem dX5_count_11 : decode cX5_count 11 = .ok (.iconst 0, 1) := by decide +kernel
theorem dX5_count_12 : decode cX5_count 12 = .ok (.goto 4, 3) := by decide +kernel
theorem dX5_count_15 : decode cX5_count 15 = .ok (.iconst 1, 1) := by decide +kernel
theorem dX5_count_16 : decode cX5_count 16 = .ok (.putfield 59, 3) := by decide +kernel
theorem dX5_count_19 : decode cX5_count 19 = .ok (.aload_n 0, 1) := by decide +kernel
theorem dX5_count_20 : decode cX5_count 20 = .ok (.getfield 59, 3) := by decide +kernel
theorem dX5_count_23 : decode cX5_count 23 = .ok (.ifCond .le 5, 3) := by decide +kernel
theorem dX5_count_26 : decode cX5_count 26 = .ok (.iconst 0, 1) := by decide +kernel
theorem dX5_count_27 : decode cX5_count 27 = .ok (.ireturn, 1) := by decide +kernel
theorem dX5_count_28 : decode cX5_count 28 = .ok (.iload_n 1, 1) := by decide +kernel
theorem dX5_count_29 : decode cX5_count 29 = .ok (.iconst 5, 1) := by decide +kernel
theorem dX5_count_30 : decode cX5_count 30 = .ok (.if_icmp .le 21, 3) := by decide +kernel
theorem dX5_count_33 : decode cX5_count 33 = .ok (.iload_n 1, 1) := by decide +kernel
theorem dX5_count_34 : decode cX5_count 34 = .ok (.bipush 6, 2) := by decide +kernel
theorem dX5_count_36 : decode cX5_count 36 = .ok (.if_icmp .ne 10, 3) := by decide +kernel
theorem dX5_count_39 : decode cX5_count 39 = .ok (.aload_n 0, 1) := by decide +kernel
theorem dX5_count_40 : decode cX5_count 40 = .ok (.invokevirtual 143, 3) := by decide +kernel
theorem dX5_count_43 : decode cX5_count 43 = .ok (.goto 7, 3) := by decide +kernel
theorem dX5_count_46 : decode cX5_count 46 = .ok (.aload_n 0, 1) := by decide +kernel
theorem dX5_count_47 : decode cX5_count 47 = .ok (.getfield 127, 3) := by decide +kernel
theorem dX5_count_50 : decode cX5_count 50 = .ok (.ireturn, 1) := by decide +kernel
theorem dX5_count_51 : decode cX5_count 51 = .ok (.iconst 0, 1) := by decide +kernel
theorem dX5_count_52 : decode cX5_count 52 = .ok (.istore_n 2, 1) := by decide +kernel
theorem dX5_count_53 : decode cX5_count 53 = .ok (.iconst 0, 1) := by decide +kernel
theorem dX5_count_54 : decode cX5_count 54 = .ok (.istore_n 3, 1) := by decide +kernel
theorem dX5_count_55 : decode cX5_count 55 = .ok (.iload_n 3, 1) := by decide +kernel
theorem dX5_count_56 : decode cX5_count 56 = .ok (.aload_n 0, 1) := by decide +kernel
theorem dX5_count_57 : decode cX5_count 57 = .ok (.getfield 71, 3) := by decide +kernel
theorem dX5_count_60 : decode cX5_count 60 = .ok (.if_icmp .ge 60, 3) := by decide +kernel
theorem dX5_count_63 : decode cX5_count 63 = .ok (.iload_n 2, 1) := by decide +kernel
theorem dX5_count_64 : decode cX5_count 64 = .ok (.iload_n 1, 1) := by decide +kernel
theorem dX5_count_65 : decode cX5_count 65 = .ok (.iconst 5, 1) := by decide +kernel
theorem dX5_count_66 : decode cX5_count 66 = .ok (.if_icmp .ne 31, 3) := by decide +kernel
theorem dX5_count_69 : decode cX5_count 69 = .ok (.aload_n 0, 1) := by decide +kernel
theorem dX5_count_70 : decode cX5_count 70 = .ok (.getfield 53, 3) := by decide +kernel
theorem dX5_count_73 : decode cX5_count 73 = .ok (.iload_n 3, 1) := by decide +kernel
theorem dX5_count_74 : decode cX5_count 74 = .ok (.iaload, 1) := by decide +kernel
theorem dX5_count_75 : decode cX5_count 75 = .ok (.iconst 3, 1) := by decide +kernel
theorem dX5_count_76 : decode cX5_count 76 = .ok (.if_icmp .ne 17, 3) := by decide +kernel
theorem dX5_count_79 : decode cX5_count 79 = .ok (.aload_n 0, 1) := by decide +kernel
theorem dX5_count_80 : decode cX5_count 80 = .ok (.getfield 29, 3) := by decide +kernel
theorem dX5_count_83 : decode cX5_count 83 = .ok (.aload_n 0, 1) := by decide +kernel
theorem dX5_count_84 : decode cX5_count 84 = .ok (.getfield 41, 3) := by decide +kernel
theorem dX5_count_87 : decode cX5_count 87 = .ok (.iload_n 3, 1) := by decide +kernel
theorem dX5_count_88 : decode cX5_count 88 = .ok (.iaload, 1) := by decide +kernel
theorem dX5_count_89 : decode cX5_count 89 = .ok (.iaload, 1) := by decide +kernel
theorem dX5_count_90 : decode cX5_count 90 = .ok (.goto 22, 3) := by decide +kernel
theorem dX5_count_93 : decode cX5_count 93 = .ok (.iconst 0, 1) := by decide +kernel
theorem dX5_count_94 : decode cX5_count 94 = .ok (.goto 18, 3) := by decide +kernel
theorem dX5_count_97 : decode cX5_count 97 = .ok (.aload_n 0, 1) := by decide +kernel
theorem dX5_count_98 : decode cX5_count 98 = .ok (.getfield 53, 3) := by decide +kernel
theorem dX5_count_101 : decode cX5_count 101 = .ok (.iload_n 3, 1) := by decide +kernel
theorem dX5_count_102 : decode cX5_count 102 = .ok (.iaload, 1) := by decide +kernel
theorem dX5_count_103 : decode cX5_count 103 = .ok (.iload_n 1, 1) := by decide +kernel
theorem dX5_count_104 : decode cX5_count 104 = .ok (.if_icmp .ne 7, 3) := by decide +kernel
theorem dX5_count_107 : decode cX5_count 107 = .ok (.iconst 1, 1) := by decide +kernel
theorem dX5_count_108 : decode cX5_count 108 = .ok (.goto 4, 3) := by decide +kernel
theorem dX5_count_111 : decode cX5_count 111 = .ok (.iconst 0, 1) := by decide +kernel
theorem dX5_count_112 : decode cX5_count 112 = .ok (.iadd, 1) := by decide +kernel
theorem dX5_count_113 : decode cX5_count 113 = .ok (.istore_n 2, 1) := by decide +kernel
theorem dX5_count_114 : decode cX5_count 114 = .ok (.iinc 3 1, 3) := by decide +kernel
theorem dX5_count_117 : decode cX5_count 117 = .ok (.goto (-62), 3) := by decide +kernel
theorem dX5_count_120 : decode cX5_count 120 = .ok (.iload_n 2, 1) := by decide +kernel
theorem dX5_count_121 : decode cX5_count 121 = .ok (.ireturn, 1) := by decide +kernel
theorem dJ9_abs_0f7a4_0 : decode cJ9_abs_0f7a4 0 = .ok (.iload_n 0, 1) := by decide +kernel
theorem dJ9_abs_0f7a4_1 : decode cJ9_abs_0f7a4 1 = .ok (.ifCond .ge 8, 3) := by decide +kernel
theorem dJ9_abs_0f7a4_4 : decode cJ9_abs_0f7a4 4 = .ok (.iload_n 0, 1) := by decide +kernel
theorem dJ9_abs_0f7a4_5 : decode cJ9_abs_0f7a4 5 = .ok (.ineg, 1) := by decide +kernel
theorem dJ9_abs_0f7a4_6 : decode cJ9_abs_0f7a4 6 = .ok (.goto 4, 3) := by decide +kernel
theorem dJ9_abs_0f7a4_9 : decode cJ9_abs_0f7a4 9 = .ok (.iload_n 0, 1) := by decide +kernel
theorem dJ9_abs_0f7a4_10 : decode cJ9_abs_0f7a4 10 = .ok (.ireturn, 1) := by decide +kernel
theorem dJ9_max_7cf53_0 : decode cJ9_max_7cf53 0 = .ok (.iload_n 0, 1) := by decide +kernel
theorem dJ9_max_7cf53_1 : decode cJ9_max_7cf53 1 = .ok (.iload_n 1, 1) := by decide +kernel
theorem dJ9_max_7cf53_2 : decode cJ9_max_7cf53 2 = .ok (.if_icmp .lt 7, 3) := by decide +kernel
theorem dJ9_max_7cf53_5 : decode cJ9_max_7cf53 5 = .ok (.iload_n 0, 1) := by decide +kernel
theorem dJ9_max_7cf53_6 : decode cJ9_max_7cf53 6 = .ok (.goto 4, 3) := by decide +kernel
theorem dJ9_max_7cf53_9 : decode cJ9_max_7cf53 9 = .ok (.iload_n 1, 1) := by decide +kernel
theorem dJ9_max_7cf53_10 : decode cJ9_max_7cf53 10 = .ok (.ireturn, 1) := by decide +kernel
theorem dJ9_min_7cf53_0 : decode cJ9_min_7cf53 0 = .ok (.iload_n 0, 1) := by decide +kernel
theorem dJ9_min_7cf53_1 : decode cJ9_min_7cf53 1 = .ok (.iload_n 1, 1) := by decide +kernel
theorem dJ9_min_7cf53_2 : decode cJ9_min_7cf53 2 = .ok (.if_icmp .gt 7, 3) := by decide +kernel
theorem dJ9_min_7cf53_5 : decode cJ9_min_7cf53 5 = .ok (.iload_n 0, 1) := by decide +kernel
theorem dJ9_min_7cf53_6 : decode cJ9_min_7cf53 6 = .ok (.goto 4, 3) := by decide +kernel
theorem dJ9_min_7cf53_9 : decode cJ9_min_7cf53 9 = .ok (.iload_n 1, 1) := by decide +kernel
theorem dJ9_min_7cf53_10 : decode cJ9_min_7cf53 10 = .ok (.ireturn, 1) := by decide +kernel
theorem dJxa1e45_init_da8c8_0 : decode cJxa1e45_init_da8c8 0 = .ok (.aload_n 0, 1) := by decide +kernel
theorem dJxa1e45_init_da8c8_1 : decode cJxa1e45_init_da8c8 1 = .ok (.invokespecial 1, 3) := by decide +kernel
theorem dJxa1e45_init_da8c8_4 : decode cJxa1e45_init_da8c8 4 = .ok (.return_, 1) := by decide +kernel
theorem dJxc12de_init_da8c8_0 : decode cJxc12de_init_da8c8 0 = .ok (.aload_n 0, 1) := by decide +kernel
theorem dJxc12de_init_da8c8_1 : decode cJxc12de_init_da8c8 1 = .ok (.invokespecial 1, 3) := by decide +kernel
theorem dJxc12de_init_da8c8_4 : decode cJxc12de_init_da8c8 4 = .ok (.aload_n 0, 1) := by decide +kernel
theorem dJxc12de_init_da8c8_5 : decode cJxc12de_init_da8c8 5 = .ok (.iconst 0, 1) := by decide +kernel
theorem dJxc12de_init_da8c8_6 : decode cJxc12de_init_da8c8 6 = .ok (.putfield 7, 3) := by decide +kernel
theorem dJxc12de_init_da8c8_9 : decode cJxc12de_init_da8c8 9 = .ok (.return_, 1) := by decide +kernel
theorem dJx4a65c_init_da8c8_0 : decode cJx4a65c_init_da8c8 0 = .ok (.aload_n 0, 1) := by decide +kernel
theorem dJx4a65c_init_da8c8_1 : decode cJx4a65c_init_da8c8 1 = .ok (.invokespecial 1, 3) := by decide +kernel
theorem dJx4a65c_init_da8c8_4 : decode cJx4a65c_init_da8c8 4 = .ok (.aload_n 0, 1) := by decide +kernel
theorem dJx4a65c_init_da8c8_5 : decode cJx4a65c_init_da8c8 5 = .ok (.getstatic 39, 3) := by decide +kernel
theorem dJx4a65c_init_da8c8_8 : decode cJx4a65c_init_da8c8 8 = .ok (.putfield 9, 3) := by decide +kernel
theorem dJx4a65c_init_da8c8_11 : decode cJx4a65c_init_da8c8 11 = .ok (.return_, 1) := by decide +kernel
theorem dJx4a65c_grow_92f84_0 : decode cJx4a65c_grow_92f84 0 = .ok (.aload_n 0, 1) := by decide +kernel
theorem dJx4a65c_grow_92f84_1 : decode cJx4a65c_grow_92f84 1 = .ok (.getfield 9, 3) := by decide +kernel
theorem dJx4a65c_grow_92f84_4 : decode cJx4a65c_grow_92f84 4 = .ok (.arraylength, 1) := by decide +kernel
theorem dJx4a65c_grow_92f84_5 : decode cJx4a65c_grow_92f84 5 = .ok (.istore_n 2, 1) := by decide +kernel
theorem dJx4a65c_grow_92f84_6 : decode cJx4a65c_grow_92f84 6 = .ok (.iload_n 2, 1) := by decide +kernel
theorem dJx4a65c_grow_92f84_7 : decode cJx4a65c_grow_92f84 7 = .ok (.ifCond .gt 13, 3) := by decide +kernel
theorem dJx4a65c_grow_92f84_10 : decode cJx4a65c_grow_92f84 10 = .ok (.aload_n 0, 1) := by decide +kernel
theorem dJx4a65c_grow_92f84_11 : decode cJx4a65c_grow_92f84 11 = .ok (.getfield 9, 3) := by decide +kernel
theorem dJx4a65c_grow_92f84_14 : decode cJx4a65c_grow_92f84 14 = .ok (.getstatic 39, 3) := by decide +kernel
theorem dJx4a65c_grow_92f84_17 : decode cJx4a65c_grow_92f84 17 = .ok (.if_acmp .eq 28, 3) := by decide +kernel
theorem dJx4a65c_grow_92f84_20 : decode cJx4a65c_grow_92f84 20 = .ok (.iload_n 2, 1) := by decide +kernel
theorem dJx4a65c_grow_92f84_21 : decode cJx4a65c_grow_92f84 21 = .ok (.iload_n 1, 1) := by decide +kernel
theorem dJx4a65c_grow_92f84_22 : decode cJx4a65c_grow_92f84 22 = .ok (.iload_n 2, 1) := by decide +kernel
theorem dJx4a65c_grow_92f84_23 : decode cJx4a65c_grow_92f84 23 = .ok (.isub, 1) := by decide +kernel
theorem dJx4a65c_grow_92f84_24 : decode cJx4a65c_grow_92f84 24 = .ok (.iload_n 2, 1) := by decide +kernel
theorem dJx4a65c_grow_92f84_25 : decode cJx4a65c_grow_92f84 25 = .ok (.iconst 1, 1) := by decide +kernel
theorem dJx4a65c_grow_92f84_26 : decode cJx4a65c_grow_92f84 26 = .ok (.ishr, 1) := by decide +kernel
theorem dJx4a65c_grow_92f84_27 : decode cJx4a65c_grow_92f84 27 = .ok (.invokestatic 73, 3) := by decide +kernel
theorem dJx4a65c_grow_92f84_30 : decode cJx4a65c_grow_92f84 30 = .ok (.istore_n 3, 1) := by decide +kernel
theorem dJx4a65c_grow_92f84_31 : decode cJx4a65c_grow_92f84 31 = .ok (.aload_n 0, 1) := by decide +kernel
theorem dJx4a65c_grow_92f84_32 : decode cJx4a65c_grow_92f84 32 = .ok (.aload_n 0, 1) := by decide +kernel
theorem dJx4a65c_grow_92f84_33 : decode cJx4a65c_grow_92f84 33 = .ok (.getfield 9, 3) := by decide +kernel
theorem dJx4a65c_grow_92f84_36 : decode cJx4a65c_grow_92f84 36 = .ok (.iload_n 3, 1) := by decide +kernel
theorem dJx4a65c_grow_92f84_37 : decode cJx4a65c_grow_92f84 37 = .ok (.invokestatic 66, 3) := by decide +kernel
theorem dJx4a65c_grow_92f84_40 : decode cJx4a65c_grow_92f84 40 = .ok (.dup_x1, 1) := by decide +kernel
theorem dJx4a65c_grow_92f84_41 : decode cJx4a65c_grow_92f84 41 = .ok (.putfield 9, 3) := by decide +kernel
theorem dJx4a65c_grow_92f84_44 : decode cJx4a65c_grow_92f84 44 = .ok (.areturn, 1) := by decide +kernel
theorem dJx4a65c_grow_92f84_45 : decode cJx4a65c_grow_92f84 45 = .ok (.aload_n 0, 1) := by decide +kernel
theorem dJx4a65c_grow_92f84_46 : decode cJx4a65c_grow_92f84 46 = .ok (.bipush 10, 2) := by decide +kernel
theorem dJx4a65c_grow_92f84_48 : decode cJx4a65c_grow_92f84 48 = .ok (.iload_n 1, 1) := by decide +kernel
theorem dJx4a65c_grow_92f84_49 : decode cJx4a65c_grow_92f84 49 = .ok (.invokestatic 79, 3) := by decide +kernel
theorem dJx4a65c_grow_92f84_52 : decode cJx4a65c_grow_92f84 52 = .ok (.anewarray 7, 3) := by decide +kernel
theorem dJx4a65c_grow_92f84_55 : decode cJx4a65c_grow_92f84 55 = .ok (.dup_x1, 1) := by decide +kernel
theorem dJx4a65c_grow_92f84_56 : decode cJx4a65c_grow_92f84 56 = .ok (.putfield 9, 3) := by decide +kernel
theorem dJx4a65c_grow_92f84_59 : decode cJx4a65c_grow_92f84 59 = .ok (.areturn, 1) := by decide +kernel
theorem dJx4a65c_grow_d5877_0 : decode cJx4a65c_grow_d5877 0 = .ok (.aload_n 0, 1) := by decide +kernel
theorem dJx4a65c_grow_d5877_1 : decode cJx4a65c_grow_d5877 1 = .ok (.aload_n 0, 1) := by decide +kernel
theorem dJx4a65c_grow_d5877_2 : decode cJx4a65c_grow_d5877 2 = .ok (.getfield 48, 3) := by decide +kernel
theorem dJx4a65c_grow_d5877_5 : decode cJx4a65c_grow_d5877 5 = .ok (.iconst 1, 1) := by decide +kernel
theorem dJx4a65c_grow_d5877_6 : decode cJx4a65c_grow_d5877 6 = .ok (.iadd, 1) := by decide +kernel
theorem dJx4a65c_grow_d5877_7 : decode cJx4a65c_grow_d5877 7 = .ok (.invokevirtual 69, 3) := by decide +kernel
theorem dJx4a65c_grow_d5877_10 : decode cJx4a65c_grow_d5877 10 = .ok (.areturn, 1) := by decide +kernel
theorem dJx4a65c_size_8abf5_0 : decode cJx4a65c_size_8abf5 0 = .ok (.aload_n 0, 1) := by decide +kernel
theorem dJx4a65c_size_8abf5_1 : decode cJx4a65c_size_8abf5 1 = .ok (.getfield 48, 3) := by decide +kernel
theorem dJx4a65c_size_8abf5_4 : decode cJx4a65c_size_8abf5 4 = .ok (.ireturn, 1) := by decide +kernel
theorem dJx4a65c_elementData_915e3_0 : decode cJx4a65c_elementData_915e3 0 = .ok (.aload_n 0, 1) := by decide +kernel
theorem dJx4a65c_elementData_915e3_1 : decode cJx4a65c_elementData_915e3 1 = .ok (.getfield 9, 3) := by decide +kernel
theorem dJx4a65c_elementData_915e3_4 : decode cJx4a65c_elementData_915e3 4 = .ok (.iload_n 1, 1) := by decide +kernel
theorem dJx4a65c_elementData_915e3_5 : decode cJx4a65c_elementData_915e3 5 = .ok (.aaload, 1) := by decide +kernel
theorem dJx4a65c_elementData_915e3_6 : decode cJx4a65c_elementData_915e3 6 = .ok (.areturn, 1) := by decide +kernel
theorem dJx4a65c_get_915e3_0 : decode cJx4a65c_get_915e3 0 = .ok (.iload_n 1, 1) := by decide +kernel
theorem dJx4a65c_get_915e3_1 : decode cJx4a65c_get_915e3 1 = .ok (.aload_n 0, 1) := by decide +kernel
theorem dJx4a65c_get_915e3_2 : decode cJx4a65c_get_915e3 2 = .ok (.getfield 48, 3) := by decide +kernel
theorem dJx4a65c_get_915e3_5 : decode cJx4a65c_get_915e3 5 = .ok (.invokestatic 118, 3) := by decide +kernel
theorem dJx4a65c_get_915e3_8 : decode cJx4a65c_get_915e3 8 = .ok (.pop, 1) := by decide +kernel
theorem dJx4a65c_get_915e3_9 : decode cJx4a65c_get_915e3 9 = .ok (.aload_n 0, 1) := by decide +kernel
theorem dJx4a65c_get_915e3_10 : decode cJx4a65c_get_915e3 10 = .ok (.iload_n 1, 1) := by decide +kernel
theorem dJx4a65c_get_915e3_11 : decode cJx4a65c_get_915e3 11 = .ok (.invokevirtual 123, 3) := by decide +kernel
theorem dJx4a65c_get_915e3_14 : decode cJx4a65c_get_915e3 14 = .ok (.areturn, 1) := by decide +kernel
theorem dJx4a65c_add_72be8_0 : decode cJx4a65c_add_72be8 0 = .ok (.iload_n 3, 1) := by decide +kernel
theorem dJx4a65c_add_72be8_1 : decode cJx4a65c_add_72be8 1 = .ok (.aload_n 2, 1) := by decide +kernel
theorem dJx4a65c_add_72be8_2 : decode cJx4a65c_add_72be8 2 = .ok (.arraylength, 1) := by decide +kernel
theorem dJx4a65c_add_72be8_3 : decode cJx4a65c_add_72be8 3 = .ok (.if_icmp .ne 8, 3) := by decide +kernel
theorem dJx4a65c_add_72be8_6 : decode cJx4a65c_add_72be8 6 = .ok (.aload_n 0, 1) := by decide +kernel
theorem dJx4a65c_add_72be8_7 : decode cJx4a65c_add_72be8 7 = .ok (.invokevirtual 129, 3) := by decide +kernel
theorem dJx4a65c_add_72be8_10 : decode cJx4a65c_add_72be8 10 = .ok (.astore_n 2, 1) := by decide +kernel
theorem dJx4a65c_add_72be8_11 : decode cJx4a65c_add_72be8 11 = .ok (.aload_n 2, 1) := by decide +kernel
theorem dJx4a65c_add_72be8_12 : decode cJx4a65c_add_72be8 12 = .ok (.iload_n 3, 1) := by decide +kernel
theorem dJx4a65c_add_72be8_13 : decode cJx4a65c_add_72be8 13 = .ok (.aload_n 1, 1) := by decide +kernel
theorem dJx4a65c_add_72be8_14 : decode cJx4a65c_add_72be8 14 = .ok (.aastore, 1) := by decide +kernel
theorem dJx4a65c_add_72be8_15 : decode cJx4a65c_add_72be8 15 = .ok (.aload_n 0, 1) := by decide +kernel
theorem dJx4a65c_add_72be8_16 : decode cJx4a65c_add_72be8 16 = .ok (.iload_n 3, 1) := by decide +kernel
theorem dJx4a65c_add_72be8_17 : decode cJx4a65c_add_72be8 17 = .ok (.iconst 1, 1) := by decide +kernel
theorem dJx4a65c_add_72be8_18 : decode cJx4a65c_add_72be8 18 = .ok (.iadd, 1) := by decide +kernel
theorem dJx4a65c_add_72be8_19 : decode cJx4a65c_add_72be8 19 = .ok (.putfield 48, 3) := by decide +kernel
theorem dJx4a65c_add_72be8_22 : decode cJx4a65c_add_72be8 22 = .ok (.return_, 1) := by decide +kernel
theorem dJx4a65c_add_9ea2d_0 : decode cJx4a65c_add_9ea2d 0 = .ok (.aload_n 0, 1) := by decide +kernel
theorem dJx4a65c_add_9ea2d_1 : decode cJx4a65c_add_9ea2d 1 = .ok (.dup, 1) := by decide +kernel
theorem dJx4a65c_add_9ea2d_2 : decode cJx4a65c_add_9ea2d 2 = .ok (.getfield 63, 3) := by decide +kernel
theorem dJx4a65c_add_9ea2d_5 : decode cJx4a65c_add_9ea2d 5 = .ok (.iconst 1, 1) := by decide +kernel
theorem dJx4a65c_add_9ea2d_6 : decode cJx4a65c_add_9ea2d 6 = .ok (.iadd, 1) := by decide +kernel
theorem dJx4a65c_add_9ea2d_7 : decode cJx4a65c_add_9ea2d 7 = .ok (.putfield 63, 3) := by decide +kernel
theorem dJx4a65c_add_9ea2d_10 : decode cJx4a65c_add_9ea2d 10 = .ok (.aload_n 0, 1) := by decide +kernel
theorem dJx4a65c_add_9ea2d_11 : decode cJx4a65c_add_9ea2d 11 = .ok (.aload_n 1, 1) := by decide +kernel
theorem dJx4a65c_add_9ea2d_12 : decode cJx4a65c_add_9ea2d 12 = .ok (.aload_n 0, 1) := by decide +kernel
theorem dJx4a65c_add_9ea2d_13 : decode cJx4a65c_add_9ea2d 13 = .ok (.getfield 9, 3) := by decide +kernel
theorem dJx4a65c_add_9ea2d_16 : decode cJx4a65c_add_9ea2d 16 = .ok (.aload_n 0, 1) := by decide +kernel
theorem dJx4a65c_add_9ea2d_17 : decode cJx4a65c_add_9ea2d 17 = .ok (.getfield 48, 3) := by decide +kernel
theorem dJx4a65c_add_9ea2d_20 : decode cJx4a65c_add_9ea2d 20 = .ok (.invokevirtual 131, 3) := by decide +kernel
theorem dJx4a65c_add_9ea2d_23 : decode cJx4a65c_add_9ea2d 23 = .ok (.iconst 1, 1) := by decide +kernel
theorem dJx4a65c_add_9ea2d_24 : decode cJx4a65c_add_9ea2d 24 = .ok (.ireturn, 1) := by decide +kernel
theorem dJ7_copyOf_1904c_0 : decode cJ7_copyOf_1904c 0 = .ok (.aload_n 0, 1) := by decide +kernel
theorem dJ7_copyOf_1904c_1 : decode cJ7_copyOf_1904c 1 = .ok (.iload_n 1, 1) := by decide +kernel
theorem dJ7_copyOf_1904c_2 : decode cJ7_copyOf_1904c 2 = .ok (.aload_n 0, 1) := by decide +kernel
theorem dJ7_copyOf_1904c_3 : decode cJ7_copyOf_1904c 3 = .ok (.invokevirtual 86, 3) := by decide +kernel
theorem dJ7_copyOf_1904c_6 : decode cJ7_copyOf_1904c 6 = .ok (.invokestatic 300, 3) := by decide +kernel
theorem dJ7_copyOf_1904c_9 : decode cJ7_copyOf_1904c 9 = .ok (.areturn, 1) := by decide +kernel
theorem dJ7_copyOf_6403c_0 : decode cJ7_copyOf_6403c 0 = .ok (.aload_n 2, 1) := by decide +kernel
theorem dJ7_copyOf_6403c_1 : decode cJ7_copyOf_6403c 1 = .ok (.ldc 110, 2) := by decide +kernel
theorem dJ7_copyOf_6403c_3 : decode cJ7_copyOf_6403c 3 = .ok (.if_acmp .ne 10, 3) := by decide +kernel
theorem dJ7_copyOf_6403c_6 : decode cJ7_copyOf_6403c 6 = .ok (.iload_n 1, 1) := by decide +kernel
theorem dJ7_copyOf_6403c_7 : decode cJ7_copyOf_6403c 7 = .ok (.anewarray 2, 3) := by decide +kernel
theorem dJ7_copyOf_6403c_10 : decode cJ7_copyOf_6403c 10 = .ok (.goto 14, 3) := by decide +kernel
theorem dJ7_copyOf_6403c_13 : decode cJ7_copyOf_6403c 13 = .ok (.aload_n 2, 1) := by decide +kernel
theorem dJ7_copyOf_6403c_14 : decode cJ7_copyOf_6403c 14 = .ok (.invokevirtual 90, 3) := by decide +kernel
theorem dJ7_copyOf_6403c_17 : decode cJ7_copyOf_6403c 17 = .ok (.iload_n 1, 1) := by decide +kernel
theorem dJ7_copyOf_6403c_18 : decode cJ7_copyOf_6403c 18 = .ok (.invokestatic 95, 3) := by decide +kernel
theorem dJ7_copyOf_6403c_21 : decode cJ7_copyOf_6403c 21 = .ok (.checkcast 110, 3) := by decide +kernel
theorem dJ7_copyOf_6403c_24 : decode cJ7_copyOf_6403c 24 = .ok (.astore_n 3, 1) := by decide +kernel
theorem dJ7_copyOf_6403c_25 : decode cJ7_copyOf_6403c 25 = .ok (.aload_n 0, 1) := by decide +kernel
theorem dJ7_copyOf_6403c_26 : decode cJ7_copyOf_6403c 26 = .ok (.iconst 0, 1) := by decide +kernel
theorem dJ7_copyOf_6403c_27 : decode cJ7_copyOf_6403c 27 = .ok (.aload_n 3, 1) := by decide +kernel
theorem dJ7_copyOf_6403c_28 : decode cJ7_copyOf_6403c 28 = .ok (.iconst 0, 1) := by decide +kernel
theorem dJ7_copyOf_6403c_29 : decode cJ7_copyOf_6403c 29 = .ok (.aload_n 0, 1) := by decide +kernel
theorem dJ7_copyOf_6403c_30 : decode cJ7_copyOf_6403c 30 = .ok (.arraylength, 1) := by decide +kernel
theorem dJ7_copyOf_6403c_31 : decode cJ7_copyOf_6403c 31 = .ok (.iload_n 1, 1) := by decide +kernel
theorem dJ7_copyOf_6403c_32 : decode cJ7_copyOf_6403c 32 = .ok (.invokestatic 304, 3) := by decide +kernel
theorem dJ7_copyOf_6403c_35 : decode cJ7_copyOf_6403c 35 = .ok (.invokestatic 150, 3) := by decide +kernel
theorem dJ7_copyOf_6403c_38 : decode cJ7_copyOf_6403c 38 = .ok (.aload_n 3, 1) := by decide +kernel
theorem dJ7_copyOf_6403c_39 : decode cJ7_copyOf_6403c 39 = .ok (.areturn, 1) := by decide +kernel
theorem dJ15_checkIndex_7cf53_0 : decode cJ15_checkIndex_7cf53 0 = .ok (.iload_n 0, 1) := by decide +kernel
theorem dJ15_checkIndex_7cf53_1 : decode cJ15_checkIndex_7cf53 1 = .ok (.iload_n 1, 1) := by decide +kernel
theorem dJ15_checkIndex_7cf53_2 : decode cJ15_checkIndex_7cf53 2 = .ok (.aconst_null, 1) := by decide +kernel
theorem dJ15_checkIndex_7cf53_3 : decode cJ15_checkIndex_7cf53 3 = .ok (.invokestatic 105, 3) := by decide +kernel
theorem dJ15_checkIndex_7cf53_6 : decode cJ15_checkIndex_7cf53 6 = .ok (.ireturn, 1) := by decide +kernel
theorem dJ8_newLength_cabcc_0 : decode cJ8_newLength_cabcc 0 = .ok (.iload_n 0, 1) := by decide +kernel
theorem dJ8_newLength_cabcc_1 : decode cJ8_newLength_cabcc 1 = .ok (.iload_n 1, 1) := by decide +kernel
theorem dJ8_newLength_cabcc_2 : decode cJ8_newLength_cabcc 2 = .ok (.iload_n 2, 1) := by decide +kernel
theorem dJ8_newLength_cabcc_3 : decode cJ8_newLength_cabcc 3 = .ok (.invokestatic 194, 3) := by decide +kernel
theorem dJ8_newLength_cabcc_6 : decode cJ8_newLength_cabcc 6 = .ok (.iadd, 1) := by decide +kernel
theorem dJ8_newLength_cabcc_7 : decode cJ8_newLength_cabcc 7 = .ok (.istore_n 3, 1) := by decide +kernel
theorem dJ8_newLength_cabcc_8 : decode cJ8_newLength_cabcc 8 = .ok (.iconst 0, 1) := by decide +kernel
theorem dJ8_newLength_cabcc_9 : decode cJ8_newLength_cabcc 9 = .ok (.iload_n 3, 1) := by decide +kernel
theorem dJ8_newLength_cabcc_10 : decode cJ8_newLength_cabcc 10 = .ok (.if_icmp .ge 11, 3) := by decide +kernel
theorem dJ8_newLength_cabcc_13 : decode cJ8_newLength_cabcc 13 = .ok (.iload_n 3, 1) := by decide +kernel
theorem dJ8_newLength_cabcc_14 : decode cJ8_newLength_cabcc 14 = .ok (.ldc 200, 2) := by decide +kernel
theorem dJ8_newLength_cabcc_16 : decode cJ8_newLength_cabcc 16 = .ok (.if_icmp .gt 5, 3) := by decide +kernel
theorem dJ8_newLength_cabcc_19 : decode cJ8_newLength_cabcc 19 = .ok (.iload_n 3, 1) := by decide +kernel
theorem dJ8_newLength_cabcc_20 : decode cJ8_newLength_cabcc 20 = .ok (.ireturn, 1) := by decide +kernel
theorem dJ8_newLength_cabcc_21 : decode cJ8_newLength_cabcc 21 = .ok (.iload_n 0, 1) := by decide +kernel
theorem dJ8_newLength_cabcc_22 : decode cJ8_newLength_cabcc 22 = .ok (.iload_n 1, 1) := by decide +kernel
theorem dJ8_newLength_cabcc_23 : decode cJ8_newLength_cabcc 23 = .ok (.invokestatic 201, 3) := by decide +kernel
theorem dJ8_newLength_cabcc_26 : decode cJ8_newLength_cabcc 26 = .ok (.ireturn, 1) := by decide +kernel
theorem dJ8_hugeLength_7cf53_0 : decode cJ8_hugeLength_7cf53 0 = .ok (.iload_n 0, 1) := by decide +kernel
theorem dJ8_hugeLength_7cf53_1 : decode cJ8_hugeLength_7cf53 1 = .ok (.iload_n 1, 1) := by decide +kernel
theorem dJ8_hugeLength_7cf53_2 : decode cJ8_hugeLength_7cf53 2 = .ok (.iadd, 1) := by decide +kernel
theorem dJ8_hugeLength_7cf53_3 : decode cJ8_hugeLength_7cf53 3 = .ok (.istore_n 2, 1) := by decide +kernel
theorem dJ8_hugeLength_7cf53_4 : decode cJ8_hugeLength_7cf53 4 = .ok (.iload_n 2, 1) := by decide +kernel
theorem dJ8_hugeLength_7cf53_5 : decode cJ8_hugeLength_7cf53 5 = .ok (.ifCond .ge 44, 3) := by decide +kernel
theorem dJ8_hugeLength_7cf53_8 : decode cJ8_hugeLength_7cf53 8 = .ok (.new 204, 3) := by decide +kernel
theorem dJ8_hugeLength_7cf53_11 : decode cJ8_hugeLength_7cf53 11 = .ok (.dup, 1) := by decide +kernel
theorem dJ8_hugeLength_7cf53_12 : decode cJ8_hugeLength_7cf53 12 = .ok (.new 89, 3) := by decide +kernel
theorem dJ8_hugeLength_7cf53_15 : decode cJ8_hugeLength_7cf53 15 = .ok (.dup, 1) := by decide +kernel
theorem dJ8_hugeLength_7cf53_16 : decode cJ8_hugeLength_7cf53 16 = .ok (.invokespecial 91, 3) := by decide +kernel
theorem dJ8_hugeLength_7cf53_19 : decode cJ8_hugeLength_7cf53 19 = .ok (.ldc 206, 2) := by decide +kernel
theorem dJ8_hugeLength_7cf53_21 : decode cJ8_hugeLength_7cf53 21 = .ok (.invokevirtual 94, 3) := by decide +kernel
theorem dJ8_hugeLength_7cf53_24 : decode cJ8_hugeLength_7cf53 24 = .ok (.iload_n 0, 1) := by decide +kernel
theorem dJ8_hugeLength_7cf53_25 : decode cJ8_hugeLength_7cf53 25 = .ok (.invokevirtual 98, 3) := by decide +kernel
theorem dJ8_hugeLength_7cf53_28 : decode cJ8_hugeLength_7cf53 28 = .ok (.ldc 208, 2) := by decide +kernel
theorem dJ8_hugeLength_7cf53_30 : decode cJ8_hugeLength_7cf53 30 = .ok (.invokevirtual 94, 3) := by decide +kernel
theorem dJ8_hugeLength_7cf53_33 : decode cJ8_hugeLength_7cf53 33 = .ok (.iload_n 1, 1) := by decide +kernel
theorem dJ8_hugeLength_7cf53_34 : decode cJ8_hugeLength_7cf53 34 = .ok (.invokevirtual 98, 3) := by decide +kernel
theorem dJ8_hugeLength_7cf53_37 : decode cJ8_hugeLength_7cf53 37 = .ok (.ldc 210, 2) := by decide +kernel
theorem dJ8_hugeLength_7cf53_39 : decode cJ8_hugeLength_7cf53 39 = .ok (.invokevirtual 94, 3) := by decide +kernel
theorem dJ8_hugeLength_7cf53_42 : decode cJ8_hugeLength_7cf53 42 = .ok (.invokevirtual 101, 3) := by decide +kernel
theorem dJ8_hugeLength_7cf53_45 : decode cJ8_hugeLength_7cf53 45 = .ok (.invokespecial 212, 3) := by decide +kernel
theorem dJ8_hugeLength_7cf53_48 : decode cJ8_hugeLength_7cf53 48 = .ok (.athrow, 1) := by decide +kernel
theorem dJ8_hugeLength_7cf53_49 : decode cJ8_hugeLength_7cf53 49 = .ok (.iload_n 2, 1) := by decide +kernel
theorem dJ8_hugeLength_7cf53_50 : decode cJ8_hugeLength_7cf53 50 = .ok (.ldc 200, 2) := by decide +kernel
theorem dJ8_hugeLength_7cf53_52 : decode cJ8_hugeLength_7cf53 52 = .ok (.if_icmp .gt 6, 3) := by decide +kernel
theorem dJ8_hugeLength_7cf53_55 : decode cJ8_hugeLength_7cf53 55 = .ok (.ldc 200, 2) := by decide +kernel
theorem dJ8_hugeLength_7cf53_57 : decode cJ8_hugeLength_7cf53 57 = .ok (.ireturn, 1) := by decide +kernel
theorem dJ8_hugeLength_7cf53_58 : decode cJ8_hugeLength_7cf53 58 = .ok (.iload_n 2, 1) := by decide +kernel
theorem dJ8_hugeLength_7cf53_59 : decode cJ8_hugeLength_7cf53 59 = .ok (.ireturn, 1) := by decide +kernel
theorem dJ3_checkIndex_8e157_0 : decode cJ3_checkIndex_8e157 0 = .ok (.iload_n 0, 1) := by decide +kernel
theorem dJ3_checkIndex_8e157_1 : decode cJ3_checkIndex_8e157 1 = .ok (.ifCond .lt 8, 3) := by decide +kernel
theorem dJ3_checkIndex_8e157_4 : decode cJ3_checkIndex_8e157 4 = .ok (.iload_n 0, 1) := by decide +kernel
theorem dJ3_checkIndex_8e157_5 : decode cJ3_checkIndex_8e157 5 = .ok (.iload_n 1, 1) := by decide +kernel
theorem dJ3_checkIndex_8e157_6 : decode cJ3_checkIndex_8e157 6 = .ok (.if_icmp .lt 10, 3) := by decide +kernel
theorem dJ3_checkIndex_8e157_9 : decode cJ3_checkIndex_8e157 9 = .ok (.aload_n 2, 1) := by decide +kernel
theorem dJ3_checkIndex_8e157_10 : decode cJ3_checkIndex_8e157 10 = .ok (.iload_n 0, 1) := by decide +kernel
theorem dJ3_checkIndex_8e157_11 : decode cJ3_checkIndex_8e157 11 = .ok (.iload_n 1, 1) := by decide +kernel
theorem dJ3_checkIndex_8e157_12 : decode cJ3_checkIndex_8e157 12 = .ok (.invokestatic 95, 3) := by decide +kernel
theorem dJ3_checkIndex_8e157_15 : decode cJ3_checkIndex_8e157 15 = .ok (.athrow, 1) := by decide +kernel
theorem dJ3_checkIndex_8e157_16 : decode cJ3_checkIndex_8e157 16 = .ok (.iload_n 0, 1) := by decide +kernel
theorem dJ3_checkIndex_8e157_17 : decode cJ3_checkIndex_8e157 17 = .ok (.ireturn, 1) := by decide +kernel
theorem dL_tide_0 : decode cL_tide 0 = .ok (.aload_n 0, 1) := by decide +kernel
theorem dL_tide_1 : decode cL_tide 1 = .ok (.iload_n 1, 1) := by decide +kernel
theorem dL_tide_2 : decode cL_tide 2 = .ok (.iload_n 2, 1) := by decide +kernel
theorem dL_tide_3 : decode cL_tide 3 = .ok (.invokevirtual 7, 3) := by decide +kernel
theorem dL_tide_6 : decode cL_tide 6 = .ok (.goto 6, 3) := by decide +kernel
theorem dL_tide_9 : decode cL_tide 9 = .ok (.astore_n 3, 1) := by decide +kernel
theorem dL_tide_10 : decode cL_tide 10 = .ok (.iconst 1, 1) := by decide +kernel
theorem dL_tide_11 : decode cL_tide 11 = .ok (.ireturn, 1) := by decide +kernel
theorem dL_tide_12 : decode cL_tide 12 = .ok (.iconst 0, 1) := by decide +kernel
theorem dL_tide_13 : decode cL_tide 13 = .ok (.ireturn, 1) := by decide +kernel
theorem dL_tugs_0 : decode cL_tugs 0 = .ok (.aload_n 2, 1) := by decide +kernel
theorem dL_tugs_1 : decode cL_tugs 1 = .ok (.iconst 0, 1) := by decide +kernel
theorem dL_tugs_2 : decode cL_tugs 2 = .ok (.aload_n 0, 1) := by decide +kernel
theorem dL_tugs_3 : decode cL_tugs 3 = .ok (.iload_n 1, 1) := by decide +kernel
theorem dL_tugs_4 : decode cL_tugs 4 = .ok (.invokevirtual 15, 3) := by decide +kernel
theorem dL_tugs_7 : decode cL_tugs 7 = .ok (.i2l, 1) := by decide +kernel
theorem dL_tugs_8 : decode cL_tugs 8 = .ok (.lastore, 1) := by decide +kernel
theorem dL_tugs_9 : decode cL_tugs 9 = .ok (.goto 6, 3) := by decide +kernel
theorem dL_tugs_12 : decode cL_tugs 12 = .ok (.astore_n 3, 1) := by decide +kernel
theorem dL_tugs_13 : decode cL_tugs 13 = .ok (.iconst 1, 1) := by decide +kernel
theorem dL_tugs_14 : decode cL_tugs 14 = .ok (.ireturn, 1) := by decide +kernel
theorem dL_tugs_15 : decode cL_tugs 15 = .ok (.iconst 0, 1) := by decide +kernel
theorem dL_tugs_16 : decode cL_tugs 16 = .ok (.ireturn, 1) := by decide +kernel
theorem dL_ship_0 : decode cL_ship 0 = .ok (.aload 5, 2) := by decide +kernel
theorem dL_ship_2 : decode cL_ship 2 = .ok (.iconst 0, 1) := by decide +kernel
theorem dL_ship_3 : decode cL_ship 3 = .ok (.aload_n 0, 1) := by decide +kernel
theorem dL_ship_4 : decode cL_ship 4 = .ok (.iload_n 1, 1) := by decide +kernel
theorem dL_ship_5 : decode cL_ship 5 = .ok (.iload_n 2, 1) := by decide +kernel
theorem dL_ship_6 : decode cL_ship 6 = .ok (.iload_n 3, 1) := by decide +kernel
theorem dL_ship_7 : decode cL_ship 7 = .ok (.iload 4, 2) := by decide +kernel
theorem dL_ship_9 : decode cL_ship 9 = .ok (.invokevirtual 19, 3) := by decide +kernel
theorem dL_ship_12 : decode cL_ship 12 = .ok (.i2l, 1) := by decide +kernel
theorem dL_ship_13 : decode cL_ship 13 = .ok (.lastore, 1) := by decide +kernel
theorem dL_ship_14 : decode cL_ship 14 = .ok (.goto 11, 3) := by decide +kernel
theorem dL_ship_17 : decode cL_ship 17 = .ok (.astore 6, 2) := by decide +kernel
theorem dL_ship_19 : decode cL_ship 19 = .ok (.iconst 1, 1) := by decide +kernel
theorem dL_ship_20 : decode cL_ship 20 = .ok (.ireturn, 1) := by decide +kernel
theorem dL_ship_21 : decode cL_ship 21 = .ok (.astore 6, 2) := by decide +kernel
theorem dL_ship_23 : decode cL_ship 23 = .ok (.iconst 2, 1) := by decide +kernel
theorem dL_ship_24 : decode cL_ship 24 = .ok (.ireturn, 1) := by decide +kernel
theorem dL_ship_25 : decode cL_ship 25 = .ok (.iconst 0, 1) := by decide +kernel
theorem dL_ship_26 : decode cL_ship 26 = .ok (.ireturn, 1) := by decide +kernel
theorem dL_pilot_0 : decode cL_pilot 0 = .ok (.aload_n 3, 1) := by decide +kernel
theorem dL_pilot_1 : decode cL_pilot 1 = .ok (.iconst 0, 1) := by decide +kernel
theorem dL_pilot_2 : decode cL_pilot 2 = .ok (.aload_n 0, 1) := by decide +kernel
theorem dL_pilot_3 : decode cL_pilot 3 = .ok (.iload_n 1, 1) := by decide +kernel
theorem dL_pilot_4 : decode cL_pilot 4 = .ok (.iload_n 2, 1) := by decide +kernel
theorem dL_pilot_5 : decode cL_pilot 5 = .ok (.invokevirtual 25, 3) := by decide +kernel
theorem dL_pilot_8 : decode cL_pilot 8 = .ok (.i2l, 1) := by decide +kernel
theorem dL_pilot_9 : decode cL_pilot 9 = .ok (.lastore, 1) := by decide +kernel
theorem dL_pilot_10 : decode cL_pilot 10 = .ok (.goto 11, 3) := by decide +kernel
theorem dL_pilot_13 : decode cL_pilot 13 = .ok (.astore 4, 2) := by decide +kernel
theorem dL_pilot_15 : decode cL_pilot 15 = .ok (.iconst 1, 1) := by decide +kernel
theorem dL_pilot_16 : decode cL_pilot 16 = .ok (.ireturn, 1) := by decide +kernel
theorem dL_pilot_17 : decode cL_pilot 17 = .ok (.astore 4, 2) := by decide +kernel
theorem dL_pilot_19 : decode cL_pilot 19 = .ok (.iconst 2, 1) := by decide +kernel
theorem dL_pilot_20 : decode cL_pilot 20 = .ok (.ireturn, 1) := by decide +kernel
theorem dL_pilot_21 : decode cL_pilot 21 = .ok (.iconst 0, 1) := by decide +kernel
theorem dL_pilot_22 : decode cL_pilot 22 = .ok (.ireturn, 1) := by decide +kernel
theorem dL_call_0 : decode cL_call 0 = .ok (.aload_n 3, 1) := by decide +kernel
theorem dL_call_1 : decode cL_call 1 = .ok (.iconst 0, 1) := by decide +kernel
theorem dL_call_2 : decode cL_call 2 = .ok (.aload_n 0, 1) := by decide +kernel
theorem dL_call_3 : decode cL_call 3 = .ok (.iload_n 1, 1) := by decide +kernel
theorem dL_call_4 : decode cL_call 4 = .ok (.iload_n 2, 1) := by decide +kernel
theorem dL_call_5 : decode cL_call 5 = .ok (.invokevirtual 29, 3) := by decide +kernel
theorem dL_call_8 : decode cL_call 8 = .ok (.i2l, 1) := by decide +kernel
theorem dL_call_9 : decode cL_call 9 = .ok (.lastore, 1) := by decide +kernel
theorem dL_call_10 : decode cL_call 10 = .ok (.goto 15, 3) := by decide +kernel
theorem dL_call_13 : decode cL_call 13 = .ok (.astore 4, 2) := by decide +kernel
theorem dL_call_15 : decode cL_call 15 = .ok (.iconst 1, 1) := by decide +kernel
theorem dL_call_16 : decode cL_call 16 = .ok (.ireturn, 1) := by decide +kernel
theorem dL_call_17 : decode cL_call 17 = .ok (.astore 4, 2) := by decide +kernel
theorem dL_call_19 : decode cL_call 19 = .ok (.iconst 2, 1) := by decide +kernel
theorem dL_call_20 : decode cL_call 20 = .ok (.ireturn, 1) := by decide +kernel
theorem dL_call_21 : decode cL_call 21 = .ok (.astore 4, 2) := by decide +kernel
theorem dL_call_23 : decode cL_call 23 = .ok (.iconst 3, 1) := by decide +kernel
theorem dL_call_24 : decode cL_call 24 = .ok (.ireturn, 1) := by decide +kernel
theorem dL_call_25 : decode cL_call 25 = .ok (.iconst 0, 1) := by decide +kernel
theorem dL_call_26 : decode cL_call 26 = .ok (.ireturn, 1) := by decide +kernel
theorem dL_join_0 : decode cL_join 0 = .ok (.aload 4, 2) := by decide +kernel
theorem dL_join_2 : decode cL_join 2 = .ok (.iconst 0, 1) := by decide +kernel
theorem dL_join_3 : decode cL_join 3 = .ok (.aload_n 0, 1) := by decide +kernel
theorem dL_join_4 : decode cL_join 4 = .ok (.iload_n 1, 1) := by decide +kernel
theorem dL_join_5 : decode cL_join 5 = .ok (.iload_n 2, 1) := by decide +kernel
theorem dL_join_6 : decode cL_join 6 = .ok (.iload_n 3, 1) := by decide +kernel
theorem dL_join_7 : decode cL_join 7 = .ok (.invokevirtual 34, 3) := by decide +kernel
theorem dL_join_10 : decode cL_join 10 = .ok (.i2l, 1) := by decide +kernel
theorem dL_join_11 : decode cL_join 11 = .ok (.lastore, 1) := by decide +kernel
theorem dL_join_12 : decode cL_join 12 = .ok (.goto 11, 3) := by decide +kernel
theorem dL_join_15 : decode cL_join 15 = .ok (.astore 5, 2) := by decide +kernel
theorem dL_join_17 : decode cL_join 17 = .ok (.iconst 1, 1) := by decide +kernel
theorem dL_join_18 : decode cL_join 18 = .ok (.ireturn, 1) := by decide +kernel
theorem dL_join_19 : decode cL_join 19 = .ok (.astore 5, 2) := by decide +kernel
theorem dL_join_21 : decode cL_join 21 = .ok (.iconst 2, 1) := by decide +kernel
theorem dL_join_22 : decode cL_join 22 = .ok (.ireturn, 1) := by decide +kernel
theorem dL_join_23 : decode cL_join 23 = .ok (.iconst 0, 1) := by decide +kernel
theorem dL_join_24 : decode cL_join 24 = .ok (.ireturn, 1) := by decide +kernel
theorem dL_again_0 : decode cL_again 0 = .ok (.aload_n 2, 1) := by decide +kernel
theorem dL_again_1 : decode cL_again 1 = .ok (.iconst 0, 1) := by decide +kernel
theorem dL_again_2 : decode cL_again 2 = .ok (.aload_n 0, 1) := by decide +kernel
theorem dL_again_3 : decode cL_again 3 = .ok (.iload_n 1, 1) := by decide +kernel
theorem dL_again_4 : decode cL_again 4 = .ok (.invokevirtual 38, 3) := by decide +kernel
theorem dL_again_7 : decode cL_again 7 = .ok (.i2l, 1) := by decide +kernel
theorem dL_again_8 : decode cL_again 8 = .ok (.lastore, 1) := by decide +kernel
theorem dL_again_9 : decode cL_again 9 = .ok (.goto 9, 3) := by decide +kernel
theorem dL_again_12 : decode cL_again 12 = .ok (.astore_n 3, 1) := by decide +kernel
theorem dL_again_13 : decode cL_again 13 = .ok (.iconst 1, 1) := by decide +kernel
theorem dL_again_14 : decode cL_again 14 = .ok (.ireturn, 1) := by decide +kernel
theorem dL_again_15 : decode cL_again 15 = .ok (.astore_n 3, 1) := by decide +kernel
theorem dL_again_16 : decode cL_again 16 = .ok (.iconst 2, 1) := by decide +kernel
theorem dL_again_17 : decode cL_again 17 = .ok (.ireturn, 1) := by decide +kernel
theorem dL_again_18 : decode cL_again 18 = .ok (.iconst 0, 1) := by decide +kernel
theorem dL_again_19 : decode cL_again 19 = .ok (.ireturn, 1) := by decide +kernel
theorem dL_drop_0 : decode cL_drop 0 = .ok (.aload_n 3, 1) := by decide +kernel
theorem dL_drop_1 : decode cL_drop 1 = .ok (.iconst 0, 1) := by decide +kernel
theorem dL_drop_2 : decode cL_drop 2 = .ok (.aload_n 0, 1) := by decide +kernel
theorem dL_drop_3 : decode cL_drop 3 = .ok (.iload_n 1, 1) := by decide +kernel
theorem dL_drop_4 : decode cL_drop 4 = .ok (.iload_n 2, 1) := by decide +kernel
theorem dL_drop_5 : decode cL_drop 5 = .ok (.invokevirtual 41, 3) := by decide +kernel
theorem dL_drop_8 : decode cL_drop 8 = .ok (.i2l, 1) := by decide +kernel
theorem dL_drop_9 : decode cL_drop 9 = .ok (.lastore, 1) := by decide +kernel
theorem dL_drop_10 : decode cL_drop 10 = .ok (.goto 11, 3) := by decide +kernel
theorem dL_drop_13 : decode cL_drop 13 = .ok (.astore 4, 2) := by decide +kernel
theorem dL_drop_15 : decode cL_drop 15 = .ok (.iconst 1, 1) := by decide +kernel
theorem dL_drop_16 : decode cL_drop 16 = .ok (.ireturn, 1) := by decide +kernel
theorem dL_drop_17 : decode cL_drop 17 = .ok (.astore 4, 2) := by decide +kernel
theorem dL_drop_19 : decode cL_drop 19 = .ok (.iconst 2, 1) := by decide +kernel
theorem dL_drop_20 : decode cL_drop 20 = .ok (.ireturn, 1) := by decide +kernel
theorem dL_drop_21 : decode cL_drop 21 = .ok (.iconst 0, 1) := by decide +kernel
theorem dL_drop_22 : decode cL_drop 22 = .ok (.ireturn, 1) := by decide +kernel
theorem dL_pass_0 : decode cL_pass 0 = .ok (.aload_n 2, 1) := by decide +kernel
theorem dL_pass_1 : decode cL_pass 1 = .ok (.iconst 0, 1) := by decide +kernel
theorem dL_pass_2 : decode cL_pass 2 = .ok (.aload_n 0, 1) := by decide +kernel
theorem dL_pass_3 : decode cL_pass 3 = .ok (.iload_n 1, 1) := by decide +kernel
theorem dL_pass_4 : decode cL_pass 4 = .ok (.invokevirtual 44, 3) := by decide +kernel
theorem dL_pass_7 : decode cL_pass 7 = .ok (.i2l, 1) := by decide +kernel
theorem dL_pass_8 : decode cL_pass 8 = .ok (.lastore, 1) := by decide +kernel
theorem dL_pass_9 : decode cL_pass 9 = .ok (.goto 9, 3) := by decide +kernel
theorem dL_pass_12 : decode cL_pass 12 = .ok (.astore_n 3, 1) := by decide +kernel
theorem dL_pass_13 : decode cL_pass 13 = .ok (.iconst 1, 1) := by decide +kernel
theorem dL_pass_14 : decode cL_pass 14 = .ok (.ireturn, 1) := by decide +kernel
theorem dL_pass_15 : decode cL_pass 15 = .ok (.astore_n 3, 1) := by decide +kernel
theorem dL_pass_16 : decode cL_pass 16 = .ok (.iconst 2, 1) := by decide +kernel
theorem dL_pass_17 : decode cL_pass 17 = .ok (.ireturn, 1) := by decide +kernel
theorem dL_pass_18 : decode cL_pass 18 = .ok (.iconst 0, 1) := by decide +kernel
theorem dL_pass_19 : decode cL_pass 19 = .ok (.ireturn, 1) := by decide +kernel
theorem dL_level_0 : decode cL_level 0 = .ok (.aload_n 2, 1) := by decide +kernel
theorem dL_level_1 : decode cL_level 1 = .ok (.iconst 0, 1) := by decide +kernel
theorem dL_level_2 : decode cL_level 2 = .ok (.aload_n 0, 1) := by decide +kernel
theorem dL_level_3 : decode cL_level 3 = .ok (.iload_n 1, 1) := by decide +kernel
theorem dL_level_4 : decode cL_level 4 = .ok (.invokevirtual 47, 3) := by decide +kernel
theorem dL_level_7 : decode cL_level 7 = .ok (.i2l, 1) := by decide +kernel
theorem dL_level_8 : decode cL_level 8 = .ok (.lastore, 1) := by decide +kernel
theorem dL_level_9 : decode cL_level 9 = .ok (.goto 6, 3) := by decide +kernel
theorem dL_level_12 : decode cL_level 12 = .ok (.astore_n 3, 1) := by decide +kernel
theorem dL_level_13 : decode cL_level 13 = .ok (.iconst 1, 1) := by decide +kernel
theorem dL_level_14 : decode cL_level 14 = .ok (.ireturn, 1) := by decide +kernel
theorem dL_level_15 : decode cL_level 15 = .ok (.iconst 0, 1) := by decide +kernel
theorem dL_level_16 : decode cL_level 16 = .ok (.ireturn, 1) := by decide +kernel
theorem dL_window_0 : decode cL_window 0 = .ok (.aload_n 3, 1) := by decide +kernel
theorem dL_window_1 : decode cL_window 1 = .ok (.iconst 0, 1) := by decide +kernel
theorem dL_window_2 : decode cL_window 2 = .ok (.aload_n 0, 1) := by decide +kernel
theorem dL_window_3 : decode cL_window 3 = .ok (.iload_n 1, 1) := by decide +kernel
theorem dL_window_4 : decode cL_window 4 = .ok (.iload_n 2, 1) := by decide +kernel
theorem dL_window_5 : decode cL_window 5 = .ok (.invokevirtual 50, 3) := by decide +kernel
theorem dL_window_8 : decode cL_window 8 = .ok (.i2l, 1) := by decide +kernel
theorem dL_window_9 : decode cL_window 9 = .ok (.lastore, 1) := by decide +kernel
theorem dL_window_10 : decode cL_window 10 = .ok (.goto 11, 3) := by decide +kernel
theorem dL_window_13 : decode cL_window 13 = .ok (.astore 4, 2) := by decide +kernel
theorem dL_window_15 : decode cL_window 15 = .ok (.iconst 1, 1) := by decide +kernel
theorem dL_window_16 : decode cL_window 16 = .ok (.ireturn, 1) := by decide +kernel
theorem dL_window_17 : decode cL_window 17 = .ok (.astore 4, 2) := by decide +kernel
theorem dL_window_19 : decode cL_window 19 = .ok (.iconst 2, 1) := by decide +kernel
theorem dL_window_20 : decode cL_window 20 = .ok (.ireturn, 1) := by decide +kernel
theorem dL_window_21 : decode cL_window 21 = .ok (.iconst 0, 1) := by decide +kernel
theorem dL_window_22 : decode cL_window 22 = .ok (.ireturn, 1) := by decide +kernel
theorem dL_ofConference_0 : decode cL_ofConference 0 = .ok (.aload_n 3, 1) := by decide +kernel
theorem dL_ofConference_1 : decode cL_ofConference 1 = .ok (.iconst 0, 1) := by decide +kernel
theorem dL_ofConference_2 : decode cL_ofConference 2 = .ok (.aload_n 0, 1) := by decide +kernel
theorem dL_ofConference_3 : decode cL_ofConference 3 = .ok (.iload_n 1, 1) := by decide +kernel
theorem dL_ofConference_4 : decode cL_ofConference 4 = .ok (.iload_n 2, 1) := by decide +kernel
theorem dL_ofConference_5 : decode cL_ofConference 5 = .ok (.invokevirtual 53, 3) := by decide +kernel
theorem dL_ofConference_8 : decode cL_ofConference 8 = .ok (.i2l, 1) := by decide +kernel
theorem dL_ofConference_9 : decode cL_ofConference 9 = .ok (.lastore, 1) := by decide +kernel
theorem dL_ofConference_10 : decode cL_ofConference 10 = .ok (.goto 7, 3) := by decide +kernel
theorem dL_ofConference_13 : decode cL_ofConference 13 = .ok (.astore 4, 2) := by decide +kernel
theorem dL_ofConference_15 : decode cL_ofConference 15 = .ok (.iconst 1, 1) := by decide +kernel
theorem dL_ofConference_16 : decode cL_ofConference 16 = .ok (.ireturn, 1) := by decide +kernel
theorem dL_ofConference_17 : decode cL_ofConference 17 = .ok (.iconst 0, 1) := by decide +kernel
theorem dL_ofConference_18 : decode cL_ofConference 18 = .ok (.ireturn, 1) := by decide +kernel
theorem dL_why_0 : decode cL_why 0 = .ok (.aload_n 3, 1) := by decide +kernel
theorem dL_why_1 : decode cL_why 1 = .ok (.iconst 0, 1) := by decide +kernel
theorem dL_why_2 : decode cL_why 2 = .ok (.aload_n 0, 1) := by decide +kernel
theorem dL_why_3 : decode cL_why 3 = .ok (.iload_n 1, 1) := by decide +kernel
theorem dL_why_4 : decode cL_why 4 = .ok (.iload_n 2, 1) := by decide +kernel
theorem dL_why_5 : decode cL_why 5 = .ok (.invokevirtual 56, 3) := by decide +kernel
theorem dL_why_8 : decode cL_why 8 = .ok (.i2l, 1) := by decide +kernel
theorem dL_why_9 : decode cL_why 9 = .ok (.lastore, 1) := by decide +kernel
theorem dL_why_10 : decode cL_why 10 = .ok (.goto 15, 3) := by decide +kernel
theorem dL_why_13 : decode cL_why 13 = .ok (.astore 4, 2) := by decide +kernel
theorem dL_why_15 : decode cL_why 15 = .ok (.iconst 1, 1) := by decide +kernel
theorem dL_why_16 : decode cL_why 16 = .ok (.ireturn, 1) := by decide +kernel
theorem dL_why_17 : decode cL_why 17 = .ok (.astore 4, 2) := by decide +kernel
theorem dL_why_19 : decode cL_why 19 = .ok (.iconst 2, 1) := by decide +kernel
theorem dL_why_20 : decode cL_why 20 = .ok (.ireturn, 1) := by decide +kernel
theorem dL_why_21 : decode cL_why 21 = .ok (.astore 4, 2) := by decide +kernel
theorem dL_why_23 : decode cL_why 23 = .ok (.iconst 3, 1) := by decide +kernel
theorem dL_why_24 : decode cL_why 24 = .ok (.ireturn, 1) := by decide +kernel
theorem dL_why_25 : decode cL_why 25 = .ok (.iconst 0, 1) := by decide +kernel
theorem dL_why_26 : decode cL_why 26 = .ok (.ireturn, 1) := by decide +kernel
theorem dL_rested_0 : decode cL_rested 0 = .ok (.aload_n 2, 1) := by decide +kernel
theorem dL_rested_1 : decode cL_rested 1 = .ok (.iconst 0, 1) := by decide +kernel
theorem dL_rested_2 : decode cL_rested 2 = .ok (.aload_n 0, 1) := by decide +kernel
theorem dL_rested_3 : decode cL_rested 3 = .ok (.iload_n 1, 1) := by decide +kernel
theorem dL_rested_4 : decode cL_rested 4 = .ok (.invokevirtual 59, 3) := by decide +kernel
theorem dL_rested_7 : decode cL_rested 7 = .ok (.i2l, 1) := by decide +kernel
theorem dL_rested_8 : decode cL_rested 8 = .ok (.lastore, 1) := by decide +kernel
theorem dL_rested_9 : decode cL_rested 9 = .ok (.goto 6, 3) := by decide +kernel
theorem dL_rested_12 : decode cL_rested 12 = .ok (.astore_n 3, 1) := by decide +kernel
theorem dL_rested_13 : decode cL_rested 13 = .ok (.iconst 1, 1) := by decide +kernel
theorem dL_rested_14 : decode cL_rested 14 = .ok (.ireturn, 1) := by decide +kernel
theorem dL_rested_15 : decode cL_rested 15 = .ok (.iconst 0, 1) := by decide +kernel
theorem dL_rested_16 : decode cL_rested 16 = .ok (.ireturn, 1) := by decide +kernel
theorem dL_restedAnew_0 : decode cL_restedAnew 0 = .ok (.aload_n 2, 1) := by decide +kernel
theorem dL_restedAnew_1 : decode cL_restedAnew 1 = .ok (.iconst 0, 1) := by decide +kernel
theorem dL_restedAnew_2 : decode cL_restedAnew 2 = .ok (.aload_n 0, 1) := by decide +kernel
theorem dL_restedAnew_3 : decode cL_restedAnew 3 = .ok (.iload_n 1, 1) := by decide +kernel
theorem dL_restedAnew_4 : decode cL_restedAnew 4 = .ok (.invokevirtual 62, 3) := by decide +kernel
theorem dL_restedAnew_7 : decode cL_restedAnew 7 = .ok (.i2l, 1) := by decide +kernel
theorem dL_restedAnew_8 : decode cL_restedAnew 8 = .ok (.lastore, 1) := by decide +kernel
theorem dL_restedAnew_9 : decode cL_restedAnew 9 = .ok (.goto 6, 3) := by decide +kernel
theorem dL_restedAnew_12 : decode cL_restedAnew 12 = .ok (.astore_n 3, 1) := by decide +kernel
theorem dL_restedAnew_13 : decode cL_restedAnew 13 = .ok (.iconst 1, 1) := by decide +kernel
theorem dL_restedAnew_14 : decode cL_restedAnew 14 = .ok (.ireturn, 1) := by decide +kernel
theorem dL_restedAnew_15 : decode cL_restedAnew 15 = .ok (.iconst 0, 1) := by decide +kernel
theorem dL_restedAnew_16 : decode cL_restedAnew 16 = .ok (.ireturn, 1) := by decide +kernel
theorem dL_bill_0 : decode cL_bill 0 = .ok (.aload_n 2, 1) := by decide +kernel
theorem dL_bill_1 : decode cL_bill 1 = .ok (.iconst 0, 1) := by decide +kernel
theorem dL_bill_2 : decode cL_bill 2 = .ok (.aload_n 0, 1) := by decide +kernel
theorem dL_bill_3 : decode cL_bill 3 = .ok (.iload_n 1, 1) := by decide +kernel
theorem dL_bill_4 : decode cL_bill 4 = .ok (.invokevirtual 65, 3) := by decide +kernel
theorem dL_bill_7 : decode cL_bill 7 = .ok (.i2l, 1) := by decide +kernel
theorem dL_bill_8 : decode cL_bill 8 = .ok (.lastore, 1) := by decide +kernel
theorem dL_bill_9 : decode cL_bill 9 = .ok (.goto 6, 3) := by decide +kernel
theorem dL_bill_12 : decode cL_bill 12 = .ok (.astore_n 3, 1) := by decide +kernel
theorem dL_bill_13 : decode cL_bill 13 = .ok (.iconst 1, 1) := by decide +kernel
theorem dL_bill_14 : decode cL_bill 14 = .ok (.ireturn, 1) := by decide +kernel
theorem dL_bill_15 : decode cL_bill 15 = .ok (.iconst 0, 1) := by decide +kernel
theorem dL_bill_16 : decode cL_bill 16 = .ok (.ireturn, 1) := by decide +kernel
theorem dL_ofPilot_0 : decode cL_ofPilot 0 = .ok (.aload_n 3, 1) := by decide +kernel
theorem dL_ofPilot_1 : decode cL_ofPilot 1 = .ok (.iconst 0, 1) := by decide +kernel
theorem dL_ofPilot_2 : decode cL_ofPilot 2 = .ok (.aload_n 0, 1) := by decide +kernel
theorem dL_ofPilot_3 : decode cL_ofPilot 3 = .ok (.iload_n 1, 1) := by decide +kernel
theorem dL_ofPilot_4 : decode cL_ofPilot 4 = .ok (.iload_n 2, 1) := by decide +kernel
theorem dL_ofPilot_5 : decode cL_ofPilot 5 = .ok (.invokevirtual 68, 3) := by decide +kernel
theorem dL_ofPilot_8 : decode cL_ofPilot 8 = .ok (.i2l, 1) := by decide +kernel
theorem dL_ofPilot_9 : decode cL_ofPilot 9 = .ok (.lastore, 1) := by decide +kernel
theorem dL_ofPilot_10 : decode cL_ofPilot 10 = .ok (.goto 7, 3) := by decide +kernel
theorem dL_ofPilot_13 : decode cL_ofPilot 13 = .ok (.astore 4, 2) := by decide +kernel
theorem dL_ofPilot_15 : decode cL_ofPilot 15 = .ok (.iconst 1, 1) := by decide +kernel
theorem dL_ofPilot_16 : decode cL_ofPilot 16 = .ok (.ireturn, 1) := by decide +kernel
theorem dL_ofPilot_17 : decode cL_ofPilot 17 = .ok (.iconst 0, 1) := by decide +kernel
theorem dL_ofPilot_18 : decode cL_ofPilot 18 = .ok (.ireturn, 1) := by decide +kernel
theorem dL_count_0 : decode cL_count 0 = .ok (.aload_n 2, 1) := by decide +kernel
theorem dL_count_1 : decode cL_count 1 = .ok (.iconst 0, 1) := by decide +kernel
theorem dL_count_2 : decode cL_count 2 = .ok (.aload_n 0, 1) := by decide +kernel
theorem dL_count_3 : decode cL_count 3 = .ok (.iload_n 1, 1) := by decide +kernel
theorem dL_count_4 : decode cL_count 4 = .ok (.invokevirtual 71, 3) := by decide +kernel
theorem dL_count_7 : decode cL_count 7 = .ok (.i2l, 1) := by decide +kernel
theorem dL_count_8 : decode cL_count 8 = .ok (.lastore, 1) := by decide +kernel
theorem dL_count_9 : decode cL_count 9 = .ok (.goto 6, 3) := by decide +kernel
theorem dL_count_12 : decode cL_count 12 = .ok (.astore_n 3, 1) := by decide +kernel
theorem dL_count_13 : decode cL_count 13 = .ok (.iconst 1, 1) := by decide +kernel
theorem dL_count_14 : decode cL_count 14 = .ok (.ireturn, 1) := by decide +kernel
theorem dL_count_15 : decode cL_count 15 = .ok (.iconst 0, 1) := by decide +kernel
theorem dL_count_16 : decode cL_count 16 = .ok (.ireturn, 1) := by decide +kernel
end
section
/-! BASE: numbers as zI z (z an integer), rows over them, calls -/
def zI (z : Int) : Int32 := Int32.ofInt z
theorem zI_add (a b : Int) : zI a + zI b = zI (a + b) := (Int32.ofInt_add a b).symm
theorem zI_sub (a b : Int) : zI a - zI b = zI (a - b) := (Int32.ofInt_sub a b).symm
theorem zI_mul (a b : Int) : zI a * zI b = zI (a * b) := (Int32.ofInt_mul a b).symm
theorem zI_neg (a : Int) : - zI a = zI (-a) := (Int32.ofInt_neg a).symm
theorem zI_val {a : Int} (h : -2147483648 ≤ a ∧ a < 2147483648) : (zI a).toInt = a := by
  show (Int32.ofInt a).toInt = a
  rw [Int32.toInt_ofInt, Int.bmod_eq_of_le (by have := h.1; simp; omega) (by have := h.2; simp; omega)]
theorem zI_of (x : Int32) : zI x.toInt = x := Int32.ofInt_toInt x
theorem zI_ex (x : Int32) : ∃ z : Int, x = zI z ∧ -2147483648 ≤ z ∧ z < 2147483648 := by
  have h1 := Int32.le_toInt x
  have h2 := Int32.toInt_lt x
  exact ⟨x.toInt, (zI_of x).symm, by omega, by omega⟩
theorem zI_lt {a b : Int} (h : (-2147483648 ≤ a ∧ a < 2147483648) ∧ (-2147483648 ≤ b ∧ b < 2147483648)) : zI a < zI b ↔ a < b := by
  rw [Int32.lt_iff_toInt_lt, zI_val h.1, zI_val h.2]
theorem zI_le {a b : Int} (h : (-2147483648 ≤ a ∧ a < 2147483648) ∧ (-2147483648 ≤ b ∧ b < 2147483648)) : zI a ≤ zI b ↔ a ≤ b := by
  rw [Int32.le_iff_toInt_le, zI_val h.1, zI_val h.2]
theorem zI_inj {a b : Int} (h : (-2147483648 ≤ a ∧ a < 2147483648) ∧ (-2147483648 ≤ b ∧ b < 2147483648)) : zI a = zI b ↔ a = b := by
  rw [← Int32.toInt_inj, zI_val h.1, zI_val h.2]
theorem zI_0 : (0 : Int32) = zI 0 := rfl
theorem zI_nat (n : Nat) : Int32.ofNat n = zI (n : Int) := by
  apply Int32.toInt_inj.1
  show (Int32.ofNat n).toInt = (Int32.ofInt n).toInt
  simp
theorem zI_nonneg {a : Int} (h : 0 ≤ a ∧ a < 2147483648) : ¬ zI a < 0 := by
  rw [zI_0, zI_lt (by omega)]; omega
theorem zI_clamp {a : Int} (h : 0 ≤ a ∧ a < 2147483648) : (zI a).toNatClampNeg = a.toNat := by
  show (zI a).toInt.toNat = a.toNat
  rw [zI_val (by omega)]
theorem zI_in {a : Int} {n : Nat} (h : 0 ≤ a ∧ a < n ∧ a < 2147483648) : vp_in (zI a) n := by
  unfold vp_in
  rw [zI_clamp (by omega)]
  intro q
  rcases q with q | q
  · exact zI_nonneg (by omega) q
  · omega
theorem zI_div {a b : Int} (h : 0 ≤ a ∧ a < 2147483648 ∧ 0 < b ∧ b < 2147483648) : zI a / zI b = zI (a / b) := by
  apply Int32.toInt_inj.1
  have hb : zI b ≠ -1 := fun q => by
    have h1 := zI_val (a := b) (by omega)
    rw [q] at h1
    have h2 : (-1 : Int32).toInt = -1 := rfl
    omega
  have h3 : a / b ≤ a := Int.ediv_le_self b h.1
  have h4 : 0 ≤ a / b := Int.ediv_nonneg h.1 (by omega)
  rw [Int32.toInt_div_of_ne_right _ _ hb, zI_val (by omega), zI_val (by omega), zI_val (by omega), Int.tdiv_eq_ediv_of_nonneg h.1]
theorem zI_rem {a b : Int} (h : 0 ≤ a ∧ a < 2147483648 ∧ 0 < b ∧ b < 2147483648) : zI a - zI a / zI b * zI b = zI (a % b) := by
  rw [zI_div h, zI_mul, zI_sub, Int.emod_def, Int.mul_comm b]
theorem zI_ne0 {b : Int} (h : 0 < b ∧ b < 2147483648) : ¬ zI b = 0 := by
  rw [zI_0, zI_inj (by omega)]; omega
/-- 1 or 0 -/
noncomputable def bI (P : Prop) : Int := @ite Int P (Classical.propDecidable P) 1 0
theorem bI_t {P : Prop} (h : P) : bI P = 1 := by unfold bI; exact if_pos h
theorem bI_f {P : Prop} (h : ¬ P) : bI P = 0 := by unfold bI; exact if_neg h
theorem bI_eq0 {P : Prop} : bI P = 0 ↔ ¬ P := by
  by_cases h : P
  · rw [bI_t h]; exact ⟨fun q => absurd q (by decide), fun q => absurd h q⟩
  · rw [bI_f h]; exact ⟨fun _ => h, fun _ => rfl⟩
theorem bI_ne0 {P : Prop} : bI P ≠ 0 ↔ P := by
  by_cases h : P
  · rw [bI_t h]; exact ⟨fun _ => h, fun _ => by decide⟩
  · rw [bI_f h]; exact ⟨fun q => absurd rfl q, fun q => absurd q h⟩
theorem bI_rng (P : Prop) : 0 ≤ bI P ∧ bI P ≤ 1 := by
  by_cases h : P
  · rw [bI_t h]; omega
  · rw [bI_f h]; omega
theorem bI_iff {P Q : Prop} (h : P ↔ Q) : bI P = bI Q := by rw [show P = Q from propext h]
theorem bI_narrow (P : Prop) : narrow .boolean (.int (zI (bI P))) = .int (zI (bI P)) := by
  by_cases h : P
  · rw [bI_t h]; rfl
  · rw [bI_f h]; rfl
theorem bI_fits (P : Prop) : fits .boolean (.int (zI (bI P))) = true := by
  by_cases h : P
  · rw [bI_t h]; rfl
  · rw [bI_f h]; rfl
section ZR
variable {p : Program} {l : Launch} {e : Env} {R : Room} {s : State} {m : MethodId} {args : Array Value} {below : List Frame} {meth : Method} {c : Code} {H : Heap} {locs : List Loc} {cells slots : Nat} {Q : State → Prop}
variable {cc : ByteArray} {pc : Nat} {ls : Array Slot} {rest : List Value}
theorem z_iconst (hexec : p.tables.exec = Jvm.exec) (hb : c.code = cc) {n : Int} (hdg : decode cc pc = .ok (.iconst n, 1)) (k : W p l e R s m args below meth c H locs cells slots Q (F0 m (pc + 1) ls (.int (zI n) :: rest))) : W p l e R s m args below meth c H locs cells slots Q (F0 m pc ls rest) := lv_iconst hexec hb hdg rfl k
theorem z_bipush (hexec : p.tables.exec = Jvm.exec) (hb : c.code = cc) {n : Int} (hdg : decode cc pc = .ok (.bipush n, 2)) (hv : (Int8.ofInt n).toInt32 = zI n) (k : W p l e R s m args below meth c H locs cells slots Q (F0 m (pc + 2) ls (.int (zI n) :: rest))) : W p l e R s m args below meth c H locs cells slots Q (F0 m pc ls rest) := lv_bipush hexec hb hdg hv k
theorem z_sipush (hexec : p.tables.exec = Jvm.exec) (hb : c.code = cc) {n : Int} (hdg : decode cc pc = .ok (.sipush n, 3)) (hv : (Int16.ofInt n).toInt32 = zI n) (k : W p l e R s m args below meth c H locs cells slots Q (F0 m (pc + 3) ls (.int (zI n) :: rest))) : W p l e R s m args below meth c H locs cells slots Q (F0 m pc ls rest) := lv_sipush hexec hb hdg hv k
theorem z_iadd (hexec : p.tables.exec = Jvm.exec) (hb : c.code = cc) {a b : Int} (hdg : decode cc pc = .ok (.iadd, 1)) (k : W p l e R s m args below meth c H locs cells slots Q (F0 m (pc + 1) ls (.int (zI (a + b)) :: rest))) : W p l e R s m args below meth c H locs cells slots Q (F0 m pc ls (.int (zI b) :: .int (zI a) :: rest)) := lv_iadd hexec hb hdg (by rw [zI_add]; exact k)
theorem z_isub (hexec : p.tables.exec = Jvm.exec) (hb : c.code = cc) {a b : Int} (hdg : decode cc pc = .ok (.isub, 1)) (k : W p l e R s m args below meth c H locs cells slots Q (F0 m (pc + 1) ls (.int (zI (a - b)) :: rest))) : W p l e R s m args below meth c H locs cells slots Q (F0 m pc ls (.int (zI b) :: .int (zI a) :: rest)) := lv_isub hexec hb hdg (by rw [zI_sub]; exact k)
theorem z_imul (hexec : p.tables.exec = Jvm.exec) (hb : c.code = cc) {a b : Int} (hdg : decode cc pc = .ok (.imul, 1)) (k : W p l e R s m args below meth c H locs cells slots Q (F0 m (pc + 1) ls (.int (zI (a * b)) :: rest))) : W p l e R s m args below meth c H locs cells slots Q (F0 m pc ls (.int (zI b) :: .int (zI a) :: rest)) := lv_imul hexec hb hdg (by rw [zI_mul]; exact k)
theorem z_ineg (hexec : p.tables.exec = Jvm.exec) (hb : c.code = cc) {a : Int} (hdg : decode cc pc = .ok (.ineg, 1)) (k : W p l e R s m args below meth c H locs cells slots Q (F0 m (pc + 1) ls (.int (zI (-a)) :: rest))) : W p l e R s m args below meth c H locs cells slots Q (F0 m pc ls (.int (zI a) :: rest)) := lv_ineg hexec hb hdg (by rw [zI_neg]; exact k)
theorem z_idiv (hexec : p.tables.exec = Jvm.exec) (hb : c.code = cc) {a b : Int} (hdg : decode cc pc = .ok (.idiv, 1)) (h : 0 ≤ a ∧ a < 2147483648 ∧ 0 < b ∧ b < 2147483648) (k : W p l e R s m args below meth c H locs cells slots Q (F0 m (pc + 1) ls (.int (zI (a / b)) :: rest))) : W p l e R s m args below meth c H locs cells slots Q (F0 m pc ls (.int (zI b) :: .int (zI a) :: rest)) := lv_idiv hexec hb hdg (zI_ne0 (by omega)) (by rw [zI_div h]; exact k)
theorem z_irem (hexec : p.tables.exec = Jvm.exec) (hb : c.code = cc) {a b : Int} (hdg : decode cc pc = .ok (.irem, 1)) (h : 0 ≤ a ∧ a < 2147483648 ∧ 0 < b ∧ b < 2147483648) (k : W p l e R s m args below meth c H locs cells slots Q (F0 m (pc + 1) ls (.int (zI (a % b)) :: rest))) : W p l e R s m args below meth c H locs cells slots Q (F0 m pc ls (.int (zI b) :: .int (zI a) :: rest)) := lv_irem hexec hb hdg (zI_ne0 (by omega)) (by rw [zI_rem h]; exact k)
theorem z_iinc (hexec : p.tables.exec = Jvm.exec) (hb : c.code = cc) {i nL k : Nat} {n a : Int} {lv lv' : List (Nat × Value)} (hdg : decode cc pc = .ok (.iinc i n, 3)) (h : lv_has ls nL lv) (hk : lv[k]? = some (i, .int (zI a))) (hn : i < nL) (hl : (i, Value.int (zI (a + n))) :: lv.filter (fun q => !(q.1 == i) && !(q.1 + 1 == i && q.2.category == 2)) = lv')
    (kk : ∀ ls' : Array Slot, lv_has ls' nL lv' → W p l e R s m args below meth c H locs cells slots Q (F0 m (pc + 3) ls' rest)) : W p l e R s m args below meth c H locs cells slots Q (F0 m pc ls rest) := lv_iinc hexec hb hdg h hk (zI_add a n) hn hl kk
theorem z_icmp_eq (hexec : p.tables.exec = Jvm.exec) (hb : c.code = cc) {a b : Int} {off : Int} {tgt : Nat} (hdg : decode cc pc = .ok (.if_icmp .eq off, 3)) (ht : (pc : Int) + off = (tgt : Int)) (h : (-2147483648 ≤ a ∧ a < 2147483648) ∧ (-2147483648 ≤ b ∧ b < 2147483648))
    (kt : a = b → W p l e R s m args below meth c H locs cells slots Q (F0 m tgt ls rest)) (kf : a ≠ b → W p l e R s m args below meth c H locs cells slots Q (F0 m (pc + 3) ls rest)) : W p l e R s m args below meth c H locs cells slots Q (F0 m pc ls (.int (zI b) :: .int (zI a) :: rest)) :=
  lv_icmp_eq hexec hb hdg ht (fun q => kt ((zI_inj h).mp q)) (fun q => kf (fun z => q ((zI_inj h).mpr z)))
theorem z_if_eq (hexec : p.tables.exec = Jvm.exec) (hb : c.code = cc) {a : Int} {off : Int} {tgt : Nat} (hdg : decode cc pc = .ok (.ifCond .eq off, 3)) (ht : (pc : Int) + off = (tgt : Int)) (h : -2147483648 ≤ a ∧ a < 2147483648)
    (kt : a = 0 → W p l e R s m args below meth c H locs cells slots Q (F0 m tgt ls rest)) (kf : a ≠ 0 → W p l e R s m args below meth c H locs cells slots Q (F0 m (pc + 3) ls rest)) : W p l e R s m args below meth c H locs cells slots Q (F0 m pc ls (.int (zI a) :: rest)) :=
  lv_if_eq hexec hb hdg ht (fun q => kt ((zI_inj ⟨h, ⟨by decide, by decide⟩⟩).mp q)) (fun q => kf (fun z => q ((zI_inj ⟨h, ⟨by decide, by decide⟩⟩).mpr z)))
theorem z_icmp_ne (hexec : p.tables.exec = Jvm.exec) (hb : c.code = cc) {a b : Int} {off : Int} {tgt : Nat} (hdg : decode cc pc = .ok (.if_icmp .ne off, 3)) (ht : (pc : Int) + off = (tgt : Int)) (h : (-2147483648 ≤ a ∧ a < 2147483648) ∧ (-2147483648 ≤ b ∧ b < 2147483648))
    (kt : a ≠ b → W p l e R s m args below meth c H locs cells slots Q (F0 m tgt ls rest)) (kf : a = b → W p l e R s m args below meth c H locs cells slots Q (F0 m (pc + 3) ls rest)) : W p l e R s m args below meth c H locs cells slots Q (F0 m pc ls (.int (zI b) :: .int (zI a) :: rest)) :=
  lv_icmp_ne hexec hb hdg ht (fun q => kt (fun z => q ((zI_inj h).mpr z))) (fun q => kf ((zI_inj h).mp q))
theorem z_if_ne (hexec : p.tables.exec = Jvm.exec) (hb : c.code = cc) {a : Int} {off : Int} {tgt : Nat} (hdg : decode cc pc = .ok (.ifCond .ne off, 3)) (ht : (pc : Int) + off = (tgt : Int)) (h : -2147483648 ≤ a ∧ a < 2147483648)
    (kt : a ≠ 0 → W p l e R s m args below meth c H locs cells slots Q (F0 m tgt ls rest)) (kf : a = 0 → W p l e R s m args below meth c H locs cells slots Q (F0 m (pc + 3) ls rest)) : W p l e R s m args below meth c H locs cells slots Q (F0 m pc ls (.int (zI a) :: rest)) :=
  lv_if_ne hexec hb hdg ht (fun q => kt (fun z => q ((zI_inj ⟨h, ⟨by decide, by decide⟩⟩).mpr z))) (fun q => kf ((zI_inj ⟨h, ⟨by decide, by decide⟩⟩).mp q))
theorem z_icmp_lt (hexec : p.tables.exec = Jvm.exec) (hb : c.code = cc) {a b : Int} {off : Int} {tgt : Nat} (hdg : decode cc pc = .ok (.if_icmp .lt off, 3)) (ht : (pc : Int) + off = (tgt : Int)) (h : (-2147483648 ≤ a ∧ a < 2147483648) ∧ (-2147483648 ≤ b ∧ b < 2147483648))
    (kt : a < b → W p l e R s m args below meth c H locs cells slots Q (F0 m tgt ls rest)) (kf : b ≤ a → W p l e R s m args below meth c H locs cells slots Q (F0 m (pc + 3) ls rest)) : W p l e R s m args below meth c H locs cells slots Q (F0 m pc ls (.int (zI b) :: .int (zI a) :: rest)) :=
  lv_icmp_lt hexec hb hdg ht (fun q => kt ((zI_lt h).mp q)) (fun q => kf (Int.not_lt.mp (fun z => q ((zI_lt h).mpr z))))
theorem z_if_lt (hexec : p.tables.exec = Jvm.exec) (hb : c.code = cc) {a : Int} {off : Int} {tgt : Nat} (hdg : decode cc pc = .ok (.ifCond .lt off, 3)) (ht : (pc : Int) + off = (tgt : Int)) (h : -2147483648 ≤ a ∧ a < 2147483648)
    (kt : a < 0 → W p l e R s m args below meth c H locs cells slots Q (F0 m tgt ls rest)) (kf : 0 ≤ a → W p l e R s m args below meth c H locs cells slots Q (F0 m (pc + 3) ls rest)) : W p l e R s m args below meth c H locs cells slots Q (F0 m pc ls (.int (zI a) :: rest)) :=
  lv_if_lt hexec hb hdg ht (fun q => kt ((zI_lt ⟨h, ⟨by decide, by decide⟩⟩).mp q)) (fun q => kf (Int.not_lt.mp (fun z => q ((zI_lt ⟨h, ⟨by decide, by decide⟩⟩).mpr z))))
theorem z_icmp_ge (hexec : p.tables.exec = Jvm.exec) (hb : c.code = cc) {a b : Int} {off : Int} {tgt : Nat} (hdg : decode cc pc = .ok (.if_icmp .ge off, 3)) (ht : (pc : Int) + off = (tgt : Int)) (h : (-2147483648 ≤ a ∧ a < 2147483648) ∧ (-2147483648 ≤ b ∧ b < 2147483648))
    (kt : b ≤ a → W p l e R s m args below meth c H locs cells slots Q (F0 m tgt ls rest)) (kf : a < b → W p l e R s m args below meth c H locs cells slots Q (F0 m (pc + 3) ls rest)) : W p l e R s m args below meth c H locs cells slots Q (F0 m pc ls (.int (zI b) :: .int (zI a) :: rest)) :=
  lv_icmp_ge hexec hb hdg ht (fun q => kt ((zI_le ⟨h.2, h.1⟩).mp q)) (fun q => kf (Int.not_le.mp (fun z => q ((zI_le ⟨h.2, h.1⟩).mpr z))))
theorem z_if_ge (hexec : p.tables.exec = Jvm.exec) (hb : c.code = cc) {a : Int} {off : Int} {tgt : Nat} (hdg : decode cc pc = .ok (.ifCond .ge off, 3)) (ht : (pc : Int) + off = (tgt : Int)) (h : -2147483648 ≤ a ∧ a < 2147483648)
    (kt : 0 ≤ a → W p l e R s m args below meth c H locs cells slots Q (F0 m tgt ls rest)) (kf : a < 0 → W p l e R s m args below meth c H locs cells slots Q (F0 m (pc + 3) ls rest)) : W p l e R s m args below meth c H locs cells slots Q (F0 m pc ls (.int (zI a) :: rest)) :=
  lv_if_ge hexec hb hdg ht (fun q => kt ((zI_le ⟨⟨by decide, by decide⟩, h⟩).mp q)) (fun q => kf (Int.not_le.mp (fun z => q ((zI_le ⟨⟨by decide, by decide⟩, h⟩).mpr z))))
theorem z_icmp_gt (hexec : p.tables.exec = Jvm.exec) (hb : c.code = cc) {a b : Int} {off : Int} {tgt : Nat} (hdg : decode cc pc = .ok (.if_icmp .gt off, 3)) (ht : (pc : Int) + off = (tgt : Int)) (h : (-2147483648 ≤ a ∧ a < 2147483648) ∧ (-2147483648 ≤ b ∧ b < 2147483648))
    (kt : b < a → W p l e R s m args below meth c H locs cells slots Q (F0 m tgt ls rest)) (kf : a ≤ b → W p l e R s m args below meth c H locs cells slots Q (F0 m (pc + 3) ls rest)) : W p l e R s m args below meth c H locs cells slots Q (F0 m pc ls (.int (zI b) :: .int (zI a) :: rest)) :=
  lv_icmp_gt hexec hb hdg ht (fun q => kt ((zI_lt ⟨h.2, h.1⟩).mp q)) (fun q => kf (Int.not_lt.mp (fun z => q ((zI_lt ⟨h.2, h.1⟩).mpr z))))
theorem z_if_gt (hexec : p.tables.exec = Jvm.exec) (hb : c.code = cc) {a : Int} {off : Int} {tgt : Nat} (hdg : decode cc pc = .ok (.ifCond .gt off, 3)) (ht : (pc : Int) + off = (tgt : Int)) (h : -2147483648 ≤ a ∧ a < 2147483648)
    (kt : 0 < a → W p l e R s m args below meth c H locs cells slots Q (F0 m tgt ls rest)) (kf : a ≤ 0 → W p l e R s m args below meth c H locs cells slots Q (F0 m (pc + 3) ls rest)) : W p l e R s m args below meth c H locs cells slots Q (F0 m pc ls (.int (zI a) :: rest)) :=
  lv_if_gt hexec hb hdg ht (fun q => kt ((zI_lt ⟨⟨by decide, by decide⟩, h⟩).mp q)) (fun q => kf (Int.not_lt.mp (fun z => q ((zI_lt ⟨⟨by decide, by decide⟩, h⟩).mpr z))))
theorem z_icmp_le (hexec : p.tables.exec = Jvm.exec) (hb : c.code = cc) {a b : Int} {off : Int} {tgt : Nat} (hdg : decode cc pc = .ok (.if_icmp .le off, 3)) (ht : (pc : Int) + off = (tgt : Int)) (h : (-2147483648 ≤ a ∧ a < 2147483648) ∧ (-2147483648 ≤ b ∧ b < 2147483648))
    (kt : a ≤ b → W p l e R s m args below meth c H locs cells slots Q (F0 m tgt ls rest)) (kf : b < a → W p l e R s m args below meth c H locs cells slots Q (F0 m (pc + 3) ls rest)) : W p l e R s m args below meth c H locs cells slots Q (F0 m pc ls (.int (zI b) :: .int (zI a) :: rest)) :=
  lv_icmp_le hexec hb hdg ht (fun q => kt ((zI_le h).mp q)) (fun q => kf (Int.not_le.mp (fun z => q ((zI_le h).mpr z))))
theorem z_if_le (hexec : p.tables.exec = Jvm.exec) (hb : c.code = cc) {a : Int} {off : Int} {tgt : Nat} (hdg : decode cc pc = .ok (.ifCond .le off, 3)) (ht : (pc : Int) + off = (tgt : Int)) (h : -2147483648 ≤ a ∧ a < 2147483648)
    (kt : a ≤ 0 → W p l e R s m args below meth c H locs cells slots Q (F0 m tgt ls rest)) (kf : 0 < a → W p l e R s m args below meth c H locs cells slots Q (F0 m (pc + 3) ls rest)) : W p l e R s m args below meth c H locs cells slots Q (F0 m pc ls (.int (zI a) :: rest)) :=
  lv_if_le hexec hb hdg ht (fun q => kt ((zI_le ⟨h, ⟨by decide, by decide⟩⟩).mp q)) (fun q => kf (Int.not_le.mp (fun z => q ((zI_le ⟨h, ⟨by decide, by decide⟩⟩).mpr z))))
theorem z_ifb_eq (hexec : p.tables.exec = Jvm.exec) (hb : c.code = cc) {P : Prop} {off : Int} {tgt : Nat} (hdg : decode cc pc = .ok (.ifCond .eq off, 3)) (ht : (pc : Int) + off = (tgt : Int))
    (kt : ¬ P → W p l e R s m args below meth c H locs cells slots Q (F0 m tgt ls rest)) (kf : P → W p l e R s m args below meth c H locs cells slots Q (F0 m (pc + 3) ls rest)) : W p l e R s m args below meth c H locs cells slots Q (F0 m pc ls (.int (zI (bI P)) :: rest)) :=
  z_if_eq hexec hb hdg ht (by have := bI_rng P; omega) (fun q => kt (bI_eq0.mp q)) (fun q => kf (bI_ne0.mp q))
theorem z_ifb_ne (hexec : p.tables.exec = Jvm.exec) (hb : c.code = cc) {P : Prop} {off : Int} {tgt : Nat} (hdg : decode cc pc = .ok (.ifCond .ne off, 3)) (ht : (pc : Int) + off = (tgt : Int))
    (kt : P → W p l e R s m args below meth c H locs cells slots Q (F0 m tgt ls rest)) (kf : ¬ P → W p l e R s m args below meth c H locs cells slots Q (F0 m (pc + 3) ls rest)) : W p l e R s m args below meth c H locs cells slots Q (F0 m pc ls (.int (zI (bI P)) :: rest)) :=
  z_if_ne hexec hb hdg ht (by have := bI_rng P; omega) (fun q => kt (bI_ne0.mp q)) (fun q => kf (bI_eq0.mp q))
/-- another number, the same -/
theorem z_top {a b : Int} (h : a = b) (k : W p l e R s m args below meth c H locs cells slots Q (F0 m pc ls (.int (zI b) :: rest))) : W p l e R s m args below meth c H locs cells slots Q (F0 m pc ls (.int (zI a) :: rest)) := by rw [h]; exact k
end ZR
/-! objects and arrays, one at a time: what a row reads is a fact about one cell -/
theorem z_P1 {D : va_G} {cl : List vw_C} {q : Nat × va_E} {H : Heap} (h : va_at D cl q H) : va_P D cl [q] H := by
  intro k x hx
  match k, hx with
  | 0, hx => cases hx; exact h
  | k + 1, hx => simp at hx
section ZO
variable {p : Program} {l : Launch} {e : Env} {R : Room} {s : State} {m : MethodId} {args : Array Value} {below : List Frame} {meth : Method} {c : Code} {H : Heap} {locs : List Loc} {cells slots : Nat} {Q : State → Prop}
variable {cc : ByteArray} {pc : Nat} {ls : Array Slot} {rest : List Value} {D : va_G} {cl : List vw_C} {A : Nat → Prop} {a : Nat} {tys : List (ClassId × FieldType)} {H0 : Heap}
theorem z_get (hexec : p.tables.exec = Jvm.exec) (hb : c.code = cc) {own ref C : String} {T : u_T} {N ci index : Nat} {Ts : List Cond} (hts : ∀ w ∈ Ts, w.before args s = true) (hin : ∀ w ∈ u_ws C T N, w ∈ Ts) (hown : s.vm.findClass own = some m.cls) (hK : va_K D cl tys s) {fs : List Value} (ho : va_at D cl (a, .inr (ci, fs)) H) (hc : cl[ci]? = some (C, T, N)) (k : Nat) (hk : k < N) (hlink : (Cond.fieldLink own index ref (T k).2.1 (T k).2.2.1) ∈ Ts) (hsame : (T k).1 = ref) {v : Value} (hv : fs[k]? = some v) (hdg : decode cc pc = .ok (.getfield index, 3))
    (kk : W p l e R s m args below meth c H locs cells slots Q (F0 m (pc + 3) ls (v :: rest))) : W p l e R s m args below meth c H locs cells slots Q (F0 m pc ls (.ref a :: rest)) :=
  va_get (ws := [(a, .inr (ci, fs))]) hexec hb hts hin hown hK (z_P1 ho) 0 rfl hc k hk (hts _ hlink) (fun _ h9 => by rw [← hsame]; exact h9) hv hdg kk
/-- a put: the cell with its new value, nothing else -/
theorem z_put (hexec : p.tables.exec = Jvm.exec) (hb : c.code = cc) {own ref C : String} {T : u_T} {N ci index : Nat} {Ts : List Cond} (hts : ∀ w ∈ Ts, w.before args s = true) (hin : ∀ w ∈ u_ws C T N, w ∈ Ts) (ty0 : Nat → FieldType) (hty : ∀ k, k < N → parseFieldDescriptor (T k).2.2.1 = some (ty0 k)) (hnm : ∀ a, a < N → ∀ b, b < N → a ≠ b → (T a).2.1 ≠ (T b).2.1) (hown : s.vm.findClass own = some m.cls) (hK : va_K D cl tys s) {fs : List Value} (ho : va_at D cl (a, .inr (ci, fs)) H) (hA : A a) (hS0 : va_S A H0 H locs) (hc : cl[ci]? = some (C, T, N)) (k : Nat) (hk : k < N) (hlink : (Cond.fieldLink own index ref (T k).2.1 (T k).2.2.1) ∈ Ts) (hsame : (T k).1 = ref) (hfin : (T k).2.2.2 = false) {v : Value} (hn : narrow (ty0 k) v = v) (hfit : fits (ty0 k) v = true) (hl : k < fs.length)
    (hdg : decode cc pc = .ok (.putfield index, 3)) (kk : ∀ (H1 : Heap) (locs1 : List Loc), va_at D cl (a, .inr (ci, fs.set k v)) H1 → H1.size = H.size → (∀ q : Nat, q ≠ a → H1[q]? = H[q]?) → va_S A H0 H1 locs1 → W p l e R s m args below meth c H1 locs1 cells slots Q (F0 m (pc + 3) ls rest)) : W p l e R s m args below meth c H locs cells slots Q (F0 m pc ls (v :: .ref a :: rest)) := by
  have hap := va_apart (own := own) hts hin ty0 hty hnm hK hc
  obtain ⟨r, h1, cell, q1, q2, q3, q4⟩ := ho
  have hr : r = (C, T, N) := Option.some.inj (h1.symm.trans hc)
  subst hr
  obtain ⟨hS, hfc, kC, hkC, hkind⟩ := hK.1 ci _ hc
  obtain ⟨cf, kf, fi, f, hi, hsl⟩ := hS k hk
  have hlay := hts _ (hin _ (u_in_lay hk))
  unfold u_lay at hlay
  rw [if_neg (by rw [hfin]; decide)] at hlay
  have hst := (u_facts hfc hkC (u_lays hts hin hk) hi).1
  have h6 := u_store hfc hkC hkind hlay hi (hty k hk) hn hfit
  refine W.putK hexec hb (f := f) ⟨hown, hts _ hlink, ⟨_, _, _, by rw [← hsame]; exact hi⟩, hst⟩ (by rw [q2]; exact h6) q1 q3 (by rw [hsl]; exact k2_hasslot (q4 k hk)) rfl rfl hdg fun H' e1 e2 e3 => ?_
  rw [hsl] at e1 ⊢
  exact kk H' _ ⟨_, hc, t_OB.to (V := updV (vp_V fs) k v) ⟨_, e1, q2, q3, t_set q4 hap hk v⟩ (fun j _ => vp_updV_set hl v j)⟩ e2 e3 (hS0.put e2 e3 hA)
/-- a put of a final field, in its own constructor -/
theorem z_putF (hexec : p.tables.exec = Jvm.exec) (hb : c.code = cc) {own ref C : String} {T : u_T} {N ci index : Nat} {Ts : List Cond} (hts : ∀ w ∈ Ts, w.before args s = true) (hin : ∀ w ∈ u_ws C T N, w ∈ Ts) (ty0 : Nat → FieldType) (hty : ∀ k, k < N → parseFieldDescriptor (T k).2.2.1 = some (ty0 k)) (hnm : ∀ a, a < N → ∀ b, b < N → a ≠ b → (T a).2.1 ≠ (T b).2.1) (hown : s.vm.findClass own = some m.cls) (hK : va_K D cl tys s) {fs : List Value} (ho : va_at D cl (a, .inr (ci, fs)) H) (hA : A a) (hS0 : va_S A H0 H locs) (hc : cl[ci]? = some (C, T, N)) (k : Nat) (hk : k < N) (hlink : (Cond.fieldLink own index ref (T k).2.1 (T k).2.2.1) ∈ Ts) (hsame : (T k).1 = ref) (hfin : (T k).2.2.2 = true) (hin2 : meth.name = "<init>") (hdecl : (T k).1 = own) {v : Value} (hn : narrow (ty0 k) v = v) (hfit : fits (ty0 k) v = true) (hl : k < fs.length)
    (hdg : decode cc pc = .ok (.putfield index, 3)) (kk : ∀ (H1 : Heap) (locs1 : List Loc), va_at D cl (a, .inr (ci, fs.set k v)) H1 → H1.size = H.size → (∀ q : Nat, q ≠ a → H1[q]? = H[q]?) → va_S A H0 H1 locs1 → W p l e R s m args below meth c H1 locs1 cells slots Q (F0 m (pc + 3) ls rest)) : W p l e R s m args below meth c H locs cells slots Q (F0 m pc ls (v :: .ref a :: rest)) := by
  have hap := va_apart (own := own) hts hin ty0 hty hnm hK hc
  obtain ⟨r, h1, cell, q1, q2, q3, q4⟩ := ho
  have hr : r = (C, T, N) := Option.some.inj (h1.symm.trans hc)
  subst hr
  obtain ⟨hS, hfc, kC, hkC, hkind⟩ := hK.1 ci _ hc
  obtain ⟨cf, kf, fi, f, hi, hsl⟩ := hS k hk
  have hlay := hts _ (hin _ (u_in_lay hk))
  unfold u_lay at hlay
  rw [if_pos hfin] at hlay
  have hst := (u_facts hfc hkC (u_lays hts hin hk) hi).1
  have hcf : m.cls = cf := by
    obtain ⟨_, _, c', _, _, _, -, -, hf', -, -, -, hown2, -⟩ := Cond.laysFinal_spec hlay
    have e1 : c' = cf := by have := hi.symm.trans hf'; simp at this; exact this.1.symm
    rw [hdecl] at hown2
    rw [← e1]; exact Option.some.inj (hown.symm.trans hown2)
  have h6 := u_fits hfc hkC hkind (Or.inr hlay) hi (hty k hk) hn hfit
  refine W.putFinK hexec hb hown (hts _ hlink) (by rw [← hsame]; exact hi) hst hcf hin2 (by rw [q2]; exact h6) q1 q3 (by rw [hsl]; exact k2_hasslot (q4 k hk)) rfl rfl hdg fun H' e1 e2 e3 => ?_
  rw [hsl] at e1 ⊢
  exact kk H' _ ⟨_, hc, t_OB.to (V := updV (vp_V fs) k v) ⟨_, e1, q2, q3, t_set q4 hap hk v⟩ (fun j _ => vp_updV_set hl v j)⟩ e2 e3 (hS0.put e2 e3 hA)
theorem z_iald (hexec : p.tables.exec = Jvm.exec) (hb : c.code = cc) (hK : va_K D cl tys s) (t0 : Nat) {cA : ClassId} {n : Nat} {f : Nat → Int32} (ha : va_at D cl (a, .inl (cA, n, .inl f)) H) (ht : tys[t0]? = some (cA, .int)) {i : Int} (h : 0 ≤ i ∧ i < n ∧ i < 2147483648) (hdg : decode cc pc = .ok (.iaload, 1))
    (kk : W p l e R s m args below meth c H locs cells slots Q (F0 m (pc + 1) ls (.int (f i.toNat) :: rest))) : W p l e R s m args below meth c H locs cells slots Q (F0 m pc ls (.int (zI i) :: .ref a :: rest)) :=
  va_iald (ws := [(a, .inl (cA, n, .inl f))]) hexec hb hK (z_P1 ha) 0 t0 rfl ht (zI_in h) hdg (by rw [zI_clamp (by omega)]; exact kk)
theorem z_aldq (hexec : p.tables.exec = Jvm.exec) (hb : c.code = cc) (hK : va_K D cl tys s) (t0 : Nat) {cA : ClassId} {C : String} {n : Nat} {f : Nat → Option Nat} (ha : va_at D cl (a, .inl (cA, n, .inr (.inr (.inr (.inr f))))) H) (ht : tys[t0]? = some (cA, .object C)) {i : Int} (h : 0 ≤ i ∧ i < n ∧ i < 2147483648) (hdg : decode cc pc = .ok (.aaload, 1))
    (kk : W p l e R s m args below meth c H locs cells slots Q (F0 m (pc + 1) ls (va_rf (f i.toNat) :: rest))) : W p l e R s m args below meth c H locs cells slots Q (F0 m pc ls (.int (zI i) :: .ref a :: rest)) :=
  va_aldq (ws := [(a, .inl (cA, n, .inr (.inr (.inr (.inr f)))))]) hexec hb hK (z_P1 ha) 0 t0 rfl ht (zI_in h) hdg (by rw [zI_clamp (by omega)]; exact kk)
theorem z_alen (hexec : p.tables.exec = Jvm.exec) (hb : c.code = cc) (hK : va_K D cl tys s) (t0 : Nat) {cA : ClassId} {x : vp_A} (ha : va_at D cl (a, .inl (cA, x)) H) {ty : FieldType} (ht : tys[t0]? = some (cA, ty)) (hdg : decode cc pc = .ok (.arraylength, 1))
    (kk : W p l e R s m args below meth c H locs cells slots Q (F0 m (pc + 1) ls (.int (zI x.1) :: rest))) : W p l e R s m args below meth c H locs cells slots Q (F0 m pc ls (.ref a :: rest)) :=
  va_alen (ws := [(a, .inl (cA, x))]) hexec hb hK (z_P1 ha) 0 t0 rfl ht (zI_nat x.1) hdg kk
theorem z_iast (hexec : p.tables.exec = Jvm.exec) (hb : c.code = cc) (hK : va_K D cl tys s) (t0 : Nat) {cA : ClassId} {n : Nat} {f : Nat → Int32} (ha : va_at D cl (a, .inl (cA, n, .inl f)) H) (ht : tys[t0]? = some (cA, .int)) (hA : A a) (hS : va_S A H0 H locs) {i : Int} {x : Int32} (h : 0 ≤ i ∧ i < n ∧ i < 2147483648) (hdg : decode cc pc = .ok (.iastore, 1))
    (kk : ∀ (H1 : Heap) (locs1 : List Loc), va_at D cl (a, .inl (cA, n, .inl (upd f i.toNat x))) H1 → H1.size = H.size → (∀ q : Nat, q ≠ a → H1[q]? = H[q]?) → va_S A H0 H1 locs1 → W p l e R s m args below meth c H1 locs1 cells slots Q (F0 m (pc + 1) ls rest)) : W p l e R s m args below meth c H locs cells slots Q (F0 m pc ls (.int x :: .int (zI i) :: .ref a :: rest)) := by
  have hin := zI_in h
  have hcl : (zI i).toNatClampNeg = i.toNat := zI_clamp (by omega)
  refine W.iast hexec hb ha ((hK.2 t0 _ ht).1 n (fun j => .int (f j))) (fun q => by cases q) (by show ¬ (zI i < 0 ∨ (arrV _ _ _).slots.size ≤ _); rw [arrV_size]; exact hin) rfl rfl hdg fun H1 e z oq => ?_
  refine kk H1 _ ?_ z oq (hS.put z oq hA)
  show H1[a]? = some (vp_cell _ _)
  rw [e]
  rw [vp_cell_i, vp_cell_i, arrV_store]
  congr 2
  funext q
  by_cases hq : q = i.toNat
  · subst hq
    simp [updV, upd, hcl]
  · simp [updV, upd, hq, hcl]
theorem z_last (hexec : p.tables.exec = Jvm.exec) (hb : c.code = cc) (hK : va_K D cl tys s) (t0 : Nat) {cA : ClassId} {n : Nat} {f : Nat → Int64} (ha : va_at D cl (a, .inl (cA, n, .inr (.inl f))) H) (ht : tys[t0]? = some (cA, .long)) (hA : A a) (hS : va_S A H0 H locs) {i : Int} {x : Int64} (h : 0 ≤ i ∧ i < n ∧ i < 2147483648) (hdg : decode cc pc = .ok (.lastore, 1))
    (kk : ∀ (H1 : Heap) (locs1 : List Loc), va_at D cl (a, .inl (cA, n, .inr (.inl (vp_updL f i.toNat x)))) H1 → H1.size = H.size → (∀ q : Nat, q ≠ a → H1[q]? = H[q]?) → va_S A H0 H1 locs1 → W p l e R s m args below meth c H1 locs1 cells slots Q (F0 m (pc + 1) ls rest)) : W p l e R s m args below meth c H locs cells slots Q (F0 m pc ls (.long x :: .int (zI i) :: .ref a :: rest)) := by
  have hin := zI_in h
  have hcl : (zI i).toNatClampNeg = i.toNat := zI_clamp (by omega)
  refine W.last hexec hb ha ((hK.2 t0 _ ht).1 n (fun j => .long (f j))) (fun q => by cases q) (by show ¬ (zI i < 0 ∨ (arrV _ _ _).slots.size ≤ _); rw [arrV_size]; exact hin) rfl rfl hdg fun H1 e z oq => ?_
  refine kk H1 _ ?_ z oq (hS.put z oq hA)
  show H1[a]? = some (vp_cell _ _)
  rw [e]
  rw [vp_cell_l, vp_cell_l, arrV_store]
  congr 2
  funext q
  by_cases hq : q = i.toNat
  · subst hq
    simp [updV, vp_updL, hcl]
  · simp [updV, vp_updL, hq, hcl]
/-- a new object: the next address -/
theorem z_new (hexec : p.tables.exec = Jvm.exec) (hb : c.code = cc) {own C : String} {T : u_T} {N ci index : Nat} {Ts : List Cond} (hts : ∀ w ∈ Ts, w.before args s = true) (hin : ∀ w ∈ u_ws C T N, w ∈ Ts) (ty : Nat → FieldType) (hty : ∀ k, k < N → parseFieldDescriptor (T k).2.2.1 = some (ty k)) (hown : s.vm.findClass own = some m.cls) (hcl : (Cond.classLink own index C) ∈ Ts) (hinst : (Cond.instantiable C N) ∈ Ts) (hini : (Cond.initialized C) ∈ Ts)
    (hK : va_K D cl tys s) (hS : va_S A H0 H locs) (hc : cl[ci]? = some (C, T, N)) {fs : List Value} (hfs : ∀ j, j < N → defaultValue (ty j) = vp_V fs j) (hcells : cells + 1 ≤ R.cells) (hslots : slots + N ≤ R.slots) (hdg : decode cc pc = .ok (.new index, 3))
    (kk : ∀ (H1 : Heap), va_at D cl (H.size, .inr (ci, fs)) H1 → H1.size = H.size + 1 → (∀ q : Nat, q < H.size → H1[q]? = H[q]?) → va_S A H0 H1 locs →
      W p l e R s m args below meth c H1 locs (cells + 1) (slots + N) Q (F0 m (pc + 3) ls (.ref H.size :: rest))) : W p l e R s m args below meth c H locs cells slots Q (F0 m pc ls rest) := by
  have hKn := hK.1 ci _ hc
  refine W.newcK hexec hb hown (hts _ hcl) (hts _ hinst) (hts _ hini) rfl hdg hcells hslots hKn.2.1 rfl fun H1 kC hkC e1 z1 o1 => ?_
  exact kk H1 ⟨_, hc, (u_born ty hts hin hKn hkC e1 hty).to hfs⟩ z1 (fun q hq => o1 q hq) ⟨Nat.le_trans hS.1 (by omega), fun x h1 h2 => (o1 x (Nat.lt_of_lt_of_le h1 hS.1)).trans (hS.2.1 x h1 h2), hS.2.2⟩
theorem z_recv {ci : Nat} {q : vw_C} {fs : List Value} (hK : va_K D cl tys s) (ho : va_at D cl (a, .inr (ci, fs)) H) (hc : cl[ci]? = some q) : ∃ cell : Cell, H[a]? = some cell ∧ cell.vm.isStatics = false ∧ s.vm.findClass q.1 = some cell.cls :=
  va_recv (ws := [(a, .inr (ci, fs))]) (q0 := 0) hK (z_P1 ho) hc rfl
end ZO
theorem z_lt {D : va_G} {cl : List vw_C} {a : Nat} {x : va_E} {H : Heap} (h : va_at D cl (a, x) H) : a < H.size := va_at.lt h
/-! contracts of methods that only read: any heap with these facts, the same heap behind it -/
def zPM (l : Launch) (y : MethodName) (ws : List Cond) (rm : Room) (K : State → Prop) (av : List Value) (H0 : Heap) (post : Value → Prop) : Prop :=
  Met l y ws rm (va_Pc av (fun U => U.heap = H0 ∧ K U)) (fun _ st o t => (∃ r, o = .returned (some r) ∧ post r) ∧ t.heap = st.heap) 0 0 (fun _ => False)
def zMove (K : State → Prop) : Prop := ∀ u U : State, u.vm.Alike U.vm → u.heap = U.heap → K u → K U
section ZC
variable {p : Program} {l : Launch} {e : Env} {R : Room} {s : State} {m : MethodId} {args : Array Value} {below : List Frame} {meth : Method} {c : Code} {H : Heap} {locs : List Loc} {cells slots : Nat} {Q : State → Prop}
variable {cc : ByteArray} {pc : Nat} {ls : Array Slot} {rest st0 : List Value}
theorem z_run {Qa : State → Outcome → State → Prop} {mc ms : Nat} {free : Addr → Prop} (hr : va_Run p l e R s m args below meth c H locs cells slots mc ms (F0 m pc ls st0) rest Qa free)
    (kk : ∀ (v : Option Value) (st₀ t : State) (H1 : Heap) (L : List Loc), st₀.heap = H → t.heap = H1 → s.vm.Alike t.vm → Qa st₀ (.returned v) t → (∀ q ∈ L, free q.base) → W p l e R s m args below meth c H1 (locs ++ L) (cells + mc) (slots + ms) Q (F0 m (pc + 3) ls (v.toList ++ rest))) : W p l e R s m args below meth c H locs cells slots Q (F0 m pc ls st0) := by
  intro T hT X
  obtain ⟨v, st₀, t, T', L, h0, X', hL, e1, e2, hq, st⟩ := hr T hT X
  obtain ⟨t2, a1, b1⟩ := kk v st₀ t T'.heap L h0 e1.symm (by rw [← e2]; exact X'.warmed.alike) hq hL T' rfl X'
  exact ⟨t2, st t2 a1, b1⟩
/-- a call of a reader, by what va_run.. gives -/
theorem z_pm {a : Array Value} {post : Value → Prop} (hr : va_Run p l e R s m args below meth c H locs cells slots 0 0 (F0 m pc ls st0) rest ((fun (_ : Array Value) st o t => (∃ r, o = .returned (some r) ∧ post r) ∧ t.heap = st.heap) a) (fun _ => False))
    (kk : ∀ r : Value, post r → W p l e R s m args below meth c H locs cells slots Q (F0 m (pc + 3) ls (r :: rest))) : W p l e R s m args below meth c H locs cells slots Q (F0 m pc ls st0) := by
  refine z_run hr (fun v st₀ t H1 L h0 h1 hv hq hL => ?_)
  obtain ⟨⟨r, hr1, hp⟩, hh⟩ := hq
  cases hr1
  have hL0 : L = [] := by
    cases L with
    | nil => rfl
    | cons x xs => exact absurd (hL x List.mem_cons_self) id
  have hH : H1 = H := by rw [← h1, hh, h0]
  rw [hL0, List.append_nil, hH]
  exact kk r hp
end ZC
/-- how a reader's body ends -/
theorem z_end {s : State} {post : Value → Prop} {v : Value} (h : post v) : ∀ t : State, t.heap = s.heap → s.WarmedH t.vm → (∃ r, Outcome.returned (some v) = .returned (some r) ∧ post r) ∧ t.heap = s.heap := fun t ht _ => ⟨⟨v, rfl, h⟩, ht⟩
/-- a virtual call of a reader -/
theorem z_cv {l : Launch} {p : Program} {e : Env} {R : Room} {s : State} {m : MethodId} {args : Array Value} {below : List Frame} {meth : Method} {c : Code} {H : Heap} {locs : List Loc} {cells slots : Nat} {Q : State → Prop} {cc bytes : ByteArray} {pc nL maxL index n : Nat} {ls : Array Slot} {st0 rest As : List Value} {y : MethodName} {ret : Option FieldType} {ws : List Cond} {rm : Room} {Ts : List Cond} {own C : String} {b : Addr} {K : State → Prop} {post : Value → Prop}
    (S : CallFix p m c cc nL s args Ts own) (hM : zPM l y ws rm K (.ref b :: As) H post) (cw : CallW R s args own C index y bytes maxL ret ws rm 0 0 n) (hmv : zMove K) (hK : ∀ U : State, U.heap = H → s.vm.Alike U.vm → K U) (hr : ∃ cellB : Cell, H[b]? = some cellB ∧ cellB.vm.isStatics = false ∧ s.vm.findClass C = some cellB.cls)
    (hn : As.length = n) (hsize : ls.size = nL) (hst : st0 = As.reverse ++ .ref b :: rest) (hW : (rest.map fun v => v.category).sum ≤ 8) (hdg : decode cc pc = .ok (.invokevirtual index, 3)) (hf : cells ≤ R.cells ∧ slots ≤ R.slots)
    (kk : ∀ r : Value, post r → W p l e R s m args below meth c H locs cells slots Q (F0 m (pc + 3) ls (r :: rest))) : W p l e R s m args below meth c H locs cells slots Q (F0 m pc ls st0) :=
  z_pm (a := (Value.ref b :: As).toArray) (va_runV S hM cw ⟨fun a U g mk q => ⟨q.1, q.2.1, hmv U (U.calling g mk a) (Vm.Alike.refl U.vm) rfl q.2.2⟩, hr, fun U hU hWm => ⟨rfl, hU, hK U hU hWm.alike⟩⟩ rfl hn hsize hst (lv_room (pc := pc) (ls := ls) (rest := st0) (m := m) hW) hdg hf) kk
/-- a static call of a reader -/
theorem z_cs {l : Launch} {p : Program} {e : Env} {R : Room} {s : State} {m : MethodId} {args : Array Value} {below : List Frame} {meth : Method} {c : Code} {H : Heap} {locs : List Loc} {cells slots : Nat} {Q : State → Prop} {cc bytes : ByteArray} {pc nL maxL index n : Nat} {ls : Array Slot} {st0 rest As : List Value} {y : MethodName} {ret : Option FieldType} {ws : List Cond} {rm : Room} {Ts : List Cond} {own : String} {K : State → Prop} {post : Value → Prop}
    (S : CallFix p m c cc nL s args Ts own) (hM : zPM l y ws rm K As H post) (cw : CallB R s args own index y bytes maxL ret ws rm 0 0 n ∧ (Cond.static y).before args s = true) (hmv : zMove K) (hK : ∀ U : State, U.heap = H → s.vm.Alike U.vm → K U)
    (hn : As.length = n) (hsize : ls.size = nL) (hst : st0 = As.reverse ++ rest) (hW : (rest.map fun v => v.category).sum ≤ 8) (hdg : decode cc pc = .ok (.invokestatic index, 3)) (hf : cells ≤ R.cells ∧ slots ≤ R.slots)
    (kk : ∀ r : Value, post r → W p l e R s m args below meth c H locs cells slots Q (F0 m (pc + 3) ls (r :: rest))) : W p l e R s m args below meth c H locs cells slots Q (F0 m pc ls st0) :=
  z_pm (a := As.toArray) (va_runS S hM cw ⟨fun a U g mk q => ⟨q.1, q.2.1, hmv U (U.calling g mk a) (Vm.Alike.refl U.vm) rfl q.2.2⟩, fun U hU hWm => ⟨rfl, hU, hK U hU hWm.alike⟩⟩ rfl hn hsize hst (lv_room (pc := pc) (ls := ls) (rest := st0) (m := m) hW) hdg hf) kk
/-- Math.max, min, abs over these numbers -/
theorem z_mmax {p : Program} {l : Launch} {e : Env} {R : Room} {s : State} {m : MethodId} {args : Array Value} {below : List Frame} {meth : Method} {c : Code} {H : Heap} {locs : List Loc} {cells slots : Nat} {Q : State → Prop} {cc : ByteArray} {pc : Nat} {ls : Array Slot} {rest : List Value} {Ts : List Cond} (hexec : p.tables.exec = Jvm.exec) (hb : c.code = cc) (hml : c.maxLocals = ls.size) {own : String} {index : Nat} (hts : ∀ w ∈ Ts, w.before args s = true) (hown : s.vm.findClass own = some m.cls) (hlink : (Cond.methodLink own index Lib.Math.max.name) ∈ Ts) (hstat : (Cond.static Lib.Math.max.name) ∈ Ts) (hini : (Cond.initialized "java/lang/Math") ∈ Ts) (hcode : (Cond.code Lib.Math.max.name Lib.Math.max.code 2 (some .int)) ∈ Ts)
    (hframes : 1 ≤ R.frames) (hlocals : (rest.map fun v => v.category).sum + 13 ≤ R.locals) (hf : cells ≤ R.cells ∧ slots ≤ R.slots) {x y : Int} (h : (-2147483648 ≤ x ∧ x < 2147483648) ∧ (-2147483648 ≤ y ∧ y < 2147483648)) (hdg : decode cc pc = .ok (.invokestatic index, 3))
    (kk : W p l e R s m args below meth c H locs cells slots Q (F0 m (pc + 3) ls (.int (zI (max x y)) :: rest))) : W p l e R s m args below meth c H locs cells slots Q (F0 m pc ls (.int (zI y) :: .int (zI x) :: rest)) := by
  refine va_mmax hexec hb hml hown (hts _ hlink) (hts _ hstat) (hts _ hini) (hts _ hcode) hframes hlocals hf.1 hf.2 hdg ?_
  rw [show (if zI x < zI y then zI y else zI x) = zI (max x y) by
    by_cases hc : x < y
    · rw [if_pos ((zI_lt h).mpr hc), Int.max_eq_right (by omega)]
    · rw [if_neg (fun q => hc ((zI_lt h).mp q)), Int.max_eq_left (by omega)]]
  exact kk
theorem z_mmin {p : Program} {l : Launch} {e : Env} {R : Room} {s : State} {m : MethodId} {args : Array Value} {below : List Frame} {meth : Method} {c : Code} {H : Heap} {locs : List Loc} {cells slots : Nat} {Q : State → Prop} {cc : ByteArray} {pc : Nat} {ls : Array Slot} {rest : List Value} {Ts : List Cond} (hexec : p.tables.exec = Jvm.exec) (hb : c.code = cc) (hml : c.maxLocals = ls.size) {own : String} {index : Nat} (hts : ∀ w ∈ Ts, w.before args s = true) (hown : s.vm.findClass own = some m.cls) (hlink : (Cond.methodLink own index Lib.Math.min.name) ∈ Ts) (hstat : (Cond.static Lib.Math.min.name) ∈ Ts) (hini : (Cond.initialized "java/lang/Math") ∈ Ts) (hcode : (Cond.code Lib.Math.min.name Lib.Math.min.code 2 (some .int)) ∈ Ts)
    (hframes : 1 ≤ R.frames) (hlocals : (rest.map fun v => v.category).sum + 13 ≤ R.locals) (hf : cells ≤ R.cells ∧ slots ≤ R.slots) {x y : Int} (h : (-2147483648 ≤ x ∧ x < 2147483648) ∧ (-2147483648 ≤ y ∧ y < 2147483648)) (hdg : decode cc pc = .ok (.invokestatic index, 3))
    (kk : W p l e R s m args below meth c H locs cells slots Q (F0 m (pc + 3) ls (.int (zI (min x y)) :: rest))) : W p l e R s m args below meth c H locs cells slots Q (F0 m pc ls (.int (zI y) :: .int (zI x) :: rest)) := by
  refine va_mmin hexec hb hml hown (hts _ hlink) (hts _ hstat) (hts _ hini) (hts _ hcode) hframes hlocals hf.1 hf.2 hdg ?_
  rw [show (if zI y < zI x then zI y else zI x) = zI (min x y) by
    by_cases hc : y < x
    · rw [if_pos ((zI_lt ⟨h.2, h.1⟩).mpr hc), Int.min_eq_right (by omega)]
    · rw [if_neg (fun q => hc ((zI_lt ⟨h.2, h.1⟩).mp q)), Int.min_eq_left (by omega)]]
  exact kk
/-- the magnitude -/
def zAb (x : Int) : Int := if 0 ≤ x then x else -x
theorem z_mabs {p : Program} {l : Launch} {e : Env} {R : Room} {s : State} {m : MethodId} {args : Array Value} {below : List Frame} {meth : Method} {c : Code} {H : Heap} {locs : List Loc} {cells slots : Nat} {Q : State → Prop} {cc : ByteArray} {pc : Nat} {ls : Array Slot} {rest : List Value} {Ts : List Cond} (hexec : p.tables.exec = Jvm.exec) (hb : c.code = cc) (hml : c.maxLocals = ls.size) {own : String} {index : Nat} (hts : ∀ w ∈ Ts, w.before args s = true) (hown : s.vm.findClass own = some m.cls) (hlink : (Cond.methodLink own index Lib.Math.abs.name) ∈ Ts) (hstat : (Cond.static Lib.Math.abs.name) ∈ Ts) (hini : (Cond.initialized "java/lang/Math") ∈ Ts) (hcode : (Cond.code Lib.Math.abs.name Lib.Math.abs.code 1 (some .int)) ∈ Ts)
    (hframes : 1 ≤ R.frames) (hlocals : (rest.map fun v => v.category).sum + 13 ≤ R.locals) (hf : cells ≤ R.cells ∧ slots ≤ R.slots) {x : Int} (h : (-2147483648 ≤ x ∧ x < 2147483648)) (hdg : decode cc pc = .ok (.invokestatic index, 3))
    (kk : W p l e R s m args below meth c H locs cells slots Q (F0 m (pc + 3) ls (.int (zI (zAb x)) :: rest))) : W p l e R s m args below meth c H locs cells slots Q (F0 m pc ls (.int (zI x) :: rest)) := by
  refine va_mabs hexec hb hml hown (hts _ hlink) (hts _ hstat) (hts _ hini) (hts _ hcode) hframes hlocals hf.1 hf.2 hdg ?_
  rw [show (if 0 ≤ zI x then zI x else 0 - zI x) = zI (zAb x) by
    have h0 : (0 : Int32) ≤ zI x ↔ 0 ≤ x := by rw [zI_0]; exact zI_le ⟨⟨by decide, by decide⟩, h⟩
    unfold zAb
    by_cases hc : 0 ≤ x
    · rw [if_pos (h0.mpr hc), if_pos hc]
    · rw [if_neg (fun q => hc (h0.mp q)), if_neg hc, zI_0, zI_sub, Int.zero_sub]]
  exact kk
/-- the goal's head gets a name (for loops and joins) -/
theorem z_cap {p : Program} {l : Launch} {e : Env} {R : Room} {s : State} {m : MethodId} {args : Array Value} {below : List Frame} {meth : Method} {c : Code} {H : Heap} {locs : List Loc} {cells slots : Nat} {Q : State → Prop} {g : JFrame}
    (k : ∀ WW : Heap → List Loc → Nat → Nat → JFrame → Prop, (∀ H1 locs1 cells1 slots1 g1, W p l e R s m args below meth c H1 locs1 cells1 slots1 Q g1 → WW H1 locs1 cells1 slots1 g1) → (∀ H1 locs1 cells1 slots1 g1, WW H1 locs1 cells1 slots1 g1 → W p l e R s m args below meth c H1 locs1 cells1 slots1 Q g1) → W p l e R s m args below meth c H locs cells slots Q g) : W p l e R s m args below meth c H locs cells slots Q g :=
  k (fun H1 locs1 cells1 slots1 g1 => W p l e R s m args below meth c H1 locs1 cells1 slots1 Q g1) (fun _ _ _ _ _ h => h) (fun _ _ _ _ _ h => h)
theorem z_eq {a b : Int} (h : a = b) : Value.int (zI a) = Value.int (zI b) := by rw [h]
theorem zArr_ext {cI : ClassId} {N : Nat} {f g : Nat → Value} (h : ∀ j, j < N → f j = g j) : arrV cI N f = arrV cI N g := by
  have e : (fun j : Fin N => f j.val) = fun j : Fin N => g j.val := funext fun j => h j.val j.isLt
  unfold arrV
  rw [e]
theorem zI_shr {a k : Int} {n : Nat} (h : 0 ≤ a ∧ a < 2147483648) (hk : k = n ∧ n < 31) : zI a >>> (zI k &&& 31) = zI (a / 2 ^ n) := by
  obtain ⟨rfl, hn⟩ := hk
  obtain ⟨q, rfl⟩ := Int.eq_ofNat_of_zero_le h.1
  rw [show zI (q : Int) = nI q from (zI_nat q).symm, show zI ((n : Nat) : Int) = nI n from (zI_nat n).symm]
  rw [pk_shrN (k := n) (by omega) (nI n &&& 31) ?_]
  · rw [show nI (q / 2 ^ n) = zI ((q / 2 ^ n : Nat) : Int) from zI_nat _]
    congr 1
  · have : ∀ n, n < 31 → ((nI n &&& 31).toBitVec.smod 32).toNat = n := by decide +kernel
    exact this n hn
end
section
/-! SPEC: the state is a table of numbers; its rows are named by the reference's fields:
 1 now, 2 depth, 3 rise, 4 tugs, 5 ships, 6 draught, 7 tons, 8 takes, 9 needs, 10 owes, 11 pilots, 12 licence, 13 rate, 14 conferences, 15 ship, 16 wish, 17 in, 18 pilot, 19 state, 20 slot, 21 moved;
 30 moves of a pilot that are done, 31 their minutes -/
abbrev zT : Type := Nat → Int → Int
def zup (σ : zT) (t : Nat) (i v : Int) : zT := fun t' i' => if t' = t ∧ i' = i then v else σ t' i'
theorem zup_s (σ : zT) (t : Nat) (i v : Int) : zup σ t i v t i = v := if_pos ⟨rfl, rfl⟩
theorem zup_t {σ : zT} {t t' : Nat} {i i' v : Int} (h : t' ≠ t) : zup σ t i v t' i' = σ t' i' := if_neg (fun q => h q.1)
theorem zup_i {σ : zT} {t t' : Nat} {i i' v : Int} (h : i' ≠ i) : zup σ t i v t' i' = σ t' i' := if_neg (fun q => h q.2)
theorem zup_e {σ : zT} {t : Nat} {i v : Int} {t' : Nat} {i' : Int} : zup σ t i v t' i' = if t' = t ∧ i' = i then v else σ t' i' := rfl
/-- what each number may be -/
def zR0 (σ : zT) : Prop := (0 ≤ σ 1 0 ∧ σ 1 0 ≤ 20000) ∧ (10 ≤ σ 2 0 ∧ σ 2 0 ≤ 300) ∧ (0 ≤ σ 3 0 ∧ σ 3 0 ≤ 200) ∧ (0 ≤ σ 4 0 ∧ σ 4 0 ≤ 6) ∧ (0 ≤ σ 5 0 ∧ σ 5 0 ≤ 12) ∧ (0 ≤ σ 11 0 ∧ σ 11 0 ≤ 8) ∧ (0 ≤ σ 14 0 ∧ σ 14 0 ≤ 40)
def zRs (σ : zT) (i : Int) : Prop := (1 ≤ σ 6 i ∧ σ 6 i ≤ 400) ∧ (1 ≤ σ 7 i ∧ σ 7 i ≤ 9999) ∧ (10 ≤ σ 8 i ∧ σ 8 i ≤ 120) ∧ (0 ≤ σ 9 i ∧ σ 9 i ≤ 3)
def zRp (σ : zT) (i : Int) : Prop := (1 ≤ σ 12 i ∧ σ 12 i ≤ 9999) ∧ (1 ≤ σ 13 i ∧ σ 13 i ≤ 50)
def zRc (σ : zT) (i : Int) : Prop := (0 ≤ σ 15 i ∧ σ 15 i < σ 5 0) ∧ (0 ≤ σ 16 i ∧ σ 16 i ≤ 20000) ∧ (0 ≤ σ 17 i ∧ σ 17 i ≤ 7) ∧ (-1 ≤ σ 18 i ∧ σ 18 i < σ 11 0) ∧ (0 ≤ σ 19 i ∧ σ 19 i ≤ 4) ∧ (-1 ≤ σ 20 i ∧ σ 20 i ≤ 21440) ∧ (2 ≤ σ 19 i ↔ 0 ≤ σ 20 i)
def zInv (σ : zT) : Prop := zR0 σ ∧ (∀ i, 0 ≤ i → i < σ 5 0 → zRs σ i) ∧ (∀ i, 0 ≤ i → i < σ 11 0 → zRp σ i) ∧ (∀ i, 0 ≤ i → i < σ 14 0 → zRc σ i)
theorem zInv.s {σ : zT} (h : zInv σ) {i : Int} (h1 : 0 ≤ i ∧ i < σ 5 0) : (1 ≤ σ 6 i ∧ σ 6 i ≤ 400) ∧ (1 ≤ σ 7 i ∧ σ 7 i ≤ 9999) ∧ (10 ≤ σ 8 i ∧ σ 8 i ≤ 120) ∧ (0 ≤ σ 9 i ∧ σ 9 i ≤ 3) := h.2.1 i h1.1 h1.2
theorem zInv.p {σ : zT} (h : zInv σ) {i : Int} (h1 : 0 ≤ i ∧ i < σ 11 0) : (1 ≤ σ 12 i ∧ σ 12 i ≤ 9999) ∧ (1 ≤ σ 13 i ∧ σ 13 i ≤ 50) := h.2.2.1 i h1.1 h1.2
theorem zInv.c {σ : zT} (h : zInv σ) {i : Int} (h1 : 0 ≤ i ∧ i < σ 14 0) : (0 ≤ σ 15 i ∧ σ 15 i < σ 5 0) ∧ (0 ≤ σ 16 i ∧ σ 16 i ≤ 20000) ∧ (0 ≤ σ 17 i ∧ σ 17 i ≤ 7) ∧ (-1 ≤ σ 18 i ∧ σ 18 i < σ 11 0) ∧ (0 ≤ σ 19 i ∧ σ 19 i ≤ 4) ∧ (-1 ≤ σ 20 i ∧ σ 20 i ≤ 21440) ∧ (2 ≤ σ 19 i ↔ 0 ≤ σ 20 i) := h.2.2.2 i h1.1 h1.2
theorem zInv.r {σ : zT} (h : zInv σ) : (0 ≤ σ 1 0 ∧ σ 1 0 ≤ 20000) ∧ (10 ≤ σ 2 0 ∧ σ 2 0 ≤ 300) ∧ (0 ≤ σ 3 0 ∧ σ 3 0 ≤ 200) ∧ (0 ≤ σ 4 0 ∧ σ 4 0 ≤ 6) ∧ (0 ≤ σ 5 0 ∧ σ 5 0 ≤ 12) ∧ (0 ≤ σ 11 0 ∧ σ 11 0 ≤ 8) ∧ (0 ≤ σ 14 0 ∧ σ 14 0 ≤ 40) := h.1
/-- the tide over the depth -/
def zLev (σ : zT) (t : Int) : Int := (if t % 720 < 360 then t % 720 else 720 - t % 720) * σ 3 0 / 360
def zRest (m : Int) : Int := if 60 < m then m else 60
/-- a move's end, by its slot; its ship's minutes; its ship's tugs -/
def zTk (σ : zT) (c : Int) : Int := σ 8 (σ 15 c)
def zNd (σ : zT) (c : Int) : Int := σ 9 (σ 15 c)
def zOv (σ : zT) (c : Int) : Int := σ 20 c + zTk σ c
/-- the four conditions for a move of c to begin at t -/
def zTideOk (σ : zT) (s t : Int) : Prop := ∀ m, t ≤ m → m < t + σ 8 s → σ 6 s + 10 ≤ σ 2 0 + zLev σ m
def zRestOk1 (σ : zT) (c t o : Int) : Prop := o ≠ c → 2 ≤ σ 19 o → σ 18 o = σ 18 c → zOv σ o + zRest (zTk σ o) ≤ t ∨ t + zTk σ c + zRest (zTk σ c) ≤ σ 20 o
def zRestOk (σ : zT) (c t : Int) : Prop := ∀ o, 0 ≤ o → o < σ 14 0 → zRestOk1 σ c t o
def zTug1 (σ : zT) (c m o : Int) : Int := if o ≠ c ∧ 2 ≤ σ 19 o ∧ σ 20 o ≤ m ∧ m < zOv σ o then zNd σ o else 0
/-- a sum over the first n -/
def zSum (f : Int → Int) : Nat → Int
  | 0 => 0
  | n + 1 => zSum f n + f n
def zTugs (σ : zT) (c m : Int) : Int := zSum (zTug1 σ c m) (σ 14 0).toNat
def zTugOk (σ : zT) (c t : Int) : Prop := ∀ m, t ≤ m → m < t + zTk σ c → zTugs σ c m + zNd σ c ≤ σ 4 0
def zChanOk1 (σ : zT) (c t o : Int) : Prop := o ≠ c → 2 ≤ σ 19 o → 15 ≤ t - σ 20 o ∨ 15 ≤ σ 20 o - t
def zChanOk (σ : zT) (c t : Int) : Prop := ∀ o, 0 ≤ o → o < σ 14 0 → zChanOk1 σ c t o
def zOk (σ : zT) (c t : Int) : Prop := zTideOk σ (σ 15 c) t ∧ zChanOk σ c t ∧ zRestOk σ c t ∧ zTugOk σ c t
/-- the first of n minutes from t on that does, or -1 -/
noncomputable def zSrch (P : Int → Prop) : Nat → Int → Int
  | 0, _ => -1
  | n + 1, t => @ite Int (P t) (Classical.propDecidable _) t (zSrch P n (t + 1))
noncomputable def zFind (σ : zT) (c : Int) : Int := zSrch (zOk σ c) 1441 (if σ 1 0 < σ 16 c then σ 16 c else σ 1 0)
/-- a conference looks for a slot -/
noncomputable def zLook (σ : zT) (c : Int) : zT := zup (zup σ 20 c (zFind σ c)) 19 c (if zFind σ c = -1 then 1 else if zFind σ c = σ 1 0 then 3 else 2)
theorem zSum_s (f : Int → Int) (n : Nat) : zSum f (n + 1) = zSum f n + f n := rfl
theorem zSum_le {f g : Int → Int} : ∀ {n : Nat}, (∀ k : Int, 0 ≤ k → k < n → f k ≤ g k) → zSum f n ≤ zSum g n
  | 0, _ => Int.le_refl _
  | n + 1, h => by
    have h1 := zSum_le (n := n) (fun k a b => h k a (by omega))
    have h2 := h n (by omega) (by omega)
    rw [zSum_s, zSum_s]; omega
theorem zSum_eq {f g : Int → Int} : ∀ {n : Nat}, (∀ k : Int, 0 ≤ k → k < n → f k = g k) → zSum f n = zSum g n
  | 0, _ => rfl
  | n + 1, h => by rw [zSum_s, zSum_s, zSum_eq (n := n) (fun k a b => h k a (by omega)), h n (by omega) (by omega)]
theorem zSum_rng {f : Int → Int} {c : Int} : ∀ {n : Nat}, (∀ k : Int, 0 ≤ k → k < n → 0 ≤ f k ∧ f k ≤ c) → 0 ≤ zSum f n ∧ zSum f n ≤ n * c
  | 0, _ => by simp [zSum]
  | n + 1, h => by
    have h1 := zSum_rng (n := n) (fun k a b => h k a (by omega))
    have h2 := h n (by omega) (by omega)
    rw [zSum_s]
    have h3 : ((n + 1 : Nat) : Int) * c = n * c + c := by
      rw [Int.natCast_add, Int.add_mul]; simp
    rw [h3]; omega
/-- a sum one further, at an integer place -/
theorem zSum_i (f : Int → Int) {i : Int} (h : 0 ≤ i) : zSum f (i + 1).toNat = zSum f i.toNat + f i := by
  have h1 : (i + 1).toNat = i.toNat + 1 := by omega
  rw [h1, zSum_s, show ((i.toNat : Nat) : Int) = i by omega]
theorem zSum_0 (f : Int → Int) : zSum f (0 : Int).toNat = 0 := rfl
end
section
/-! the REFERENCE's cells: one object, thirteen rows of numbers -/
def isA (t : Nat) : Bool := match t with
  | 6 => true | 7 => true | 8 => true | 9 => true | 10 => true | 12 => true | 13 => true | 15 => true | 16 => true | 17 => true | 18 => true | 19 => true | 20 => true
  | _ => false
def aL (t : Nat) : Nat := match t with
  | 6 => 12 | 7 => 12 | 8 => 12 | 9 => 12 | 10 => 12 | 12 => 8 | 13 => 8
  | _ => 40
abbrev zTy (cI cO cL : ClassId) : List (ClassId × FieldType) := [(cI, .int), (cO, .object "java/lang/Object"), (cL, .long)]
abbrev zKK (D : va_G) (cI cO cL : ClassId) (U : State) : Prop := va_K D vwCl (zTy cI cO cL) U
theorem zKK_mv (D : va_G) (cI cO cL : ClassId) : zMove (zKK D cI cO cL) := fun _ _ h _ k => va_K.moved h k
abbrev mfs (ma : Nat → Nat) (σ : zT) : List Value := [.int (zI (σ 0 0)), .int (zI (σ 1 0)), .int (zI (σ 2 0)), .int (zI (σ 3 0)), .int (zI (σ 4 0)), .int (zI (σ 5 0)), .ref (ma 6), .ref (ma 7), .ref (ma 8), .ref (ma 9), .ref (ma 10), .int (zI (σ 11 0)), .ref (ma 12), .ref (ma 13), .int (zI (σ 14 0)), .ref (ma 15), .ref (ma 16), .ref (ma 17), .ref (ma 18), .ref (ma 19), .ref (ma 20), .int (zI (σ 21 0))]
def RM (D : va_G) (cI : ClassId) (b : Nat) (ma : Nat → Nat) (σ : zT) (H : Heap) : Prop :=
  va_at D vwCl (b, .inr (6, mfs ma σ)) H ∧ ∀ t, isA t = true → va_at D vwCl (ma t, .inl (cI, aL t, .inl (fun j => zI (σ t j)))) H
/-- its addresses are apart -/
def MA (b : Nat) (ma : Nat → Nat) : Prop := (∀ t, isA t = true → ma t ≠ b) ∧ ∀ t u, isA t = true → isA u = true → ma t = ma u → t = u
def AM (b : Nat) (ma : Nat → Nat) : Nat → Prop := fun q => q = b ∨ ∃ t, isA t = true ∧ q = ma t
theorem RM.kept {D : va_G} {cI : ClassId} {b : Nat} {ma : Nat → Nat} {σ : zT} {H H1 : Heap} (h : RM D cI b ma σ H) (hq : ∀ q, AM b ma q → H1[q]? = H[q]?) : RM D cI b ma σ H1 :=
  ⟨h.1.kept (hq b (Or.inl rfl)), fun t ht => (h.2 t ht).kept (hq _ (Or.inr ⟨t, ht, rfl⟩))⟩
/-- it speaks of the rows' own places alone -/
theorem RM.to {D : va_G} {cI : ClassId} {b : Nat} {ma : Nat → Nat} {σ σ' : zT} {H : Heap} (h : RM D cI b ma σ H) (h1 : mfs ma σ = mfs ma σ') (h2 : ∀ t, isA t = true → ∀ j : Int, 0 ≤ j → j < aL t → σ t j = σ' t j) : RM D cI b ma σ' H := by
  refine ⟨by rw [← h1]; exact h.1, fun t ht => ?_⟩
  have h3 := h.2 t ht
  show H[ma t]? = some (vp_cell _ _)
  rw [show H[ma t]? = some (vp_cell cI (aL t, .inl (fun j => zI (σ t j)))) from h3, vp_cell_i, vp_cell_i]
  congr 1
  exact zArr_ext (fun j hj => by rw [h2 t ht j (by omega) (by omega)])
section ZM
variable {p : Program} {l : Launch} {e : Env} {R : Room} {s : State} {m : MethodId} {args : Array Value} {below : List Frame} {meth : Method} {c : Code} {H : Heap} {locs : List Loc} {cells slots : Nat} {Q : State → Prop}
variable {cc : ByteArray} {pc : Nat} {ls : Array Slot} {rest : List Value} {D : va_G} {cI cO cL : ClassId} {b : Nat} {ma : Nat → Nat} {σ : zT} {H0 : Heap} {Ts : List Cond}
theorem m_get (hexec : p.tables.exec = Jvm.exec) (hb : c.code = cc) (hts : ∀ w ∈ Ts, w.before args s = true) (hin : ∀ w ∈ wsX50, w ∈ Ts) (hown : s.vm.findClass RX5 = some m.cls) (hK : zKK D cI cO cL s) (hR : RM D cI b ma σ H) (t : Nat) (ht : t < 22) {index : Nat} (hlink : (Cond.fieldLink RX5 index "HarbourPilotlineModel" (TX5 t).2.1 (TX5 t).2.2.1) ∈ Ts) (hsame : (TX5 t).1 = "HarbourPilotlineModel") {v : Value} (hv : (mfs ma σ)[t]? = some v) (hdg : decode cc pc = .ok (.getfield index, 3))
    (kk : W p l e R s m args below meth c H locs cells slots Q (F0 m (pc + 3) ls (v :: rest))) : W p l e R s m args below meth c H locs cells slots Q (F0 m pc ls (.ref b :: rest)) :=
  z_get hexec hb hts hin hown hK hR.1 rfl t ht hlink hsame hv hdg kk
theorem m_ald (hexec : p.tables.exec = Jvm.exec) (hb : c.code = cc) (hK : zKK D cI cO cL s) (hR : RM D cI b ma σ H) (t : Nat) (ht : isA t = true) {i : Int} (h : 0 ≤ i ∧ i < aL t) (hdg : decode cc pc = .ok (.iaload, 1))
    (kk : W p l e R s m args below meth c H locs cells slots Q (F0 m (pc + 1) ls (.int (zI (σ t i)) :: rest))) : W p l e R s m args below meth c H locs cells slots Q (F0 m pc ls (.int (zI i) :: .ref (ma t) :: rest)) := by
  have hl : aL t ≤ 40 := by unfold aL; split <;> omega
  refine z_iald hexec hb hK 0 (hR.2 t ht) rfl (by omega) hdg ?_
  rw [show ((i.toNat : Nat) : Int) = i by omega]
  exact kk
theorem m_ast (hexec : p.tables.exec = Jvm.exec) (hb : c.code = cc) (hK : zKK D cI cO cL s) (hR : RM D cI b ma σ H) (hM : MA b ma) (hS : va_S (AM b ma) H0 H locs) (t : Nat) (ht : isA t = true) {i v : Int} (h : 0 ≤ i ∧ i < aL t) (hdg : decode cc pc = .ok (.iastore, 1))
    (kk : ∀ (H1 : Heap) (locs1 : List Loc), RM D cI b ma (zup σ t i v) H1 → H1.size = H.size → va_S (AM b ma) H0 H1 locs1 → W p l e R s m args below meth c H1 locs1 cells slots Q (F0 m (pc + 1) ls rest)) : W p l e R s m args below meth c H locs cells slots Q (F0 m pc ls (.int (zI v) :: .int (zI i) :: .ref (ma t) :: rest)) := by
  have hl : aL t ≤ 40 := by unfold aL; split <;> omega
  refine z_iast hexec hb hK 0 (hR.2 t ht) rfl (Or.inr ⟨t, ht, rfl⟩) hS (by omega) hdg (fun H1 locs1 ha hz hq hS1 => kk H1 locs1 ⟨?_, fun u hu => ?_⟩ hz hS1)
  · have e : mfs ma (zup σ t i v) = mfs ma σ := by
      have hne : ∀ k, isA k = false → ∀ j, zup σ t i v k j = σ k j := fun k hk j => zup_t (fun q => by rw [q, ht] at hk; cases hk)
      simp only [mfs, hne 0 rfl, hne 1 rfl, hne 2 rfl, hne 3 rfl, hne 4 rfl, hne 5 rfl, hne 11 rfl, hne 14 rfl, hne 21 rfl]
    rw [e]
    exact hR.1.kept (hq b (fun q => hM.1 t ht q.symm))
  · by_cases hut : u = t
    · subst hut
      have e : (fun j : Nat => zI (zup σ u i v u (j : Int))) = upd (fun j : Nat => zI (σ u (j : Int))) i.toNat (zI v) := by
        funext j
        by_cases hj : j = i.toNat
        · rw [hj, show ((i.toNat : Nat) : Int) = i by omega, zup_s]; simp [upd]
        · rw [zup_i (by omega)]; simp [upd, hj]
      rw [e]
      exact ha
    · have e : (fun j : Nat => zI (zup σ t i v u (j : Int))) = (fun j : Nat => zI (σ u (j : Int))) := by
        funext j
        rw [zup_t hut]
      rw [e]
      exact (hR.2 u hu).kept (hq _ (fun q => hut (hM.2 u t hu ht q)))
theorem m_put (hexec : p.tables.exec = Jvm.exec) (hb : c.code = cc) (hts : ∀ w ∈ Ts, w.before args s = true) (hin : ∀ w ∈ wsX50, w ∈ Ts) (hown : s.vm.findClass RX5 = some m.cls) (hK : zKK D cI cO cL s) (hR : RM D cI b ma σ H) (hM : MA b ma) (hS : va_S (AM b ma) H0 H locs) (t : Nat) (ht : t < 22) (hta : isA t = false) {index : Nat} (hlink : (Cond.fieldLink RX5 index "HarbourPilotlineModel" (TX5 t).2.1 (TX5 t).2.2.1) ∈ Ts) (hsame : (TX5 t).1 = "HarbourPilotlineModel") (hfin : (TX5 t).2.2.2 = false) {v : Int} (hty : tyX5 t = .int) (hset : (mfs ma σ).set t (.int (zI v)) = mfs ma (zup σ t 0 v)) (hdg : decode cc pc = .ok (.putfield index, 3))
    (kk : ∀ (H1 : Heap) (locs1 : List Loc), RM D cI b ma (zup σ t 0 v) H1 → H1.size = H.size → va_S (AM b ma) H0 H1 locs1 → W p l e R s m args below meth c H1 locs1 cells slots Q (F0 m (pc + 3) ls rest)) : W p l e R s m args below meth c H locs cells slots Q (F0 m pc ls (.int (zI v) :: .ref b :: rest)) := by
  refine z_put hexec hb hts hin tyX5 tyX5_ok nmX5 hown hK hR.1 (Or.inl rfl) hS rfl t ht hlink hsame hfin (by rw [hty]; rfl) (by rw [hty]; rfl) (show t < 22 from ht) hdg (fun H1 locs1 ha hz hq hS1 => kk H1 locs1 ⟨by rw [← hset]; exact ha, fun u hu => ?_⟩ hz hS1)
  have e : (fun j : Nat => zI (zup σ t 0 v u (j : Int))) = (fun j : Nat => zI (σ u (j : Int))) := by
    funext j
    rw [zup_t (fun q => by rw [q, hta] at hu; cases hu)]
  rw [e]
  exact (hR.2 u hu).kept (hq _ (hM.1 u hu))
theorem m_recv (hK : zKK D cI cO cL s) (hR : RM D cI b ma σ H) : ∃ cellB : Cell, H[b]? = some cellB ∧ cellB.vm.isStatics = false ∧ s.vm.findClass RX5 = some cellB.cls := z_recv hK hR.1 rfl
end ZM
/-- a writer of the reference: its answer, the new table, nothing else -/
def zWM (l : Launch) (y : MethodName) (ws : List Cond) (rm : Room) (D : va_G) (cI cO cL : ClassId) (b : Nat) (ma : Nat → Nat) (av : List Value) (H0 : Heap) (post : Option Value → zT → Prop) : Prop :=
  Met l y ws rm (va_Pc av (fun U => U.heap = H0 ∧ zKK D cI cO cL U)) (fun _ st o t => (∃ r σ', o = .returned r ∧ post r σ' ∧ RM D cI b ma σ' t.heap) ∧ t.heap.size = st.heap.size ∧ ∀ q : Nat, q < st.heap.size → ¬ AM b ma q → t.heap[q]? = st.heap[q]?) 0 0 (AM b ma)
theorem z_endM {D : va_G} {cI : ClassId} {b : Nat} {ma : Nat → Nat} {s : State} {H : Heap} {locs : List Loc} {σ' : zT} {post : Option Value → zT → Prop} {v : Option Value} (h : post v σ') (hR : RM D cI b ma σ' H) (hz : H.size = s.heap.size) (hS : va_S (AM b ma) s.heap H locs) : ∀ t : State, t.heap = H → s.WarmedH t.vm → (∃ r σ', Outcome.returned v = .returned r ∧ post r σ' ∧ RM D cI b ma σ' t.heap) ∧ t.heap.size = s.heap.size ∧ ∀ q : Nat, q < s.heap.size → ¬ AM b ma q → t.heap[q]? = s.heap[q]? :=
  fun t ht _ => ⟨⟨v, σ', rfl, h, by rw [ht]; exact hR⟩, by rw [ht]; exact hz, fun q h1 h2 => by rw [ht]; exact hS.2.1 q h1 h2⟩
/-- a call of such a writer -/
theorem z_wm {l : Launch} {p : Program} {e : Env} {R : Room} {s : State} {m : MethodId} {args : Array Value} {below : List Frame} {meth : Method} {c : Code} {H H0 : Heap} {locs : List Loc} {cells slots : Nat} {Q : State → Prop} {cc bytes : ByteArray} {pc nL maxL index n : Nat} {ls : Array Slot} {st0 rest As : List Value} {y : MethodName} {ret : Option FieldType} {ws : List Cond} {rm : Room} {Ts : List Cond} {own C : String} {D : va_G} {cI cO cL : ClassId} {b : Nat} {ma : Nat → Nat} {post : Option Value → zT → Prop}
    (S : CallFix p m c cc nL s args Ts own) (hM : zWM l y ws rm D cI cO cL b ma (.ref b :: As) H post) (cw : CallW R s args own C index y bytes maxL ret ws rm 0 0 n) (hK : zKK D cI cO cL s) (hS : va_S (AM b ma) H0 H locs) (hr : ∃ cellB : Cell, H[b]? = some cellB ∧ cellB.vm.isStatics = false ∧ s.vm.findClass C = some cellB.cls)
    (hn : As.length = n) (hsize : ls.size = nL) (hst : st0 = As.reverse ++ .ref b :: rest) (hW : (rest.map fun v => v.category).sum ≤ 8) (hdg : decode cc pc = .ok (.invokevirtual index, 3)) (hf : cells ≤ R.cells ∧ slots ≤ R.slots)
    (kk : ∀ (r : Option Value) (σ' : zT) (H1 : Heap) (locs1 : List Loc), post r σ' → RM D cI b ma σ' H1 → H1.size = H.size → va_S (AM b ma) H0 H1 locs1 → W p l e R s m args below meth c H1 locs1 cells slots Q (F0 m (pc + 3) ls (r.toList ++ rest))) : W p l e R s m args below meth c H locs cells slots Q (F0 m pc ls st0) := by
  refine z_run (va_runV S hM cw ⟨fun a U g mk q => ⟨q.1, q.2.1, va_K.moved (u := U) (U := U.calling g mk a) (Vm.Alike.refl U.vm) q.2.2⟩, hr, fun U hU hWm => ⟨rfl, hU, va_K.moved hWm.alike hK⟩⟩ rfl hn hsize hst (lv_room (pc := pc) (ls := ls) (rest := st0) (m := m) hW) hdg hf) (fun v st₀ t H1 L h0 h1 hv hq hL => ?_)
  obtain ⟨⟨r, σ', hr1, hp, hRM⟩, hz, hk⟩ := hq
  cases hr1
  rw [h0] at hz hk
  rw [h1] at hRM hz hk
  refine kk v σ' H1 (locs ++ L) hp hRM hz ⟨by rw [hz]; exact hS.1, fun q h3 h4 => ?_, fun q hq => ?_⟩
  · rw [hk q (Nat.lt_of_lt_of_le h3 hS.1) h4]; exact hS.2.1 q h3 h4
  · rcases List.mem_append.mp hq with h | h
    · exact hS.2.2 q h
    · exact hL q h
end
section
/-! plain facts for the walks -/
theorem zRest_r (m : Int) : 60 ≤ zRest m ∧ m ≤ zRest m ∧ (zRest m = 60 ∨ zRest m = m) := by
  unfold zRest; split <;> omega
theorem bI_all_t {P : Int → Prop} {i d : Int} (hi : 0 ≤ i) (hd : d = bI (∀ o, 0 ≤ o → o < i → P o)) (hp : P i) : d = bI (∀ o, 0 ≤ o → o < i + 1 → P o) := by
  rw [hd]
  exact bI_iff ⟨fun h o h1 h2 => if e : o = i then by rw [e]; exact hp else h o h1 (by omega), fun h o h1 h2 => h o h1 (by omega)⟩
theorem bI_all_f {P : Int → Prop} {i : Int} (hi : 0 ≤ i) (hp : ¬ P i) : 0 = bI (∀ o, 0 ≤ o → o < i + 1 → P o) := (bI_f (fun h => hp (h i hi (by omega)))).symm
theorem bI_all_d {P : Int → Prop} {i d : Int} (hd : d = bI (∀ o, 0 ≤ o → o < i → P o)) (h0 : d = 0) : 0 = bI (∀ o, 0 ≤ o → o < i + 1 → P o) := by
  rw [h0] at hd
  have h1 := bI_eq0.mp hd.symm
  exact (bI_f (fun h => h1 (fun o a b => h o a (by omega)))).symm
theorem bI_all_1 {P : Int → Prop} {i d : Int} (hi : 0 ≤ i) (hd : d = bI (∀ o, 0 ≤ o → o < i → P o)) (h0 : d ≠ 0) (hp : P i) : 1 = bI (∀ o, 0 ≤ o → o < i + 1 → P o) := by
  rw [hd] at h0
  have h1 := bI_ne0.mp h0
  exact (bI_t (fun o a b => if e : o = i then by rw [e]; exact hp else h1 o a (by omega))).symm
theorem bI_all_0 {P : Int → Prop} {i : Int} (hi : i ≤ 0) : 1 = bI (∀ o, 0 ≤ o → o < i → P o) := (bI_t (fun o a b => absurd b (by omega))).symm
/-- from a to i -/
theorem bI_from_0 {P : Int → Prop} {a i : Int} (hi : i ≤ a) : 1 = bI (∀ o, a ≤ o → o < i → P o) := (bI_t (fun o x y => absurd y (by omega))).symm
theorem bI_from_f {P : Int → Prop} {a i : Int} (hi : a ≤ i) (hp : ¬ P i) : 0 = bI (∀ o, a ≤ o → o < i + 1 → P o) := (bI_f (fun h => hp (h i hi (by omega)))).symm
theorem bI_from_1 {P : Int → Prop} {a i d : Int} (hd : d = bI (∀ o, a ≤ o → o < i → P o)) (h0 : d ≠ 0) (hp : P i) : 1 = bI (∀ o, a ≤ o → o < i + 1 → P o) := by
  rw [hd] at h0
  have h1 := bI_ne0.mp h0
  exact (bI_t (fun o x y => if e : o = i then by rw [e]; exact hp else h1 o x (by omega))).symm
theorem zTug_t {σ : zT} {k m i : Int} (h : i ≠ k ∧ 2 ≤ σ 19 i ∧ σ 20 i ≤ m ∧ m < σ 20 i + σ 8 (σ 15 i)) : zTug1 σ k m i = σ 9 (σ 15 i) := if_pos h
theorem zTug_f {σ : zT} {k m i : Int} (h : ¬ (i ≠ k ∧ 2 ≤ σ 19 i ∧ σ 20 i ≤ m ∧ m < σ 20 i + σ 8 (σ 15 i))) : zTug1 σ k m i = 0 := if_neg h
theorem zTug1_r {σ : zT} (hI : zInv σ) (k m : Int) {i : Int} (h : 0 ≤ i ∧ i < σ 14 0) : 0 ≤ zTug1 σ k m i ∧ zTug1 σ k m i ≤ 3 := by
  have f := hI.c h
  have g := hI.s (i := σ 15 i) (by omega)
  by_cases q : (i ≠ k ∧ 2 ≤ σ 19 i ∧ σ 20 i ≤ m ∧ m < σ 20 i + σ 8 (σ 15 i))
  · rw [zTug_t q]; omega
  · rw [zTug_f q]; omega
theorem zTugs_r {σ : zT} (hI : zInv σ) (k m : Int) : 0 ≤ zTugs σ k m ∧ zTugs σ k m ≤ 120 := by
  have f := hI.r
  have h := zSum_rng (f := zTug1 σ k m) (c := 3) (n := (σ 14 0).toNat) (fun j a b => zTug1_r hI k m ⟨a, by omega⟩)
  unfold zTugs
  omega
/-- the tent over 720 minutes -/
def zTent (t : Int) : Int := if t % 720 < 360 then t % 720 else 720 - t % 720
theorem zTent_r (t : Int) : 0 ≤ zTent t ∧ zTent t ≤ 360 := by unfold zTent; split <;> omega
theorem zLev_e (σ : zT) (t : Int) : zLev σ t = zTent t * σ 3 0 / 360 := rfl
theorem zLev_mono {σ : zT} (h : 0 ≤ σ 3 0) {a b : Int} (q : zTent a ≤ zTent b) : zLev σ a ≤ zLev σ b := by
  rw [zLev_e, zLev_e]
  exact Int.ediv_le_ediv (by decide) (Int.mul_le_mul_of_nonneg_right q h)
theorem zLev_r {σ : zT} (h : 0 ≤ σ 3 0 ∧ σ 3 0 ≤ 200) (t : Int) : 0 ≤ zLev σ t ∧ zLev σ t ≤ 200 := by
  have ht := zTent_r t
  rw [zLev_e]
  have h1 : 0 ≤ zTent t * σ 3 0 := Int.mul_nonneg ht.1 h.1
  have h2 : zTent t * σ 3 0 ≤ 360 * 200 := Int.mul_le_mul ht.2 h.2 h.1 (by decide)
  omega
theorem zTent_0 {t : Int} (h : t % 720 = 0) : zTent t = 0 := by unfold zTent; rw [h]; rfl
/-- over one period the tent is no lower than at its ends -/
theorem zTent_min {a m e : Int} (h1 : a ≤ m) (h2 : m ≤ e) (h : a / 720 = e / 720) : zTent a ≤ zTent m ∨ zTent e ≤ zTent m := by
  unfold zTent
  have hm : m / 720 = a / 720 := by omega
  split <;> split <;> split <;> omega
theorem zTide_a {σ : zT} (hr : 0 ≤ σ 3 0 ∧ σ 3 0 ≤ 200) {k t : Int} (ht : 1 ≤ σ 8 k) (h : t / 720 < (t + σ 8 k - 1) / 720) : zTideOk σ k t ↔ σ 6 k + 10 ≤ σ 2 0 + 0 := by
  constructor
  · intro q
    have q1 := q (720 * ((t + σ 8 k - 1) / 720)) (by omega) (by omega)
    rw [show zLev σ (720 * ((t + σ 8 k - 1) / 720)) = 0 by rw [zLev_e, zTent_0 (by omega)]; simp] at q1
    exact q1
  · intro q m _ _
    have := (zLev_r hr m).1
    omega
theorem zTide_b {σ : zT} (hr : 0 ≤ σ 3 0 ∧ σ 3 0 ≤ 200) {k t x : Int} (ht : 1 ≤ σ 8 k) (h : ¬ t / 720 < (t + σ 8 k - 1) / 720) (hx : x ≤ zLev σ t ∧ x ≤ zLev σ (t + σ 8 k - 1) ∧ (x = zLev σ t ∨ x = zLev σ (t + σ 8 k - 1))) : zTideOk σ k t ↔ σ 6 k + 10 ≤ σ 2 0 + x := by
  constructor
  · intro q
    rcases hx.2.2 with e | e
    · rw [e]; exact q t (by omega) (by omega)
    · rw [e]; exact q (t + σ 8 k - 1) (by omega) (by omega)
  · intro q m h1 h2
    rcases zTent_min (a := t) (m := m) (e := t + σ 8 k - 1) h1 (by omega) (by omega) with g | g
    · have := zLev_mono hr.1 g
      omega
    · have := zLev_mono hr.1 g
      omega
theorem zAnd1 {a : Int} (h : 0 ≤ a ∧ a < 2147483648) : zI a &&& zI 1 = zI (a % 2) := by
  obtain ⟨q, rfl⟩ := Int.eq_ofNat_of_zero_le h.1
  rw [show zI (q : Int) = nI q from (zI_nat q).symm]
  have e := pk_andN (n := q) (by omega) (m := zI 1) 1 (by decide +kernel)
  rw [e, show nI (q % 2 ^ 1) = zI ((q % 2 ^ 1 : Nat) : Int) from zI_nat _]
  congr 1
end
section
/-! the reference: its readers -/
theorem lk_X5_thrown_59 : Cond.fieldLink RX5 59 "HarbourPilotlineModel" "thrown" "I" ∈ wsX5_thrown := by decide +kernel
theorem in_X5_thrown : ∀ w ∈ wsX50, w ∈ wsX5_thrown := by decide +kernel
set_option maxRecDepth 100000 in
set_option maxHeartbeats 4000000 in
theorem c_X5_thrown (l : Launch) (D : va_G) (cI cO cL : ClassId) (b : Nat) (ma : Nat → Nat) (σ : zT) (H0 : Heap) (hR : RM D cI b ma σ H0)   : zPM l yX5_thrown wsX5_thrown ({ frames := 0, cells := 0, slots := 0, locals := 0 }) (zKK D cI cO cL) [.ref b] H0 (fun r => r = .int (zI (σ 0 0))) := by
  refine Met.ofW (cc := cX5_thrown) (maxL := 1) (ret := (some .int)) (by decide) rfl ?_
  intro p e s m args below meth c s₁ B hml hv
  obtain ⟨rfl, hH, hK⟩ := hv
  subst hH
  have hx := B.exec
  have hb := B.bytes
  have hr := B.returns
  have hts := atoms_spec (ws := wsX5_thrown) B.pre
  have hown : s.vm.findClass RX5 = some m.cls := findClass_of_methodNamed B.named
  have hlocks := B.notSynchronized
  have hl := lv_entry ([.ref b]) (n := 1) (Nat.le_of_ble_eq_true rfl)
  rw [lg_entry_eq]
  generalize (lg_sl ([.ref b]) ++ List.replicate (1 - (lg_sl ([.ref b])).length) Slot.unset).toArray = ls at hl ⊢
  have hl : lv_has ls 1 [(0, .ref b)] := hl
  refine lv_aload_n hx hb dX5_thrown_0 rfl (lv_at hl 0 rfl) ?_
  refine m_get hx hb hts in_X5_thrown hown hK hR 0 (by decide) lk_X5_thrown_59 rfl rfl dX5_thrown_1 ?_
  exact W.iret hx hb hr (z_end (post := fun r => r = .int (zI (σ 0 0))) (z_eq (a := (σ 0 0)) (b := σ 0 0) (by omega))) (fun _ h => nomatch h) dX5_thrown_4

set_option maxRecDepth 100000 in
set_option maxHeartbeats 4000000 in
theorem c_X5_in (l : Launch) (D : va_G) (cI cO cL : ClassId) (b : Nat) (ma : Nat → Nat) (σ : zT) (H0 : Heap) (hR : RM D cI b ma σ H0) (v lo hi : Int) (hv : (-2147483648 ≤ v ∧ v < 2147483648) ∧ (-2147483648 ≤ lo ∧ lo < 2147483648) ∧ (-2147483648 ≤ hi ∧ hi < 2147483648)) : zPM l yX5_in wsX5_in ({ frames := 0, cells := 0, slots := 0, locals := 0 }) (zKK D cI cO cL) [.int (zI v), .int (zI lo), .int (zI hi)] H0 (fun r => r = .int (zI (bI (lo ≤ v ∧ v ≤ hi)))) := by
  refine Met.ofW (cc := cX5_in) (maxL := 3) (ret := (some .boolean)) (by decide) rfl ?_
  intro p e s m args below meth c s₁ B hml hv
  obtain ⟨rfl, hH, hK⟩ := hv
  subst hH
  have hx := B.exec
  have hb := B.bytes
  have hr := B.returns
  have hts := atoms_spec (ws := wsX5_in) B.pre
  have hown : s.vm.findClass RX5 = some m.cls := findClass_of_methodNamed B.named
  have hlocks := B.notSynchronized
  have hl := lv_entry ([.int (zI v), .int (zI lo), .int (zI hi)]) (n := 3) (Nat.le_of_ble_eq_true rfl)
  rw [lg_entry_eq]
  generalize (lg_sl ([.int (zI v), .int (zI lo), .int (zI hi)]) ++ List.replicate (3 - (lg_sl ([.int (zI v), .int (zI lo), .int (zI hi)])).length) Slot.unset).toArray = ls at hl ⊢
  have hl : lv_has ls 3 [(0, .int (zI v)), (1, .int (zI lo)), (2, .int (zI hi))] := hl
  refine lv_iload_n hx hb dX5_in_0 rfl (lv_at hl 0 rfl) ?_
  refine lv_iload_n hx hb dX5_in_1 rfl (lv_at hl 1 rfl) ?_
  refine z_icmp_lt (tgt := 14) hx hb dX5_in_2 (by decide) (by omega) (fun c_1 => ?_) (fun c_1 => ?_)
  · refine z_iconst hx hb dX5_in_14 ?_
    exact W.zret hx hb hr rfl (z_end (post := fun r => r = .int (zI (bI (lo ≤ v ∧ v ≤ hi)))) (z_eq (a := 0) (b := bI (lo ≤ v ∧ v ≤ hi)) (bI_f (by omega)).symm)) (fun _ h => nomatch h) dX5_in_15
  · refine lv_iload_n hx hb dX5_in_5 rfl (lv_at hl 0 rfl) ?_
    refine lv_iload_n hx hb dX5_in_6 rfl (lv_at hl 2 rfl) ?_
    refine z_icmp_gt (tgt := 14) hx hb dX5_in_7 (by decide) (by omega) (fun c_2 => ?_) (fun c_2 => ?_)
    · refine z_iconst hx hb dX5_in_14 ?_
      exact W.zret hx hb hr rfl (z_end (post := fun r => r = .int (zI (bI (lo ≤ v ∧ v ≤ hi)))) (z_eq (a := 0) (b := bI (lo ≤ v ∧ v ≤ hi)) (bI_f (by omega)).symm)) (fun _ h => nomatch h) dX5_in_15
    · refine z_iconst hx hb dX5_in_10 ?_
      refine lv_goto (tgt := 15) hx hb dX5_in_11 (by decide) ?_
      exact W.zret hx hb hr rfl (z_end (post := fun r => r = .int (zI (bI (lo ≤ v ∧ v ≤ hi)))) (z_eq (a := 1) (b := bI (lo ≤ v ∧ v ≤ hi)) (bI_t (by omega)).symm)) (fun _ h => nomatch h) dX5_in_15

set_option maxRecDepth 100000 in
set_option maxHeartbeats 4000000 in
theorem c_X5_rest (l : Launch) (D : va_G) (cI cO cL : ClassId) (b : Nat) (ma : Nat → Nat) (σ : zT) (H0 : Heap) (hR : RM D cI b ma σ H0) (k : Int) (hv : (-2147483648 ≤ k ∧ k < 2147483648)) : zPM l yX5_rest wsX5_rest ({ frames := 0, cells := 0, slots := 0, locals := 0 }) (zKK D cI cO cL) [.int (zI k)] H0 (fun r => r = .int (zI (zRest k))) := by
  refine Met.ofW (cc := cX5_rest) (maxL := 1) (ret := (some .int)) (by decide) rfl ?_
  intro p e s m args below meth c s₁ B hml hv
  obtain ⟨rfl, hH, hK⟩ := hv
  subst hH
  have hx := B.exec
  have hb := B.bytes
  have hr := B.returns
  have hts := atoms_spec (ws := wsX5_rest) B.pre
  have hown : s.vm.findClass RX5 = some m.cls := findClass_of_methodNamed B.named
  have hlocks := B.notSynchronized
  have hl := lv_entry ([.int (zI k)]) (n := 1) (Nat.le_of_ble_eq_true rfl)
  rw [lg_entry_eq]
  generalize (lg_sl ([.int (zI k)]) ++ List.replicate (1 - (lg_sl ([.int (zI k)])).length) Slot.unset).toArray = ls at hl ⊢
  have hl : lv_has ls 1 [(0, .int (zI k))] := hl
  refine lv_iload_n hx hb dX5_rest_0 rfl (lv_at hl 0 rfl) ?_
  refine z_bipush hx hb dX5_rest_1 (by decide +kernel) ?_
  refine z_icmp_le (tgt := 10) hx hb dX5_rest_3 (by decide) (by omega) (fun c_1 => ?_) (fun c_1 => ?_)
  · refine z_bipush hx hb dX5_rest_10 (by decide +kernel) ?_
    exact W.iret hx hb hr (z_end (post := fun r => r = .int (zI (zRest k))) (z_eq (a := 60) (b := zRest k) (by unfold zRest; split <;> omega))) (fun _ h => nomatch h) dX5_rest_12
  · refine lv_iload_n hx hb dX5_rest_6 rfl (lv_at hl 0 rfl) ?_
    refine lv_goto (tgt := 12) hx hb dX5_rest_7 (by decide) ?_
    exact W.iret hx hb hr (z_end (post := fun r => r = .int (zI (zRest k))) (z_eq (a := k) (b := zRest k) (by unfold zRest; split <;> omega))) (fun _ h => nomatch h) dX5_rest_12

theorem lk_X5_isShip_62 : Cond.fieldLink RX5 62 "HarbourPilotlineModel" "ships" "I" ∈ wsX5_isShip := by decide +kernel
theorem in_X5_isShip : ∀ w ∈ wsX50, w ∈ wsX5_isShip := by decide +kernel
set_option maxRecDepth 100000 in
set_option maxHeartbeats 4000000 in
theorem c_X5_isShip (l : Launch) (D : va_G) (cI cO cL : ClassId) (b : Nat) (ma : Nat → Nat) (σ : zT) (H0 : Heap) (hR : RM D cI b ma σ H0) (k : Int) (hv : (-2147483648 ≤ k ∧ k < 2147483648)) (ht : 0 ≤ σ 5 0 ∧ σ 5 0 ≤ 40) : zPM l yX5_isShip wsX5_isShip ({ frames := 1, cells := 0, slots := 0, locals := 22 }) (zKK D cI cO cL) [.ref b, .int (zI k)] H0 (fun r => r = .int (zI (bI (0 ≤ k ∧ k < σ 5 0)))) := by
  refine Met.ofW (cc := cX5_isShip) (maxL := 2) (ret := (some .boolean)) (by decide) rfl ?_
  intro p e s m args below meth c s₁ B hml hv
  obtain ⟨rfl, hH, hK⟩ := hv
  subst hH
  have hx := B.exec
  have hb := B.bytes
  have hr := B.returns
  have hts := atoms_spec (ws := wsX5_isShip) B.pre
  have hown : s.vm.findClass RX5 = some m.cls := findClass_of_methodNamed B.named
  have hlocks := B.notSynchronized
  have hl := lv_entry ([.ref b, .int (zI k)]) (n := 2) (Nat.le_of_ble_eq_true rfl)
  rw [lg_entry_eq]
  generalize (lg_sl ([.ref b, .int (zI k)]) ++ List.replicate (2 - (lg_sl ([.ref b, .int (zI k)])).length) Slot.unset).toArray = ls at hl ⊢
  have hl : lv_has ls 2 [(0, .ref b), (1, .int (zI k))] := hl
  refine lv_iload_n hx hb dX5_isShip_0 rfl (lv_at hl 1 rfl) ?_
  refine z_iconst hx hb dX5_isShip_1 ?_
  refine lv_aload_n hx hb dX5_isShip_2 rfl (lv_at hl 0 rfl) ?_
  refine m_get hx hb hts in_X5_isShip hown hK hR 5 (by decide) lk_X5_isShip_62 rfl rfl dX5_isShip_3 ?_
  refine z_iconst hx hb dX5_isShip_6 ?_
  refine z_isub hx hb dX5_isShip_7 ?_
  refine z_cs (As := [.int (zI k), .int (zI 0), .int (zI ((σ 5 0) - 1))]) (rest := []) ⟨hx, hb, hml, hown, hts⟩ (c_X5_in l D cI cO cL b ma σ s.heap hR k 0 ((σ 5 0) - 1) (by omega)) (va_cwS 3 hts gX5_isShip_X5_in rfl rfl rfl (by decide +kernel) ⟨Nat.le_of_ble_eq_true rfl, Nat.le_of_ble_eq_true rfl⟩) (zKK_mv D cI cO cL) (fun U _ hv => va_K.moved hv hK) rfl hl.1 rfl (Nat.le_of_ble_eq_true rfl) dX5_isShip_8 ⟨Nat.zero_le _, Nat.zero_le _⟩ (fun r_1 hr_1 => ?_)
  rw [hr_1]
  exact W.zret hx hb hr (bI_narrow _) (z_end (post := fun r => r = .int (zI (bI (0 ≤ k ∧ k < σ 5 0)))) (z_eq (a := (bI (0 ≤ k ∧ k ≤ ((σ 5 0) - 1)))) (b := bI (0 ≤ k ∧ k < σ 5 0)) (by exact bI_iff (by omega)))) (fun _ h => nomatch h) dX5_isShip_11

theorem lk_X5_isPilot_68 : Cond.fieldLink RX5 68 "HarbourPilotlineModel" "pilots" "I" ∈ wsX5_isPilot := by decide +kernel
theorem in_X5_isPilot : ∀ w ∈ wsX50, w ∈ wsX5_isPilot := by decide +kernel
set_option maxRecDepth 100000 in
set_option maxHeartbeats 4000000 in
theorem c_X5_isPilot (l : Launch) (D : va_G) (cI cO cL : ClassId) (b : Nat) (ma : Nat → Nat) (σ : zT) (H0 : Heap) (hR : RM D cI b ma σ H0) (k : Int) (hv : (-2147483648 ≤ k ∧ k < 2147483648)) (ht : 0 ≤ σ 11 0 ∧ σ 11 0 ≤ 40) : zPM l yX5_isPilot wsX5_isPilot ({ frames := 1, cells := 0, slots := 0, locals := 22 }) (zKK D cI cO cL) [.ref b, .int (zI k)] H0 (fun r => r = .int (zI (bI (0 ≤ k ∧ k < σ 11 0)))) := by
  refine Met.ofW (cc := cX5_isPilot) (maxL := 2) (ret := (some .boolean)) (by decide) rfl ?_
  intro p e s m args below meth c s₁ B hml hv
  obtain ⟨rfl, hH, hK⟩ := hv
  subst hH
  have hx := B.exec
  have hb := B.bytes
  have hr := B.returns
  have hts := atoms_spec (ws := wsX5_isPilot) B.pre
  have hown : s.vm.findClass RX5 = some m.cls := findClass_of_methodNamed B.named
  have hlocks := B.notSynchronized
  have hl := lv_entry ([.ref b, .int (zI k)]) (n := 2) (Nat.le_of_ble_eq_true rfl)
  rw [lg_entry_eq]
  generalize (lg_sl ([.ref b, .int (zI k)]) ++ List.replicate (2 - (lg_sl ([.ref b, .int (zI k)])).length) Slot.unset).toArray = ls at hl ⊢
  have hl : lv_has ls 2 [(0, .ref b), (1, .int (zI k))] := hl
  refine lv_iload_n hx hb dX5_isPilot_0 rfl (lv_at hl 1 rfl) ?_
  refine z_iconst hx hb dX5_isPilot_1 ?_
  refine lv_aload_n hx hb dX5_isPilot_2 rfl (lv_at hl 0 rfl) ?_
  refine m_get hx hb hts in_X5_isPilot hown hK hR 11 (by decide) lk_X5_isPilot_68 rfl rfl dX5_isPilot_3 ?_
  refine z_iconst hx hb dX5_isPilot_6 ?_
  refine z_isub hx hb dX5_isPilot_7 ?_
  refine z_cs (As := [.int (zI k), .int (zI 0), .int (zI ((σ 11 0) - 1))]) (rest := []) ⟨hx, hb, hml, hown, hts⟩ (c_X5_in l D cI cO cL b ma σ s.heap hR k 0 ((σ 11 0) - 1) (by omega)) (va_cwS 3 hts gX5_isPilot_X5_in rfl rfl rfl (by decide +kernel) ⟨Nat.le_of_ble_eq_true rfl, Nat.le_of_ble_eq_true rfl⟩) (zKK_mv D cI cO cL) (fun U _ hv => va_K.moved hv hK) rfl hl.1 rfl (Nat.le_of_ble_eq_true rfl) dX5_isPilot_8 ⟨Nat.zero_le _, Nat.zero_le _⟩ (fun r_1 hr_1 => ?_)
  rw [hr_1]
  exact W.zret hx hb hr (bI_narrow _) (z_end (post := fun r => r = .int (zI (bI (0 ≤ k ∧ k < σ 11 0)))) (z_eq (a := (bI (0 ≤ k ∧ k ≤ ((σ 11 0) - 1)))) (b := bI (0 ≤ k ∧ k < σ 11 0)) (by exact bI_iff (by omega)))) (fun _ h => nomatch h) dX5_isPilot_11

theorem lk_X5_isConference_71 : Cond.fieldLink RX5 71 "HarbourPilotlineModel" "conferences" "I" ∈ wsX5_isConference := by decide +kernel
theorem in_X5_isConference : ∀ w ∈ wsX50, w ∈ wsX5_isConference := by decide +kernel
set_option maxRecDepth 100000 in
set_option maxHeartbeats 4000000 in
theorem c_X5_isConference (l : Launch) (D : va_G) (cI cO cL : ClassId) (b : Nat) (ma : Nat → Nat) (σ : zT) (H0 : Heap) (hR : RM D cI b ma σ H0) (k : Int) (hv : (-2147483648 ≤ k ∧ k < 2147483648)) (ht : 0 ≤ σ 14 0 ∧ σ 14 0 ≤ 40) : zPM l yX5_isConference wsX5_isConference ({ frames := 1, cells := 0, slots := 0, locals := 22 }) (zKK D cI cO cL) [.ref b, .int (zI k)] H0 (fun r => r = .int (zI (bI (0 ≤ k ∧ k < σ 14 0)))) := by
  refine Met.ofW (cc := cX5_isConference) (maxL := 2) (ret := (some .boolean)) (by decide) rfl ?_
  intro p e s m args below meth c s₁ B hml hv
  obtain ⟨rfl, hH, hK⟩ := hv
  subst hH
  have hx := B.exec
  have hb := B.bytes
  have hr := B.returns
  have hts := atoms_spec (ws := wsX5_isConference) B.pre
  have hown : s.vm.findClass RX5 = some m.cls := findClass_of_methodNamed B.named
  have hlocks := B.notSynchronized
  have hl := lv_entry ([.ref b, .int (zI k)]) (n := 2) (Nat.le_of_ble_eq_true rfl)
  rw [lg_entry_eq]
  generalize (lg_sl ([.ref b, .int (zI k)]) ++ List.replicate (2 - (lg_sl ([.ref b, .int (zI k)])).length) Slot.unset).toArray = ls at hl ⊢
  have hl : lv_has ls 2 [(0, .ref b), (1, .int (zI k))] := hl
  refine lv_iload_n hx hb dX5_isConference_0 rfl (lv_at hl 1 rfl) ?_
  refine z_iconst hx hb dX5_isConference_1 ?_
  refine lv_aload_n hx hb dX5_isConference_2 rfl (lv_at hl 0 rfl) ?_
  refine m_get hx hb hts in_X5_isConference hown hK hR 14 (by decide) lk_X5_isConference_71 rfl rfl dX5_isConference_3 ?_
  refine z_iconst hx hb dX5_isConference_6 ?_
  refine z_isub hx hb dX5_isConference_7 ?_
  refine z_cs (As := [.int (zI k), .int (zI 0), .int (zI ((σ 14 0) - 1))]) (rest := []) ⟨hx, hb, hml, hown, hts⟩ (c_X5_in l D cI cO cL b ma σ s.heap hR k 0 ((σ 14 0) - 1) (by omega)) (va_cwS 3 hts gX5_isConference_X5_in rfl rfl rfl (by decide +kernel) ⟨Nat.le_of_ble_eq_true rfl, Nat.le_of_ble_eq_true rfl⟩) (zKK_mv D cI cO cL) (fun U _ hv => va_K.moved hv hK) rfl hl.1 rfl (Nat.le_of_ble_eq_true rfl) dX5_isConference_8 ⟨Nat.zero_le _, Nat.zero_le _⟩ (fun r_1 hr_1 => ?_)
  rw [hr_1]
  exact W.zret hx hb hr (bI_narrow _) (z_end (post := fun r => r = .int (zI (bI (0 ≤ k ∧ k < σ 14 0)))) (z_eq (a := (bI (0 ≤ k ∧ k ≤ ((σ 14 0) - 1)))) (b := bI (0 ≤ k ∧ k < σ 14 0)) (by exact bI_iff (by omega)))) (fun _ h => nomatch h) dX5_isConference_11

theorem lk_X5_levelAt_13 : Cond.fieldLink RX5 13 "HarbourPilotlineModel" "rise" "I" ∈ wsX5_levelAt := by decide +kernel
theorem in_X5_levelAt : ∀ w ∈ wsX50, w ∈ wsX5_levelAt := by decide +kernel
set_option maxRecDepth 100000 in
set_option maxHeartbeats 4000000 in
theorem c_X5_levelAt (l : Launch) (D : va_G) (cI cO cL : ClassId) (b : Nat) (ma : Nat → Nat) (σ : zT) (H0 : Heap) (hR : RM D cI b ma σ H0) (k : Int) (hI : zInv σ) (hv : 0 ≤ k ∧ k < 1000000) : zPM l yX5_levelAt wsX5_levelAt ({ frames := 0, cells := 0, slots := 0, locals := 0 }) (zKK D cI cO cL) [.ref b, .int (zI k)] H0 (fun r => r = .int (zI (zLev σ k))) := by
  refine Met.ofW (cc := cX5_levelAt) (maxL := 3) (ret := (some .int)) (by decide) rfl ?_
  intro p e s m args below meth c s₁ B hml hv
  obtain ⟨rfl, hH, hK⟩ := hv
  subst hH
  have hx := B.exec
  have hb := B.bytes
  have hr := B.returns
  have hts := atoms_spec (ws := wsX5_levelAt) B.pre
  have hown : s.vm.findClass RX5 = some m.cls := findClass_of_methodNamed B.named
  have hlocks := B.notSynchronized
  have hl := lv_entry ([.ref b, .int (zI k)]) (n := 3) (Nat.le_of_ble_eq_true rfl)
  rw [lg_entry_eq]
  generalize (lg_sl ([.ref b, .int (zI k)]) ++ List.replicate (3 - (lg_sl ([.ref b, .int (zI k)])).length) Slot.unset).toArray = ls at hl ⊢
  have hl : lv_has ls 3 [(0, .ref b), (1, .int (zI k))] := hl
  have f0 := hI.r
  have g1 : 0 ≤ (if k % 720 < 360 then k % 720 else 720 - k % 720) * σ 3 0 ∧ (if k % 720 < 360 then k % 720 else 720 - k % 720) * σ 3 0 ≤ 72000 := ⟨Int.mul_nonneg (zTent_r k).1 f0.2.2.1.1, Int.mul_le_mul (zTent_r k).2 f0.2.2.1.2 f0.2.2.1.1 (by decide)⟩
  refine lv_iload_n hx hb dX5_levelAt_0 rfl (lv_at hl 1 rfl) ?_
  refine z_sipush hx hb dX5_levelAt_1 (by decide +kernel) ?_
  refine z_irem hx hb dX5_levelAt_4 (by omega) ?_
  refine lv_istore_n (lv' := [(2, .int (zI (k % 720))), (0, .ref b), (1, .int (zI k))]) hx hb dX5_levelAt_5 rfl hl (by decide) rfl (fun ls hl => ?_)
  refine lv_iload_n hx hb dX5_levelAt_6 rfl (lv_at hl 0 rfl) ?_
  refine z_sipush hx hb dX5_levelAt_7 (by decide +kernel) ?_
  refine z_icmp_ge (tgt := 17) hx hb dX5_levelAt_10 (by decide) (by omega) (fun c_1 => ?_) (fun c_1 => ?_)
  · refine z_sipush hx hb dX5_levelAt_17 (by decide +kernel) ?_
    refine lv_iload_n hx hb dX5_levelAt_20 rfl (lv_at hl 0 rfl) ?_
    refine z_isub hx hb dX5_levelAt_21 ?_
    refine lv_aload_n hx hb dX5_levelAt_22 rfl (lv_at hl 1 rfl) ?_
    refine m_get hx hb hts in_X5_levelAt hown hK hR 3 (by decide) lk_X5_levelAt_13 rfl rfl dX5_levelAt_23 ?_
    refine z_imul hx hb dX5_levelAt_26 ?_
    refine z_sipush hx hb dX5_levelAt_27 (by decide +kernel) ?_
    refine z_idiv hx hb dX5_levelAt_30 (by first | (rw [if_pos (by omega)] at g1; omega) | (rw [if_neg (by omega)] at g1; omega)) ?_
    exact W.iret hx hb hr (z_end (post := fun r => r = .int (zI (zLev σ k))) (z_eq (a := (((720 - (k % 720)) * (σ 3 0)) / 360)) (b := zLev σ k) (by unfold zLev; first | rw [if_pos (by omega)] | rw [if_neg (by omega)]))) (fun _ h => nomatch h) dX5_levelAt_31
  · refine lv_iload_n hx hb dX5_levelAt_13 rfl (lv_at hl 0 rfl) ?_
    refine lv_goto (tgt := 22) hx hb dX5_levelAt_14 (by decide) ?_
    refine lv_aload_n hx hb dX5_levelAt_22 rfl (lv_at hl 1 rfl) ?_
    refine m_get hx hb hts in_X5_levelAt hown hK hR 3 (by decide) lk_X5_levelAt_13 rfl rfl dX5_levelAt_23 ?_
    refine z_imul hx hb dX5_levelAt_26 ?_
    refine z_sipush hx hb dX5_levelAt_27 (by decide +kernel) ?_
    refine z_idiv hx hb dX5_levelAt_30 (by first | (rw [if_pos (by omega)] at g1; omega) | (rw [if_neg (by omega)] at g1; omega)) ?_
    exact W.iret hx hb hr (z_end (post := fun r => r = .int (zI (zLev σ k))) (z_eq (a := (((k % 720) * (σ 3 0)) / 360)) (b := zLev σ k) (by unfold zLev; first | rw [if_pos (by omega)] | rw [if_neg (by omega)]))) (fun _ h => nomatch h) dX5_levelAt_31

theorem lk_X5_over_56 : Cond.fieldLink RX5 56 "HarbourPilotlineModel" "slot" "[I" ∈ wsX5_over := by decide +kernel
theorem lk_X5_over_26 : Cond.fieldLink RX5 26 "HarbourPilotlineModel" "takes" "[I" ∈ wsX5_over := by decide +kernel
theorem lk_X5_over_41 : Cond.fieldLink RX5 41 "HarbourPilotlineModel" "ship" "[I" ∈ wsX5_over := by decide +kernel
theorem in_X5_over : ∀ w ∈ wsX50, w ∈ wsX5_over := by decide +kernel
set_option maxRecDepth 100000 in
set_option maxHeartbeats 4000000 in
theorem c_X5_over (l : Launch) (D : va_G) (cI cO cL : ClassId) (b : Nat) (ma : Nat → Nat) (σ : zT) (H0 : Heap) (hR : RM D cI b ma σ H0) (k : Int) (hI : zInv σ) (hk : 0 ≤ k ∧ k < σ 14 0) : zPM l yX5_over wsX5_over ({ frames := 0, cells := 0, slots := 0, locals := 0 }) (zKK D cI cO cL) [.ref b, .int (zI k)] H0 (fun r => r = .int (zI (σ 20 k + σ 8 (σ 15 k)))) := by
  refine Met.ofW (cc := cX5_over) (maxL := 2) (ret := (some .int)) (by decide) rfl ?_
  intro p e s m args below meth c s₁ B hml hv
  obtain ⟨rfl, hH, hK⟩ := hv
  subst hH
  have hx := B.exec
  have hb := B.bytes
  have hr := B.returns
  have hts := atoms_spec (ws := wsX5_over) B.pre
  have hown : s.vm.findClass RX5 = some m.cls := findClass_of_methodNamed B.named
  have hlocks := B.notSynchronized
  have hl := lv_entry ([.ref b, .int (zI k)]) (n := 2) (Nat.le_of_ble_eq_true rfl)
  rw [lg_entry_eq]
  generalize (lg_sl ([.ref b, .int (zI k)]) ++ List.replicate (2 - (lg_sl ([.ref b, .int (zI k)])).length) Slot.unset).toArray = ls at hl ⊢
  have hl : lv_has ls 2 [(0, .ref b), (1, .int (zI k))] := hl
  have f0 := hI.r
  have fk := hI.c hk
  have gk := hI.s (i := σ 15 k) (by omega)
  refine lv_aload_n hx hb dX5_over_0 rfl (lv_at hl 0 rfl) ?_
  refine m_get hx hb hts in_X5_over hown hK hR 20 (by decide) lk_X5_over_56 rfl rfl dX5_over_1 ?_
  refine lv_iload_n hx hb dX5_over_4 rfl (lv_at hl 1 rfl) ?_
  refine m_ald hx hb hK hR 20 rfl (by show 0 ≤ k ∧ k < ((40 : Nat) : Int); omega) dX5_over_5 ?_
  refine lv_aload_n hx hb dX5_over_6 rfl (lv_at hl 0 rfl) ?_
  refine m_get hx hb hts in_X5_over hown hK hR 8 (by decide) lk_X5_over_26 rfl rfl dX5_over_7 ?_
  refine lv_aload_n hx hb dX5_over_10 rfl (lv_at hl 0 rfl) ?_
  refine m_get hx hb hts in_X5_over hown hK hR 15 (by decide) lk_X5_over_41 rfl rfl dX5_over_11 ?_
  refine lv_iload_n hx hb dX5_over_14 rfl (lv_at hl 1 rfl) ?_
  refine m_ald hx hb hK hR 15 rfl (by show 0 ≤ k ∧ k < ((40 : Nat) : Int); omega) dX5_over_15 ?_
  refine m_ald hx hb hK hR 8 rfl (by show 0 ≤ (σ 15 k) ∧ (σ 15 k) < ((12 : Nat) : Int); omega) dX5_over_16 ?_
  refine z_iadd hx hb dX5_over_17 ?_
  exact W.iret hx hb hr (z_end (post := fun r => r = .int (zI (σ 20 k + σ 8 (σ 15 k)))) (z_eq (a := ((σ 20 k) + (σ 8 (σ 15 k)))) (b := σ 20 k + σ 8 (σ 15 k)) (by omega))) (fun _ h => nomatch h) dX5_over_18

theorem lk_X5_hasSlot_53 : Cond.fieldLink RX5 53 "HarbourPilotlineModel" "state" "[I" ∈ wsX5_hasSlot := by decide +kernel
theorem in_X5_hasSlot : ∀ w ∈ wsX50, w ∈ wsX5_hasSlot := by decide +kernel
set_option maxRecDepth 100000 in
set_option maxHeartbeats 4000000 in
theorem c_X5_hasSlot (l : Launch) (D : va_G) (cI cO cL : ClassId) (b : Nat) (ma : Nat → Nat) (σ : zT) (H0 : Heap) (hR : RM D cI b ma σ H0) (k : Int) (hI : zInv σ) (hk : 0 ≤ k ∧ k < σ 14 0) : zPM l yX5_hasSlot wsX5_hasSlot ({ frames := 0, cells := 0, slots := 0, locals := 0 }) (zKK D cI cO cL) [.ref b, .int (zI k)] H0 (fun r => r = .int (zI (bI (2 ≤ σ 19 k)))) := by
  refine Met.ofW (cc := cX5_hasSlot) (maxL := 2) (ret := (some .boolean)) (by decide) rfl ?_
  intro p e s m args below meth c s₁ B hml hv
  obtain ⟨rfl, hH, hK⟩ := hv
  subst hH
  have hx := B.exec
  have hb := B.bytes
  have hr := B.returns
  have hts := atoms_spec (ws := wsX5_hasSlot) B.pre
  have hown : s.vm.findClass RX5 = some m.cls := findClass_of_methodNamed B.named
  have hlocks := B.notSynchronized
  have hl := lv_entry ([.ref b, .int (zI k)]) (n := 2) (Nat.le_of_ble_eq_true rfl)
  rw [lg_entry_eq]
  generalize (lg_sl ([.ref b, .int (zI k)]) ++ List.replicate (2 - (lg_sl ([.ref b, .int (zI k)])).length) Slot.unset).toArray = ls at hl ⊢
  have hl : lv_has ls 2 [(0, .ref b), (1, .int (zI k))] := hl
  have f0 := hI.r
  have fk := hI.c hk
  have gk := hI.s (i := σ 15 k) (by omega)
  refine lv_aload_n hx hb dX5_hasSlot_0 rfl (lv_at hl 0 rfl) ?_
  refine m_get hx hb hts in_X5_hasSlot hown hK hR 19 (by decide) lk_X5_hasSlot_53 rfl rfl dX5_hasSlot_1 ?_
  refine lv_iload_n hx hb dX5_hasSlot_4 rfl (lv_at hl 1 rfl) ?_
  refine m_ald hx hb hK hR 19 rfl (by show 0 ≤ k ∧ k < ((40 : Nat) : Int); omega) dX5_hasSlot_5 ?_
  refine z_iconst hx hb dX5_hasSlot_6 ?_
  refine z_icmp_lt (tgt := 14) hx hb dX5_hasSlot_7 (by decide) (by omega) (fun c_1 => ?_) (fun c_1 => ?_)
  · refine z_iconst hx hb dX5_hasSlot_14 ?_
    exact W.zret hx hb hr rfl (z_end (post := fun r => r = .int (zI (bI (2 ≤ σ 19 k)))) (z_eq (a := 0) (b := bI (2 ≤ σ 19 k)) (bI_f (by omega)).symm)) (fun _ h => nomatch h) dX5_hasSlot_15
  · refine z_iconst hx hb dX5_hasSlot_10 ?_
    refine lv_goto (tgt := 15) hx hb dX5_hasSlot_11 (by decide) ?_
    exact W.zret hx hb hr rfl (z_end (post := fun r => r = .int (zI (bI (2 ≤ σ 19 k)))) (z_eq (a := 1) (b := bI (2 ≤ σ 19 k)) (bI_t (by omega)).symm)) (fun _ h => nomatch h) dX5_hasSlot_15

theorem lk_X5_billOf_26 : Cond.fieldLink RX5 26 "HarbourPilotlineModel" "takes" "[I" ∈ wsX5_billOf := by decide +kernel
theorem lk_X5_billOf_41 : Cond.fieldLink RX5 41 "HarbourPilotlineModel" "ship" "[I" ∈ wsX5_billOf := by decide +kernel
theorem lk_X5_billOf_38 : Cond.fieldLink RX5 38 "HarbourPilotlineModel" "rate" "[I" ∈ wsX5_billOf := by decide +kernel
theorem lk_X5_billOf_50 : Cond.fieldLink RX5 50 "HarbourPilotlineModel" "pilot" "[I" ∈ wsX5_billOf := by decide +kernel
theorem lk_X5_billOf_29 : Cond.fieldLink RX5 29 "HarbourPilotlineModel" "needs" "[I" ∈ wsX5_billOf := by decide +kernel
theorem in_X5_billOf : ∀ w ∈ wsX50, w ∈ wsX5_billOf := by decide +kernel
set_option maxRecDepth 100000 in
set_option maxHeartbeats 4000000 in
theorem c_X5_billOf (l : Launch) (D : va_G) (cI cO cL : ClassId) (b : Nat) (ma : Nat → Nat) (σ : zT) (H0 : Heap) (hR : RM D cI b ma σ H0) (k : Int) (hI : zInv σ) (hk : 0 ≤ k ∧ k < σ 14 0) (hq : 0 ≤ σ 18 k) : zPM l yX5_billOf wsX5_billOf ({ frames := 0, cells := 0, slots := 0, locals := 0 }) (zKK D cI cO cL) [.ref b, .int (zI k)] H0 (fun r => r = .int (zI (σ 8 (σ 15 k) * σ 13 (σ 18 k) + 100 * σ 9 (σ 15 k)))) := by
  refine Met.ofW (cc := cX5_billOf) (maxL := 2) (ret := (some .int)) (by decide) rfl ?_
  intro p e s m args below meth c s₁ B hml hv
  obtain ⟨rfl, hH, hK⟩ := hv
  subst hH
  have hx := B.exec
  have hb := B.bytes
  have hr := B.returns
  have hts := atoms_spec (ws := wsX5_billOf) B.pre
  have hown : s.vm.findClass RX5 = some m.cls := findClass_of_methodNamed B.named
  have hlocks := B.notSynchronized
  have hl := lv_entry ([.ref b, .int (zI k)]) (n := 2) (Nat.le_of_ble_eq_true rfl)
  rw [lg_entry_eq]
  generalize (lg_sl ([.ref b, .int (zI k)]) ++ List.replicate (2 - (lg_sl ([.ref b, .int (zI k)])).length) Slot.unset).toArray = ls at hl ⊢
  have hl : lv_has ls 2 [(0, .ref b), (1, .int (zI k))] := hl
  have f0 := hI.r
  have fk := hI.c hk
  have gk := hI.s (i := σ 15 k) (by omega)
  refine lv_aload_n hx hb dX5_billOf_0 rfl (lv_at hl 0 rfl) ?_
  refine m_get hx hb hts in_X5_billOf hown hK hR 8 (by decide) lk_X5_billOf_26 rfl rfl dX5_billOf_1 ?_
  refine lv_aload_n hx hb dX5_billOf_4 rfl (lv_at hl 0 rfl) ?_
  refine m_get hx hb hts in_X5_billOf hown hK hR 15 (by decide) lk_X5_billOf_41 rfl rfl dX5_billOf_5 ?_
  refine lv_iload_n hx hb dX5_billOf_8 rfl (lv_at hl 1 rfl) ?_
  refine m_ald hx hb hK hR 15 rfl (by show 0 ≤ k ∧ k < ((40 : Nat) : Int); omega) dX5_billOf_9 ?_
  refine m_ald hx hb hK hR 8 rfl (by show 0 ≤ (σ 15 k) ∧ (σ 15 k) < ((12 : Nat) : Int); omega) dX5_billOf_10 ?_
  refine lv_aload_n hx hb dX5_billOf_11 rfl (lv_at hl 0 rfl) ?_
  refine m_get hx hb hts in_X5_billOf hown hK hR 13 (by decide) lk_X5_billOf_38 rfl rfl dX5_billOf_12 ?_
  refine lv_aload_n hx hb dX5_billOf_15 rfl (lv_at hl 0 rfl) ?_
  refine m_get hx hb hts in_X5_billOf hown hK hR 18 (by decide) lk_X5_billOf_50 rfl rfl dX5_billOf_16 ?_
  refine lv_iload_n hx hb dX5_billOf_19 rfl (lv_at hl 1 rfl) ?_
  refine m_ald hx hb hK hR 18 rfl (by show 0 ≤ k ∧ k < ((40 : Nat) : Int); omega) dX5_billOf_20 ?_
  refine m_ald hx hb hK hR 13 rfl (by show 0 ≤ (σ 18 k) ∧ (σ 18 k) < ((8 : Nat) : Int); omega) dX5_billOf_21 ?_
  refine z_imul hx hb dX5_billOf_22 ?_
  refine z_bipush hx hb dX5_billOf_23 (by decide +kernel) ?_
  refine lv_aload_n hx hb dX5_billOf_25 rfl (lv_at hl 0 rfl) ?_
  refine m_get hx hb hts in_X5_billOf hown hK hR 9 (by decide) lk_X5_billOf_29 rfl rfl dX5_billOf_26 ?_
  refine lv_aload_n hx hb dX5_billOf_29 rfl (lv_at hl 0 rfl) ?_
  refine m_get hx hb hts in_X5_billOf hown hK hR 15 (by decide) lk_X5_billOf_41 rfl rfl dX5_billOf_30 ?_
  refine lv_iload_n hx hb dX5_billOf_33 rfl (lv_at hl 1 rfl) ?_
  refine m_ald hx hb hK hR 15 rfl (by show 0 ≤ k ∧ k < ((40 : Nat) : Int); omega) dX5_billOf_34 ?_
  refine m_ald hx hb hK hR 9 rfl (by show 0 ≤ (σ 15 k) ∧ (σ 15 k) < ((12 : Nat) : Int); omega) dX5_billOf_35 ?_
  refine z_imul hx hb dX5_billOf_36 ?_
  refine z_iadd hx hb dX5_billOf_37 ?_
  exact W.iret hx hb hr (z_end (post := fun r => r = .int (zI (σ 8 (σ 15 k) * σ 13 (σ 18 k) + 100 * σ 9 (σ 15 k)))) (z_eq (a := (((σ 8 (σ 15 k)) * (σ 13 (σ 18 k))) + (100 * (σ 9 (σ 15 k))))) (b := σ 8 (σ 15 k) * σ 13 (σ 18 k) + 100 * σ 9 (σ 15 k)) (by omega))) (fun _ h => nomatch h) dX5_billOf_38

theorem lk_X5_bills_62 : Cond.fieldLink RX5 62 "HarbourPilotlineModel" "ships" "I" ∈ wsX5_bills := by decide +kernel
theorem lk_X5_bills_32 : Cond.fieldLink RX5 32 "HarbourPilotlineModel" "owes" "[I" ∈ wsX5_bills := by decide +kernel
theorem in_X5_bills : ∀ w ∈ wsX50, w ∈ wsX5_bills := by decide +kernel
set_option maxRecDepth 100000 in
set_option maxHeartbeats 4000000 in
theorem c_X5_bills (l : Launch) (D : va_G) (cI cO cL : ClassId) (b : Nat) (ma : Nat → Nat) (σ : zT) (H0 : Heap) (hR : RM D cI b ma σ H0)  (hI : zInv σ) : zPM l yX5_bills wsX5_bills ({ frames := 0, cells := 0, slots := 0, locals := 0 }) (zKK D cI cO cL) [.ref b] H0 (fun r => r = .int (zI (zSum (σ 10) (σ 5 0).toNat))) := by
  refine Met.ofW (cc := cX5_bills) (maxL := 3) (ret := (some .int)) (by decide) rfl ?_
  intro p e s m args below meth c s₁ B hml hv
  obtain ⟨rfl, hH, hK⟩ := hv
  subst hH
  have hx := B.exec
  have hb := B.bytes
  have hr := B.returns
  have hts := atoms_spec (ws := wsX5_bills) B.pre
  have hown : s.vm.findClass RX5 = some m.cls := findClass_of_methodNamed B.named
  have hlocks := B.notSynchronized
  have hl := lv_entry ([.ref b]) (n := 3) (Nat.le_of_ble_eq_true rfl)
  rw [lg_entry_eq]
  generalize (lg_sl ([.ref b]) ++ List.replicate (3 - (lg_sl ([.ref b])).length) Slot.unset).toArray = ls at hl ⊢
  have hl : lv_has ls 3 [(0, .ref b)] := hl
  have f0 := hI.r
  refine z_iconst hx hb dX5_bills_0 ?_
  refine lv_istore_n (lv' := [(1, .int (zI 0)), (0, .ref b)]) hx hb dX5_bills_1 rfl hl (by decide) rfl (fun ls hl => ?_)
  refine z_iconst hx hb dX5_bills_2 ?_
  refine lv_istore_n (lv' := [(2, .int (zI 0)), (1, .int (zI 0)), (0, .ref b)]) hx hb dX5_bills_3 rfl hl (by decide) rfl (fun ls hl => ?_)
  refine z_cap (fun WW wi wo => ?_)
  have hL : ∀ (n : Nat) (v i : Int) (ls : Array Slot), v = zSum (σ 10) i.toNat → 0 ≤ i ∧ i ≤ σ 5 0 → (σ 5 0 - i).toNat < n → lv_has ls 3 [(0, .ref b), (1, .int (zI v)), (2, .int (zI i))] → WW s.heap [] 0 0 (F0 m 4 ls []) := by
    intro n
    induction n with
    | zero => intro v i ls hv hi hm; exact absurd hm (Nat.not_lt_zero _)
    | succ n ih =>
      intro v i ls hv hi hm hl
      refine wi _ _ _ _ _ ?_
      refine lv_iload_n hx hb dX5_bills_4 rfl (lv_at hl 2 rfl) ?_
      refine lv_aload_n hx hb dX5_bills_5 rfl (lv_at hl 0 rfl) ?_
      refine m_get hx hb hts in_X5_bills hown hK hR 5 (by decide) lk_X5_bills_62 rfl rfl dX5_bills_6 ?_
      refine z_icmp_ge (tgt := 27) hx hb dX5_bills_9 (by decide) (by omega) (fun c_1 => ?_) (fun c_1 => ?_)
      · refine lv_iload_n hx hb dX5_bills_27 rfl (lv_at hl 1 rfl) ?_
        exact W.iret hx hb hr (z_end (post := fun r => r = .int (zI (zSum (σ 10) (σ 5 0).toNat))) (z_eq (a := v) (b := zSum (σ 10) (σ 5 0).toNat) (by rw [hv, show i = σ 5 0 by omega]))) (fun _ h => nomatch h) dX5_bills_28
      · refine lv_iload_n hx hb dX5_bills_12 rfl (lv_at hl 1 rfl) ?_
        refine lv_aload_n hx hb dX5_bills_13 rfl (lv_at hl 0 rfl) ?_
        refine m_get hx hb hts in_X5_bills hown hK hR 10 (by decide) lk_X5_bills_32 rfl rfl dX5_bills_14 ?_
        refine lv_iload_n hx hb dX5_bills_17 rfl (lv_at hl 2 rfl) ?_
        refine m_ald hx hb hK hR 10 rfl (by show 0 ≤ i ∧ i < ((12 : Nat) : Int); omega) dX5_bills_18 ?_
        refine z_iadd hx hb dX5_bills_19 ?_
        refine lv_istore_n (lv' := [(1, .int (zI (v + (σ 10 i)))), (0, .ref b), (2, .int (zI i))]) hx hb dX5_bills_20 rfl hl (by decide) rfl (fun ls hl => ?_)
        refine z_iinc (lv' := [(2, .int (zI (i + 1))), (1, .int (zI (v + (σ 10 i)))), (0, .ref b)]) hx hb dX5_bills_21 hl (k := 2) rfl (by decide) rfl (fun ls hl => ?_)
        refine lv_goto (tgt := 4) hx hb dX5_bills_24 (by decide) ?_
        exact wo _ _ _ _ _ (ih (v + (σ 10 i)) (i + 1) ls (by rw [zSum_i _ hi.1, hv]) (by omega) (by omega) (lv_sub hl [2, 1, 0] rfl))
  exact wo _ _ _ _ _ (hL _ 0 0 ls (by rfl) (by omega) (Nat.lt_succ_self _) (lv_sub hl [2, 1, 0] rfl))

theorem lk_X5_tugsIn_71 : Cond.fieldLink RX5 71 "HarbourPilotlineModel" "conferences" "I" ∈ wsX5_tugsIn := by decide +kernel
theorem lk_X5_tugsIn_56 : Cond.fieldLink RX5 56 "HarbourPilotlineModel" "slot" "[I" ∈ wsX5_tugsIn := by decide +kernel
theorem lk_X5_tugsIn_29 : Cond.fieldLink RX5 29 "HarbourPilotlineModel" "needs" "[I" ∈ wsX5_tugsIn := by decide +kernel
theorem lk_X5_tugsIn_41 : Cond.fieldLink RX5 41 "HarbourPilotlineModel" "ship" "[I" ∈ wsX5_tugsIn := by decide +kernel
theorem in_X5_tugsIn : ∀ w ∈ wsX50, w ∈ wsX5_tugsIn := by decide +kernel
set_option maxRecDepth 100000 in
set_option maxHeartbeats 4000000 in
theorem c_X5_tugsIn (l : Launch) (D : va_G) (cI cO cL : ClassId) (b : Nat) (ma : Nat → Nat) (σ : zT) (H0 : Heap) (hR : RM D cI b ma σ H0) (k mm : Int) (hI : zInv σ) (hk : 0 ≤ k ∧ k < σ 14 0) (hv : 0 ≤ mm ∧ mm < 1000000) : zPM l yX5_tugsIn wsX5_tugsIn ({ frames := 1, cells := 0, slots := 0, locals := 22 }) (zKK D cI cO cL) [.ref b, .int (zI k), .int (zI mm)] H0 (fun r => r = .int (zI (zTugs σ k mm))) := by
  refine Met.ofW (cc := cX5_tugsIn) (maxL := 5) (ret := (some .int)) (by decide) rfl ?_
  intro p e s m args below meth c s₁ B hml hv
  obtain ⟨rfl, hH, hK⟩ := hv
  subst hH
  have hx := B.exec
  have hb := B.bytes
  have hr := B.returns
  have hts := atoms_spec (ws := wsX5_tugsIn) B.pre
  have hown : s.vm.findClass RX5 = some m.cls := findClass_of_methodNamed B.named
  have hlocks := B.notSynchronized
  have hl := lv_entry ([.ref b, .int (zI k), .int (zI mm)]) (n := 5) (Nat.le_of_ble_eq_true rfl)
  rw [lg_entry_eq]
  generalize (lg_sl ([.ref b, .int (zI k), .int (zI mm)]) ++ List.replicate (5 - (lg_sl ([.ref b, .int (zI k), .int (zI mm)])).length) Slot.unset).toArray = ls at hl ⊢
  have hl : lv_has ls 5 [(0, .ref b), (1, .int (zI k)), (2, .int (zI mm))] := hl
  have f0 := hI.r
  have fk := hI.c hk
  have gk := hI.s (i := σ 15 k) (by omega)
  refine z_iconst hx hb dX5_tugsIn_0 ?_
  refine lv_istore_n (lv' := [(3, .int (zI 0)), (0, .ref b), (1, .int (zI k)), (2, .int (zI mm))]) hx hb dX5_tugsIn_1 rfl hl (by decide) rfl (fun ls hl => ?_)
  refine z_iconst hx hb dX5_tugsIn_2 ?_
  refine lv_istore (lv' := [(4, .int (zI 0)), (3, .int (zI 0)), (0, .ref b), (1, .int (zI k)), (2, .int (zI mm))]) hx hb dX5_tugsIn_3 hl (by decide) rfl (fun ls hl => ?_)
  refine z_cap (fun WW wi wo => ?_)
  have hL : ∀ (n : Nat) (v i : Int) (ls : Array Slot), v = zSum (zTug1 σ k mm) i.toNat → 0 ≤ i ∧ i ≤ σ 14 0 → (σ 14 0 - i).toNat < n → lv_has ls 5 [(0, .ref b), (1, .int (zI k)), (2, .int (zI mm)), (3, .int (zI v)), (4, .int (zI i))] → WW s.heap [] 0 0 (F0 m 5 ls []) := by
    intro n
    induction n with
    | zero => intro v i ls hw hi hm; exact absurd hm (Nat.not_lt_zero _)
    | succ n ih =>
      intro v i ls hw hi hm hl
      refine wi _ _ _ _ _ ?_
      refine lv_iload hx hb dX5_tugsIn_5 (lv_at hl 4 rfl) ?_
      refine lv_aload_n hx hb dX5_tugsIn_7 rfl (lv_at hl 0 rfl) ?_
      refine m_get hx hb hts in_X5_tugsIn hown hK hR 14 (by decide) lk_X5_tugsIn_71 rfl rfl dX5_tugsIn_8 ?_
      refine z_icmp_ge (tgt := 76) hx hb dX5_tugsIn_11 (by decide) (by omega) (fun c_1 => ?_) (fun c_1 => ?_)
      · refine lv_iload_n hx hb dX5_tugsIn_76 rfl (lv_at hl 3 rfl) ?_
        exact W.iret hx hb hr (z_end (post := fun r => r = .int (zI (zTugs σ k mm))) (z_eq (a := v) (b := zTugs σ k mm) (by rw [hw, show i = σ 14 0 by omega]; rfl))) (fun _ h => nomatch h) dX5_tugsIn_77
      · have fi := hI.c (i := i) (by omega)
        have gi := hI.s (i := σ 15 i) (by omega)
        have ri := zRest_r (σ 8 (σ 15 i))
        refine lv_iload_n hx hb dX5_tugsIn_14 rfl (lv_at hl 3 rfl) ?_
        refine lv_iload hx hb dX5_tugsIn_15 (lv_at hl 4 rfl) ?_
        refine lv_iload_n hx hb dX5_tugsIn_17 rfl (lv_at hl 1 rfl) ?_
        refine z_icmp_eq (tgt := 67) hx hb dX5_tugsIn_18 (by decide) (by omega) (fun c_2 => ?_) (fun c_2 => ?_)
        · refine z_iconst hx hb dX5_tugsIn_67 ?_
          refine z_iadd hx hb dX5_tugsIn_68 ?_
          refine lv_istore_n (lv' := [(3, .int (zI (v + 0))), (0, .ref b), (1, .int (zI k)), (2, .int (zI mm)), (4, .int (zI i))]) hx hb dX5_tugsIn_69 rfl hl (by decide) rfl (fun ls hl => ?_)
          refine z_iinc (lv' := [(4, .int (zI (i + 1))), (3, .int (zI (v + 0))), (0, .ref b), (1, .int (zI k)), (2, .int (zI mm))]) hx hb dX5_tugsIn_70 hl (k := 4) rfl (by decide) rfl (fun ls hl => ?_)
          refine lv_goto (tgt := 5) hx hb dX5_tugsIn_73 (by decide) ?_
          exact wo _ _ _ _ _ (ih (v + 0) (i + 1) ls (by rw [zSum_i _ hi.1, ← hw]; first | rw [zTug_t (by omega)] | rw [zTug_f (by omega)]) (by omega) (by omega) (lv_sub hl [2, 3, 4, 1, 0] rfl))
        · refine lv_aload_n hx hb dX5_tugsIn_21 rfl (lv_at hl 0 rfl) ?_
          refine lv_iload hx hb dX5_tugsIn_22 (lv_at hl 4 rfl) ?_
          refine z_cv (As := [.int (zI i)]) (rest := [.int (zI v)]) ⟨hx, hb, hml, hown, hts⟩ (c_X5_hasSlot l D cI cO cL b ma σ s.heap hR i hI (by omega)) (cwV 1 hts gX5_tugsIn_X5_hasSlot rfl rfl rfl (by decide +kernel) ⟨Nat.le_of_ble_eq_true rfl, Nat.le_of_ble_eq_true rfl⟩) (zKK_mv D cI cO cL) (fun U _ hv => va_K.moved hv hK) (m_recv hK hR) rfl hl.1 rfl (Nat.le_of_ble_eq_true rfl) dX5_tugsIn_24 ⟨Nat.zero_le _, Nat.zero_le _⟩ (fun r_3 hr_3 => ?_)
          rw [hr_3]
          refine z_ifb_eq (tgt := 67) hx hb dX5_tugsIn_27 (by decide) (fun c_4 => ?_) (fun c_4 => ?_)
          · refine z_iconst hx hb dX5_tugsIn_67 ?_
            refine z_iadd hx hb dX5_tugsIn_68 ?_
            refine lv_istore_n (lv' := [(3, .int (zI (v + 0))), (0, .ref b), (1, .int (zI k)), (2, .int (zI mm)), (4, .int (zI i))]) hx hb dX5_tugsIn_69 rfl hl (by decide) rfl (fun ls hl => ?_)
            refine z_iinc (lv' := [(4, .int (zI (i + 1))), (3, .int (zI (v + 0))), (0, .ref b), (1, .int (zI k)), (2, .int (zI mm))]) hx hb dX5_tugsIn_70 hl (k := 4) rfl (by decide) rfl (fun ls hl => ?_)
            refine lv_goto (tgt := 5) hx hb dX5_tugsIn_73 (by decide) ?_
            exact wo _ _ _ _ _ (ih (v + 0) (i + 1) ls (by rw [zSum_i _ hi.1, ← hw]; first | rw [zTug_t (by omega)] | rw [zTug_f (by omega)]) (by omega) (by omega) (lv_sub hl [2, 3, 4, 1, 0] rfl))
          · refine lv_iload_n hx hb dX5_tugsIn_30 rfl (lv_at hl 2 rfl) ?_
            refine lv_aload_n hx hb dX5_tugsIn_31 rfl (lv_at hl 0 rfl) ?_
            refine m_get hx hb hts in_X5_tugsIn hown hK hR 20 (by decide) lk_X5_tugsIn_56 rfl rfl dX5_tugsIn_32 ?_
            refine lv_iload hx hb dX5_tugsIn_35 (lv_at hl 4 rfl) ?_
            refine m_ald hx hb hK hR 20 rfl (by show 0 ≤ i ∧ i < ((40 : Nat) : Int); omega) dX5_tugsIn_37 ?_
            refine lv_aload_n hx hb dX5_tugsIn_38 rfl (lv_at hl 0 rfl) ?_
            refine lv_iload hx hb dX5_tugsIn_39 (lv_at hl 4 rfl) ?_
            refine z_cv (As := [.int (zI i)]) (rest := [.int (zI (σ 20 i)), .int (zI mm), .int (zI v)]) ⟨hx, hb, hml, hown, hts⟩ (c_X5_over l D cI cO cL b ma σ s.heap hR i hI (by omega)) (cwV 1 hts gX5_tugsIn_X5_over rfl rfl rfl (by decide +kernel) ⟨Nat.le_of_ble_eq_true rfl, Nat.le_of_ble_eq_true rfl⟩) (zKK_mv D cI cO cL) (fun U _ hv => va_K.moved hv hK) (m_recv hK hR) rfl hl.1 rfl (Nat.le_of_ble_eq_true rfl) dX5_tugsIn_41 ⟨Nat.zero_le _, Nat.zero_le _⟩ (fun r_5 hr_5 => ?_)
            rw [hr_5]
            refine z_iconst hx hb dX5_tugsIn_44 ?_
            refine z_isub hx hb dX5_tugsIn_45 ?_
            refine z_cs (As := [.int (zI mm), .int (zI (σ 20 i)), .int (zI ((σ 20 i + σ 8 (σ 15 i)) - 1))]) (rest := [.int (zI v)]) ⟨hx, hb, hml, hown, hts⟩ (c_X5_in l D cI cO cL b ma σ s.heap hR mm (σ 20 i) ((σ 20 i + σ 8 (σ 15 i)) - 1) (by omega)) (va_cwS 3 hts gX5_tugsIn_X5_in rfl rfl rfl (by decide +kernel) ⟨Nat.le_of_ble_eq_true rfl, Nat.le_of_ble_eq_true rfl⟩) (zKK_mv D cI cO cL) (fun U _ hv => va_K.moved hv hK) rfl hl.1 rfl (Nat.le_of_ble_eq_true rfl) dX5_tugsIn_46 ⟨Nat.zero_le _, Nat.zero_le _⟩ (fun r_6 hr_6 => ?_)
            rw [hr_6]
            refine z_ifb_eq (tgt := 67) hx hb dX5_tugsIn_49 (by decide) (fun c_7 => ?_) (fun c_7 => ?_)
            · refine z_iconst hx hb dX5_tugsIn_67 ?_
              refine z_iadd hx hb dX5_tugsIn_68 ?_
              refine lv_istore_n (lv' := [(3, .int (zI (v + 0))), (0, .ref b), (1, .int (zI k)), (2, .int (zI mm)), (4, .int (zI i))]) hx hb dX5_tugsIn_69 rfl hl (by decide) rfl (fun ls hl => ?_)
              refine z_iinc (lv' := [(4, .int (zI (i + 1))), (3, .int (zI (v + 0))), (0, .ref b), (1, .int (zI k)), (2, .int (zI mm))]) hx hb dX5_tugsIn_70 hl (k := 4) rfl (by decide) rfl (fun ls hl => ?_)
              refine lv_goto (tgt := 5) hx hb dX5_tugsIn_73 (by decide) ?_
              exact wo _ _ _ _ _ (ih (v + 0) (i + 1) ls (by rw [zSum_i _ hi.1, ← hw]; first | rw [zTug_t (by omega)] | rw [zTug_f (by omega)]) (by omega) (by omega) (lv_sub hl [2, 3, 4, 1, 0] rfl))
            · refine lv_aload_n hx hb dX5_tugsIn_52 rfl (lv_at hl 0 rfl) ?_
              refine m_get hx hb hts in_X5_tugsIn hown hK hR 9 (by decide) lk_X5_tugsIn_29 rfl rfl dX5_tugsIn_53 ?_
              refine lv_aload_n hx hb dX5_tugsIn_56 rfl (lv_at hl 0 rfl) ?_
              refine m_get hx hb hts in_X5_tugsIn hown hK hR 15 (by decide) lk_X5_tugsIn_41 rfl rfl dX5_tugsIn_57 ?_
              refine lv_iload hx hb dX5_tugsIn_60 (lv_at hl 4 rfl) ?_
              refine m_ald hx hb hK hR 15 rfl (by show 0 ≤ i ∧ i < ((40 : Nat) : Int); omega) dX5_tugsIn_62 ?_
              refine m_ald hx hb hK hR 9 rfl (by show 0 ≤ (σ 15 i) ∧ (σ 15 i) < ((12 : Nat) : Int); omega) dX5_tugsIn_63 ?_
              refine lv_goto (tgt := 68) hx hb dX5_tugsIn_64 (by decide) ?_
              refine z_iadd hx hb dX5_tugsIn_68 ?_
              refine lv_istore_n (lv' := [(3, .int (zI (v + (σ 9 (σ 15 i))))), (0, .ref b), (1, .int (zI k)), (2, .int (zI mm)), (4, .int (zI i))]) hx hb dX5_tugsIn_69 rfl hl (by decide) rfl (fun ls hl => ?_)
              refine z_iinc (lv' := [(4, .int (zI (i + 1))), (3, .int (zI (v + (σ 9 (σ 15 i))))), (0, .ref b), (1, .int (zI k)), (2, .int (zI mm))]) hx hb dX5_tugsIn_70 hl (k := 4) rfl (by decide) rfl (fun ls hl => ?_)
              refine lv_goto (tgt := 5) hx hb dX5_tugsIn_73 (by decide) ?_
              exact wo _ _ _ _ _ (ih (v + (σ 9 (σ 15 i))) (i + 1) ls (by rw [zSum_i _ hi.1, ← hw]; first | rw [zTug_t (by omega)] | rw [zTug_f (by omega)]) (by omega) (by omega) (lv_sub hl [2, 3, 4, 1, 0] rfl))
  exact wo _ _ _ _ _ (hL _ 0 0 ls (by rfl) (by omega) (Nat.lt_succ_self _) (lv_sub hl [2, 3, 4, 1, 0] rfl))

theorem lk_X5_pilotDoes_26 : Cond.fieldLink RX5 26 "HarbourPilotlineModel" "takes" "[I" ∈ wsX5_pilotDoes := by decide +kernel
theorem lk_X5_pilotDoes_41 : Cond.fieldLink RX5 41 "HarbourPilotlineModel" "ship" "[I" ∈ wsX5_pilotDoes := by decide +kernel
theorem lk_X5_pilotDoes_71 : Cond.fieldLink RX5 71 "HarbourPilotlineModel" "conferences" "I" ∈ wsX5_pilotDoes := by decide +kernel
theorem lk_X5_pilotDoes_50 : Cond.fieldLink RX5 50 "HarbourPilotlineModel" "pilot" "[I" ∈ wsX5_pilotDoes := by decide +kernel
theorem lk_X5_pilotDoes_56 : Cond.fieldLink RX5 56 "HarbourPilotlineModel" "slot" "[I" ∈ wsX5_pilotDoes := by decide +kernel
theorem in_X5_pilotDoes : ∀ w ∈ wsX50, w ∈ wsX5_pilotDoes := by decide +kernel
set_option maxRecDepth 100000 in
set_option maxHeartbeats 4000000 in
theorem c_X5_pilotDoes (l : Launch) (D : va_G) (cI cO cL : ClassId) (b : Nat) (ma : Nat → Nat) (σ : zT) (H0 : Heap) (hR : RM D cI b ma σ H0) (k t : Int) (hI : zInv σ) (hk : 0 ≤ k ∧ k < σ 14 0) (hv : 0 ≤ t ∧ t < 1000000) : zPM l yX5_pilotDoes wsX5_pilotDoes ({ frames := 1, cells := 0, slots := 0, locals := 21 }) (zKK D cI cO cL) [.ref b, .int (zI k), .int (zI t)] H0 (fun r => r = .int (zI (bI (zRestOk σ k t)))) := by
  refine Met.ofW (cc := cX5_pilotDoes) (maxL := 7) (ret := (some .boolean)) (by decide) rfl ?_
  intro p e s m args below meth c s₁ B hml hv
  obtain ⟨rfl, hH, hK⟩ := hv
  subst hH
  have hx := B.exec
  have hb := B.bytes
  have hr := B.returns
  have hts := atoms_spec (ws := wsX5_pilotDoes) B.pre
  have hown : s.vm.findClass RX5 = some m.cls := findClass_of_methodNamed B.named
  have hlocks := B.notSynchronized
  have hl := lv_entry ([.ref b, .int (zI k), .int (zI t)]) (n := 7) (Nat.le_of_ble_eq_true rfl)
  rw [lg_entry_eq]
  generalize (lg_sl ([.ref b, .int (zI k), .int (zI t)]) ++ List.replicate (7 - (lg_sl ([.ref b, .int (zI k), .int (zI t)])).length) Slot.unset).toArray = ls at hl ⊢
  have hl : lv_has ls 7 [(0, .ref b), (1, .int (zI k)), (2, .int (zI t))] := hl
  have f0 := hI.r
  have fk := hI.c hk
  have gk := hI.s (i := σ 15 k) (by omega)
  have rk := zRest_r (σ 8 (σ 15 k))
  refine lv_aload_n hx hb dX5_pilotDoes_0 rfl (lv_at hl 0 rfl) ?_
  refine m_get hx hb hts in_X5_pilotDoes hown hK hR 8 (by decide) lk_X5_pilotDoes_26 rfl rfl dX5_pilotDoes_1 ?_
  refine lv_aload_n hx hb dX5_pilotDoes_4 rfl (lv_at hl 0 rfl) ?_
  refine m_get hx hb hts in_X5_pilotDoes hown hK hR 15 (by decide) lk_X5_pilotDoes_41 rfl rfl dX5_pilotDoes_5 ?_
  refine lv_iload_n hx hb dX5_pilotDoes_8 rfl (lv_at hl 1 rfl) ?_
  refine m_ald hx hb hK hR 15 rfl (by show 0 ≤ k ∧ k < ((40 : Nat) : Int); omega) dX5_pilotDoes_9 ?_
  refine m_ald hx hb hK hR 8 rfl (by show 0 ≤ (σ 15 k) ∧ (σ 15 k) < ((12 : Nat) : Int); omega) dX5_pilotDoes_10 ?_
  refine lv_istore_n (lv' := [(3, .int (zI (σ 8 (σ 15 k)))), (0, .ref b), (1, .int (zI k)), (2, .int (zI t))]) hx hb dX5_pilotDoes_11 rfl hl (by decide) rfl (fun ls hl => ?_)
  refine z_iconst hx hb dX5_pilotDoes_12 ?_
  refine lv_istore (lv' := [(4, .int (zI 1)), (3, .int (zI (σ 8 (σ 15 k)))), (0, .ref b), (1, .int (zI k)), (2, .int (zI t))]) hx hb dX5_pilotDoes_13 hl (by decide) rfl (fun ls hl => ?_)
  refine z_iconst hx hb dX5_pilotDoes_15 ?_
  refine lv_istore (lv' := [(5, .int (zI 0)), (4, .int (zI 1)), (3, .int (zI (σ 8 (σ 15 k)))), (0, .ref b), (1, .int (zI k)), (2, .int (zI t))]) hx hb dX5_pilotDoes_16 hl (by decide) rfl (fun ls hl => ?_)
  refine z_cap (fun WW wi wo => ?_)
  have hL : ∀ (n : Nat) (d i : Int) (ls : Array Slot), d = bI (∀ o, 0 ≤ o → o < i → zRestOk1 σ k t o) → 0 ≤ i ∧ i ≤ σ 14 0 → (σ 14 0 - i).toNat < n → lv_has ls 7 [(3, .int (zI (σ 8 (σ 15 k)))), (0, .ref b), (1, .int (zI k)), (2, .int (zI t)), (4, .int (zI d)), (5, .int (zI i))] → WW s.heap [] 0 0 (F0 m 18 ls []) := by
    intro n
    induction n with
    | zero => intro d i ls hd hi hm; exact absurd hm (Nat.not_lt_zero _)
    | succ n ih =>
      intro d i ls hd hi hm hl
      refine wi _ _ _ _ _ ?_
      have hd2 : 0 ≤ d ∧ d ≤ 1 := by rw [hd]; exact bI_rng _
      refine lv_iload hx hb dX5_pilotDoes_18 (lv_at hl 5 rfl) ?_
      refine lv_aload_n hx hb dX5_pilotDoes_20 rfl (lv_at hl 1 rfl) ?_
      refine m_get hx hb hts in_X5_pilotDoes hown hK hR 14 (by decide) lk_X5_pilotDoes_71 rfl rfl dX5_pilotDoes_21 ?_
      refine z_icmp_ge (tgt := 124) hx hb dX5_pilotDoes_24 (by decide) (by omega) (fun c_1 => ?_) (fun c_1 => ?_)
      · refine lv_iload hx hb dX5_pilotDoes_124 (lv_at hl 4 rfl) ?_
        exact W.zret hx hb hr (by rw [show d = bI (zRestOk σ k t) by rw [hd, show i = σ 14 0 by omega]; rfl]; exact bI_narrow _) (z_end (post := fun r => r = .int (zI (bI (zRestOk σ k t)))) (z_eq (a := d) (b := bI (zRestOk σ k t)) (by rw [hd, show i = σ 14 0 by omega]; rfl))) (fun _ h => nomatch h) dX5_pilotDoes_126
      · have fi := hI.c (i := i) (by omega)
        have gi := hI.s (i := σ 15 i) (by omega)
        have ri := zRest_r (σ 8 (σ 15 i))
        refine lv_iload hx hb dX5_pilotDoes_27 (lv_at hl 5 rfl) ?_
        refine lv_iload_n hx hb dX5_pilotDoes_29 rfl (lv_at hl 2 rfl) ?_
        refine z_icmp_eq (tgt := 118) hx hb dX5_pilotDoes_30 (by decide) (by omega) (fun c_2 => ?_) (fun c_2 => ?_)
        · refine z_iinc (lv' := [(5, .int (zI (i + 1))), (3, .int (zI (σ 8 (σ 15 k)))), (0, .ref b), (1, .int (zI k)), (2, .int (zI t)), (4, .int (zI d))]) hx hb dX5_pilotDoes_118 hl (k := 5) rfl (by decide) rfl (fun ls hl => ?_)
          refine lv_goto (tgt := 18) hx hb dX5_pilotDoes_121 (by decide) ?_
          exact wo _ _ _ _ _ (ih d (i + 1) ls (by exact bI_all_t hi.1 hd (by intro h1 h2 h3; simp only [zOv, zTk]; omega)) (by omega) (by omega) (lv_sub hl [1, 2, 3, 4, 5, 0] rfl))
        · refine lv_aload_n hx hb dX5_pilotDoes_33 rfl (lv_at hl 1 rfl) ?_
          refine lv_iload hx hb dX5_pilotDoes_34 (lv_at hl 5 rfl) ?_
          refine z_cv (As := [.int (zI i)]) (rest := []) ⟨hx, hb, hml, hown, hts⟩ (c_X5_hasSlot l D cI cO cL b ma σ s.heap hR i hI (by omega)) (cwV 1 hts gX5_pilotDoes_X5_hasSlot rfl rfl rfl (by decide +kernel) ⟨Nat.le_of_ble_eq_true rfl, Nat.le_of_ble_eq_true rfl⟩) (zKK_mv D cI cO cL) (fun U _ hv => va_K.moved hv hK) (m_recv hK hR) rfl hl.1 rfl (Nat.le_of_ble_eq_true rfl) dX5_pilotDoes_36 ⟨Nat.zero_le _, Nat.zero_le _⟩ (fun r_3 hr_3 => ?_)
          rw [hr_3]
          refine z_ifb_eq (tgt := 118) hx hb dX5_pilotDoes_39 (by decide) (fun c_4 => ?_) (fun c_4 => ?_)
          · refine z_iinc (lv' := [(5, .int (zI (i + 1))), (3, .int (zI (σ 8 (σ 15 k)))), (0, .ref b), (1, .int (zI k)), (2, .int (zI t)), (4, .int (zI d))]) hx hb dX5_pilotDoes_118 hl (k := 5) rfl (by decide) rfl (fun ls hl => ?_)
            refine lv_goto (tgt := 18) hx hb dX5_pilotDoes_121 (by decide) ?_
            exact wo _ _ _ _ _ (ih d (i + 1) ls (by exact bI_all_t hi.1 hd (by intro h1 h2 h3; simp only [zOv, zTk]; omega)) (by omega) (by omega) (lv_sub hl [1, 2, 3, 4, 5, 0] rfl))
          · refine lv_aload_n hx hb dX5_pilotDoes_42 rfl (lv_at hl 1 rfl) ?_
            refine m_get hx hb hts in_X5_pilotDoes hown hK hR 18 (by decide) lk_X5_pilotDoes_50 rfl rfl dX5_pilotDoes_43 ?_
            refine lv_iload hx hb dX5_pilotDoes_46 (lv_at hl 5 rfl) ?_
            refine m_ald hx hb hK hR 18 rfl (by show 0 ≤ i ∧ i < ((40 : Nat) : Int); omega) dX5_pilotDoes_48 ?_
            refine lv_aload_n hx hb dX5_pilotDoes_49 rfl (lv_at hl 1 rfl) ?_
            refine m_get hx hb hts in_X5_pilotDoes hown hK hR 18 (by decide) lk_X5_pilotDoes_50 rfl rfl dX5_pilotDoes_50 ?_
            refine lv_iload_n hx hb dX5_pilotDoes_53 rfl (lv_at hl 2 rfl) ?_
            refine m_ald hx hb hK hR 18 rfl (by show 0 ≤ k ∧ k < ((40 : Nat) : Int); omega) dX5_pilotDoes_54 ?_
            refine z_icmp_ne (tgt := 118) hx hb dX5_pilotDoes_55 (by decide) (by omega) (fun c_5 => ?_) (fun c_5 => ?_)
            · refine z_iinc (lv' := [(5, .int (zI (i + 1))), (3, .int (zI (σ 8 (σ 15 k)))), (0, .ref b), (1, .int (zI k)), (2, .int (zI t)), (4, .int (zI d))]) hx hb dX5_pilotDoes_118 hl (k := 5) rfl (by decide) rfl (fun ls hl => ?_)
              refine lv_goto (tgt := 18) hx hb dX5_pilotDoes_121 (by decide) ?_
              exact wo _ _ _ _ _ (ih d (i + 1) ls (by exact bI_all_t hi.1 hd (by intro h1 h2 h3; simp only [zOv, zTk]; omega)) (by omega) (by omega) (lv_sub hl [1, 2, 3, 4, 5, 0] rfl))
            · refine lv_aload_n hx hb dX5_pilotDoes_58 rfl (lv_at hl 1 rfl) ?_
              refine m_get hx hb hts in_X5_pilotDoes hown hK hR 8 (by decide) lk_X5_pilotDoes_26 rfl rfl dX5_pilotDoes_59 ?_
              refine lv_aload_n hx hb dX5_pilotDoes_62 rfl (lv_at hl 1 rfl) ?_
              refine m_get hx hb hts in_X5_pilotDoes hown hK hR 15 (by decide) lk_X5_pilotDoes_41 rfl rfl dX5_pilotDoes_63 ?_
              refine lv_iload hx hb dX5_pilotDoes_66 (lv_at hl 5 rfl) ?_
              refine m_ald hx hb hK hR 15 rfl (by show 0 ≤ i ∧ i < ((40 : Nat) : Int); omega) dX5_pilotDoes_68 ?_
              refine m_ald hx hb hK hR 8 rfl (by show 0 ≤ (σ 15 i) ∧ (σ 15 i) < ((12 : Nat) : Int); omega) dX5_pilotDoes_69 ?_
              refine lv_istore (lv' := [(6, .int (zI (σ 8 (σ 15 i)))), (3, .int (zI (σ 8 (σ 15 k)))), (0, .ref b), (1, .int (zI k)), (2, .int (zI t)), (4, .int (zI d)), (5, .int (zI i))]) hx hb dX5_pilotDoes_70 hl (by decide) rfl (fun ls hl => ?_)
              refine lv_iload hx hb dX5_pilotDoes_72 (lv_at hl 5 rfl) ?_
              refine z_if_eq (tgt := 115) hx hb dX5_pilotDoes_74 (by decide) (by omega) (fun c_6 => ?_) (fun c_6 => ?_)
              · refine z_iconst hx hb dX5_pilotDoes_115 ?_
                refine lv_istore (lv' := [(4, .int (zI 0)), (6, .int (zI (σ 8 (σ 15 i)))), (3, .int (zI (σ 8 (σ 15 k)))), (0, .ref b), (1, .int (zI k)), (2, .int (zI t)), (5, .int (zI i))]) hx hb dX5_pilotDoes_116 hl (by decide) rfl (fun ls hl => ?_)
                refine z_iinc (lv' := [(5, .int (zI (i + 1))), (4, .int (zI 0)), (6, .int (zI (σ 8 (σ 15 i)))), (3, .int (zI (σ 8 (σ 15 k)))), (0, .ref b), (1, .int (zI k)), (2, .int (zI t))]) hx hb dX5_pilotDoes_118 hl (k := 6) rfl (by decide) rfl (fun ls hl => ?_)
                refine lv_goto (tgt := 18) hx hb dX5_pilotDoes_121 (by decide) ?_
                exact wo _ _ _ _ _ (ih 0 (i + 1) ls (by first | exact bI_all_d hd (by omega) | exact bI_all_f hi.1 (by intro hP; have hP := hP (by omega) (by omega) (by omega); simp only [zOv, zTk] at hP; omega)) (by omega) (by omega) (lv_sub hl [3, 4, 5, 6, 1, 0] rfl))
              · refine lv_iload_n hx hb dX5_pilotDoes_77 rfl (lv_at hl 4 rfl) ?_
                refine lv_aload_n hx hb dX5_pilotDoes_78 rfl (lv_at hl 2 rfl) ?_
                refine lv_iload hx hb dX5_pilotDoes_79 (lv_at hl 6 rfl) ?_
                refine z_cv (As := [.int (zI i)]) (rest := [.int (zI t)]) ⟨hx, hb, hml, hown, hts⟩ (c_X5_over l D cI cO cL b ma σ s.heap hR i hI (by omega)) (cwV 1 hts gX5_pilotDoes_X5_over rfl rfl rfl (by decide +kernel) ⟨Nat.le_of_ble_eq_true rfl, Nat.le_of_ble_eq_true rfl⟩) (zKK_mv D cI cO cL) (fun U _ hv => va_K.moved hv hK) (m_recv hK hR) rfl hl.1 rfl (Nat.le_of_ble_eq_true rfl) dX5_pilotDoes_81 ⟨Nat.zero_le _, Nat.zero_le _⟩ (fun r_7 hr_7 => ?_)
                rw [hr_7]
                refine lv_iload hx hb dX5_pilotDoes_84 (lv_at hl 0 rfl) ?_
                refine z_cs (As := [.int (zI (σ 8 (σ 15 i)))]) (rest := [.int (zI (σ 20 i + σ 8 (σ 15 i))), .int (zI t)]) ⟨hx, hb, hml, hown, hts⟩ (c_X5_rest l D cI cO cL b ma σ s.heap hR (σ 8 (σ 15 i)) (by omega)) (va_cwS 1 hts gX5_pilotDoes_X5_rest rfl rfl rfl (by decide +kernel) ⟨Nat.le_of_ble_eq_true rfl, Nat.le_of_ble_eq_true rfl⟩) (zKK_mv D cI cO cL) (fun U _ hv => va_K.moved hv hK) rfl hl.1 rfl (Nat.le_of_ble_eq_true rfl) dX5_pilotDoes_86 ⟨Nat.zero_le _, Nat.zero_le _⟩ (fun r_8 hr_8 => ?_)
                rw [hr_8]
                refine z_iadd hx hb dX5_pilotDoes_89 ?_
                refine z_icmp_ge (tgt := 111) hx hb dX5_pilotDoes_90 (by decide) (by omega) (fun c_9 => ?_) (fun c_9 => ?_)
                · refine z_iconst hx hb dX5_pilotDoes_111 ?_
                  refine lv_goto (tgt := 116) hx hb dX5_pilotDoes_112 (by decide) ?_
                  refine lv_istore (lv' := [(4, .int (zI 1)), (6, .int (zI (σ 8 (σ 15 i)))), (3, .int (zI (σ 8 (σ 15 k)))), (0, .ref b), (1, .int (zI k)), (2, .int (zI t)), (5, .int (zI i))]) hx hb dX5_pilotDoes_116 hl (by decide) rfl (fun ls hl => ?_)
                  refine z_iinc (lv' := [(5, .int (zI (i + 1))), (4, .int (zI 1)), (6, .int (zI (σ 8 (σ 15 i)))), (3, .int (zI (σ 8 (σ 15 k)))), (0, .ref b), (1, .int (zI k)), (2, .int (zI t))]) hx hb dX5_pilotDoes_118 hl (k := 6) rfl (by decide) rfl (fun ls hl => ?_)
                  refine lv_goto (tgt := 18) hx hb dX5_pilotDoes_121 (by decide) ?_
                  exact wo _ _ _ _ _ (ih 1 (i + 1) ls (by exact bI_all_1 hi.1 hd (by omega) (by intro h1 h2 h3; simp only [zOv, zTk]; omega)) (by omega) (by omega) (lv_sub hl [3, 4, 5, 6, 1, 0] rfl))
                · refine lv_aload_n hx hb dX5_pilotDoes_93 rfl (lv_at hl 2 rfl) ?_
                  refine m_get hx hb hts in_X5_pilotDoes hown hK hR 20 (by decide) lk_X5_pilotDoes_56 rfl rfl dX5_pilotDoes_94 ?_
                  refine lv_iload hx hb dX5_pilotDoes_97 (lv_at hl 6 rfl) ?_
                  refine m_ald hx hb hK hR 20 rfl (by show 0 ≤ i ∧ i < ((40 : Nat) : Int); omega) dX5_pilotDoes_99 ?_
                  refine lv_iload_n hx hb dX5_pilotDoes_100 rfl (lv_at hl 4 rfl) ?_
                  refine lv_iload_n hx hb dX5_pilotDoes_101 rfl (lv_at hl 1 rfl) ?_
                  refine z_iadd hx hb dX5_pilotDoes_102 ?_
                  refine lv_iload_n hx hb dX5_pilotDoes_103 rfl (lv_at hl 1 rfl) ?_
                  refine z_cs (As := [.int (zI (σ 8 (σ 15 k)))]) (rest := [.int (zI (t + (σ 8 (σ 15 k)))), .int (zI (σ 20 i))]) ⟨hx, hb, hml, hown, hts⟩ (c_X5_rest l D cI cO cL b ma σ s.heap hR (σ 8 (σ 15 k)) (by omega)) (va_cwS 1 hts gX5_pilotDoes_X5_rest rfl rfl rfl (by decide +kernel) ⟨Nat.le_of_ble_eq_true rfl, Nat.le_of_ble_eq_true rfl⟩) (zKK_mv D cI cO cL) (fun U _ hv => va_K.moved hv hK) rfl hl.1 rfl (Nat.le_of_ble_eq_true rfl) dX5_pilotDoes_104 ⟨Nat.zero_le _, Nat.zero_le _⟩ (fun r_10 hr_10 => ?_)
                  rw [hr_10]
                  refine z_iadd hx hb dX5_pilotDoes_107 ?_
                  refine z_icmp_lt (tgt := 115) hx hb dX5_pilotDoes_108 (by decide) (by omega) (fun c_11 => ?_) (fun c_11 => ?_)
                  · refine z_iconst hx hb dX5_pilotDoes_115 ?_
                    refine lv_istore (lv' := [(4, .int (zI 0)), (6, .int (zI (σ 8 (σ 15 i)))), (3, .int (zI (σ 8 (σ 15 k)))), (0, .ref b), (1, .int (zI k)), (2, .int (zI t)), (5, .int (zI i))]) hx hb dX5_pilotDoes_116 hl (by decide) rfl (fun ls hl => ?_)
                    refine z_iinc (lv' := [(5, .int (zI (i + 1))), (4, .int (zI 0)), (6, .int (zI (σ 8 (σ 15 i)))), (3, .int (zI (σ 8 (σ 15 k)))), (0, .ref b), (1, .int (zI k)), (2, .int (zI t))]) hx hb dX5_pilotDoes_118 hl (k := 6) rfl (by decide) rfl (fun ls hl => ?_)
                    refine lv_goto (tgt := 18) hx hb dX5_pilotDoes_121 (by decide) ?_
                    exact wo _ _ _ _ _ (ih 0 (i + 1) ls (by first | exact bI_all_d hd (by omega) | exact bI_all_f hi.1 (by intro hP; have hP := hP (by omega) (by omega) (by omega); simp only [zOv, zTk] at hP; omega)) (by omega) (by omega) (lv_sub hl [3, 4, 5, 6, 1, 0] rfl))
                  · refine z_iconst hx hb dX5_pilotDoes_111 ?_
                    refine lv_goto (tgt := 116) hx hb dX5_pilotDoes_112 (by decide) ?_
                    refine lv_istore (lv' := [(4, .int (zI 1)), (6, .int (zI (σ 8 (σ 15 i)))), (3, .int (zI (σ 8 (σ 15 k)))), (0, .ref b), (1, .int (zI k)), (2, .int (zI t)), (5, .int (zI i))]) hx hb dX5_pilotDoes_116 hl (by decide) rfl (fun ls hl => ?_)
                    refine z_iinc (lv' := [(5, .int (zI (i + 1))), (4, .int (zI 1)), (6, .int (zI (σ 8 (σ 15 i)))), (3, .int (zI (σ 8 (σ 15 k)))), (0, .ref b), (1, .int (zI k)), (2, .int (zI t))]) hx hb dX5_pilotDoes_118 hl (k := 6) rfl (by decide) rfl (fun ls hl => ?_)
                    refine lv_goto (tgt := 18) hx hb dX5_pilotDoes_121 (by decide) ?_
                    exact wo _ _ _ _ _ (ih 1 (i + 1) ls (by exact bI_all_1 hi.1 hd (by omega) (by intro h1 h2 h3; simp only [zOv, zTk]; omega)) (by omega) (by omega) (lv_sub hl [3, 4, 5, 6, 1, 0] rfl))
  exact wo _ _ _ _ _ (hL _ 1 0 ls (by exact bI_all_0 (by omega)) (by omega) (Nat.lt_succ_self _) (lv_sub hl [2, 3, 4, 5, 1, 0] rfl))

theorem lk_X5_channelDoes_71 : Cond.fieldLink RX5 71 "HarbourPilotlineModel" "conferences" "I" ∈ wsX5_channelDoes := by decide +kernel
theorem lk_X5_channelDoes_56 : Cond.fieldLink RX5 56 "HarbourPilotlineModel" "slot" "[I" ∈ wsX5_channelDoes := by decide +kernel
theorem in_X5_channelDoes : ∀ w ∈ wsX50, w ∈ wsX5_channelDoes := by decide +kernel
set_option maxRecDepth 100000 in
set_option maxHeartbeats 4000000 in
theorem c_X5_channelDoes (l : Launch) (D : va_G) (cI cO cL : ClassId) (b : Nat) (ma : Nat → Nat) (σ : zT) (H0 : Heap) (hR : RM D cI b ma σ H0) (k t : Int) (hI : zInv σ) (hk : 0 ≤ k ∧ k < σ 14 0) (hv : 0 ≤ t ∧ t < 1000000) : zPM l yX5_channelDoes wsX5_channelDoes ({ frames := 1, cells := 0, slots := 0, locals := 21 }) (zKK D cI cO cL) [.ref b, .int (zI k), .int (zI t)] H0 (fun r => r = .int (zI (bI (zChanOk σ k t)))) := by
  refine Met.ofW (cc := cX5_channelDoes) (maxL := 5) (ret := (some .boolean)) (by decide) rfl ?_
  intro p e s m args below meth c s₁ B hml hv
  obtain ⟨rfl, hH, hK⟩ := hv
  subst hH
  have hx := B.exec
  have hb := B.bytes
  have hr := B.returns
  have hts := atoms_spec (ws := wsX5_channelDoes) B.pre
  have hown : s.vm.findClass RX5 = some m.cls := findClass_of_methodNamed B.named
  have hlocks := B.notSynchronized
  have hl := lv_entry ([.ref b, .int (zI k), .int (zI t)]) (n := 5) (Nat.le_of_ble_eq_true rfl)
  rw [lg_entry_eq]
  generalize (lg_sl ([.ref b, .int (zI k), .int (zI t)]) ++ List.replicate (5 - (lg_sl ([.ref b, .int (zI k), .int (zI t)])).length) Slot.unset).toArray = ls at hl ⊢
  have hl : lv_has ls 5 [(0, .ref b), (1, .int (zI k)), (2, .int (zI t))] := hl
  have f0 := hI.r
  have fk := hI.c hk
  have gk := hI.s (i := σ 15 k) (by omega)
  refine z_iconst hx hb dX5_channelDoes_0 ?_
  refine lv_istore_n (lv' := [(3, .int (zI 1)), (0, .ref b), (1, .int (zI k)), (2, .int (zI t))]) hx hb dX5_channelDoes_1 rfl hl (by decide) rfl (fun ls hl => ?_)
  refine z_iconst hx hb dX5_channelDoes_2 ?_
  refine lv_istore (lv' := [(4, .int (zI 0)), (3, .int (zI 1)), (0, .ref b), (1, .int (zI k)), (2, .int (zI t))]) hx hb dX5_channelDoes_3 hl (by decide) rfl (fun ls hl => ?_)
  refine z_cap (fun WW wi wo => ?_)
  have hL : ∀ (n : Nat) (d i : Int) (ls : Array Slot), d = bI (∀ o, 0 ≤ o → o < i → zChanOk1 σ k t o) → 0 ≤ i ∧ i ≤ σ 14 0 → (σ 14 0 - i).toNat < n → lv_has ls 5 [(0, .ref b), (1, .int (zI k)), (2, .int (zI t)), (3, .int (zI d)), (4, .int (zI i))] → WW s.heap [] 0 0 (F0 m 5 ls []) := by
    intro n
    induction n with
    | zero => intro d i ls hd hi hm; exact absurd hm (Nat.not_lt_zero _)
    | succ n ih =>
      intro d i ls hd hi hm hl
      refine wi _ _ _ _ _ ?_
      have hd2 : 0 ≤ d ∧ d ≤ 1 := by rw [hd]; exact bI_rng _
      refine lv_iload hx hb dX5_channelDoes_5 (lv_at hl 4 rfl) ?_
      refine lv_aload_n hx hb dX5_channelDoes_7 rfl (lv_at hl 0 rfl) ?_
      refine m_get hx hb hts in_X5_channelDoes hown hK hR 14 (by decide) lk_X5_channelDoes_71 rfl rfl dX5_channelDoes_8 ?_
      refine z_icmp_ge (tgt := 73) hx hb dX5_channelDoes_11 (by decide) (by omega) (fun c_1 => ?_) (fun c_1 => ?_)
      · refine lv_iload_n hx hb dX5_channelDoes_73 rfl (lv_at hl 3 rfl) ?_
        exact W.zret hx hb hr (by rw [show d = bI (zChanOk σ k t) by rw [hd, show i = σ 14 0 by omega]; rfl]; exact bI_narrow _) (z_end (post := fun r => r = .int (zI (bI (zChanOk σ k t)))) (z_eq (a := d) (b := bI (zChanOk σ k t)) (by rw [hd, show i = σ 14 0 by omega]; rfl))) (fun _ h => nomatch h) dX5_channelDoes_74
      · have fi := hI.c (i := i) (by omega)
        have gi := hI.s (i := σ 15 i) (by omega)
        refine lv_iload_n hx hb dX5_channelDoes_14 rfl (lv_at hl 3 rfl) ?_
        refine z_if_eq (tgt := 65) hx hb dX5_channelDoes_15 (by decide) (by omega) (fun c_2 => ?_) (fun c_2 => ?_)
        · refine z_iconst hx hb dX5_channelDoes_65 ?_
          refine lv_istore_n (lv' := [(3, .int (zI 0)), (0, .ref b), (1, .int (zI k)), (2, .int (zI t)), (4, .int (zI i))]) hx hb dX5_channelDoes_66 rfl hl (by decide) rfl (fun ls hl => ?_)
          refine z_iinc (lv' := [(4, .int (zI (i + 1))), (3, .int (zI 0)), (0, .ref b), (1, .int (zI k)), (2, .int (zI t))]) hx hb dX5_channelDoes_67 hl (k := 4) rfl (by decide) rfl (fun ls hl => ?_)
          refine lv_goto (tgt := 5) hx hb dX5_channelDoes_70 (by decide) ?_
          exact wo _ _ _ _ _ (ih 0 (i + 1) ls (by first | exact bI_all_d hd (by omega) | exact bI_all_f hi.1 (by intro hP; have hP := hP (by omega) (by omega); omega)) (by omega) (by omega) (lv_sub hl [2, 3, 4, 1, 0] rfl))
        · refine lv_iload hx hb dX5_channelDoes_18 (lv_at hl 4 rfl) ?_
          refine lv_iload_n hx hb dX5_channelDoes_20 rfl (lv_at hl 1 rfl) ?_
          refine z_icmp_eq (tgt := 61) hx hb dX5_channelDoes_21 (by decide) (by omega) (fun c_3 => ?_) (fun c_3 => ?_)
          · refine z_iconst hx hb dX5_channelDoes_61 ?_
            refine lv_goto (tgt := 66) hx hb dX5_channelDoes_62 (by decide) ?_
            refine lv_istore_n (lv' := [(3, .int (zI 1)), (0, .ref b), (1, .int (zI k)), (2, .int (zI t)), (4, .int (zI i))]) hx hb dX5_channelDoes_66 rfl hl (by decide) rfl (fun ls hl => ?_)
            refine z_iinc (lv' := [(4, .int (zI (i + 1))), (3, .int (zI 1)), (0, .ref b), (1, .int (zI k)), (2, .int (zI t))]) hx hb dX5_channelDoes_67 hl (k := 4) rfl (by decide) rfl (fun ls hl => ?_)
            refine lv_goto (tgt := 5) hx hb dX5_channelDoes_70 (by decide) ?_
            exact wo _ _ _ _ _ (ih 1 (i + 1) ls (by exact bI_all_1 hi.1 hd (by omega) (by intro h1 h2; omega)) (by omega) (by omega) (lv_sub hl [2, 3, 4, 1, 0] rfl))
          · refine lv_aload_n hx hb dX5_channelDoes_24 rfl (lv_at hl 0 rfl) ?_
            refine lv_iload hx hb dX5_channelDoes_25 (lv_at hl 4 rfl) ?_
            refine z_cv (As := [.int (zI i)]) (rest := []) ⟨hx, hb, hml, hown, hts⟩ (c_X5_hasSlot l D cI cO cL b ma σ s.heap hR i hI (by omega)) (cwV 1 hts gX5_channelDoes_X5_hasSlot rfl rfl rfl (by decide +kernel) ⟨Nat.le_of_ble_eq_true rfl, Nat.le_of_ble_eq_true rfl⟩) (zKK_mv D cI cO cL) (fun U _ hv => va_K.moved hv hK) (m_recv hK hR) rfl hl.1 rfl (Nat.le_of_ble_eq_true rfl) dX5_channelDoes_27 ⟨Nat.zero_le _, Nat.zero_le _⟩ (fun r_4 hr_4 => ?_)
            rw [hr_4]
            refine z_ifb_eq (tgt := 61) hx hb dX5_channelDoes_30 (by decide) (fun c_5 => ?_) (fun c_5 => ?_)
            · refine z_iconst hx hb dX5_channelDoes_61 ?_
              refine lv_goto (tgt := 66) hx hb dX5_channelDoes_62 (by decide) ?_
              refine lv_istore_n (lv' := [(3, .int (zI 1)), (0, .ref b), (1, .int (zI k)), (2, .int (zI t)), (4, .int (zI i))]) hx hb dX5_channelDoes_66 rfl hl (by decide) rfl (fun ls hl => ?_)
              refine z_iinc (lv' := [(4, .int (zI (i + 1))), (3, .int (zI 1)), (0, .ref b), (1, .int (zI k)), (2, .int (zI t))]) hx hb dX5_channelDoes_67 hl (k := 4) rfl (by decide) rfl (fun ls hl => ?_)
              refine lv_goto (tgt := 5) hx hb dX5_channelDoes_70 (by decide) ?_
              exact wo _ _ _ _ _ (ih 1 (i + 1) ls (by exact bI_all_1 hi.1 hd (by omega) (by intro h1 h2; omega)) (by omega) (by omega) (lv_sub hl [2, 3, 4, 1, 0] rfl))
            · refine lv_iload_n hx hb dX5_channelDoes_33 rfl (lv_at hl 2 rfl) ?_
              refine lv_aload_n hx hb dX5_channelDoes_34 rfl (lv_at hl 0 rfl) ?_
              refine m_get hx hb hts in_X5_channelDoes hown hK hR 20 (by decide) lk_X5_channelDoes_56 rfl rfl dX5_channelDoes_35 ?_
              refine lv_iload hx hb dX5_channelDoes_38 (lv_at hl 4 rfl) ?_
              refine m_ald hx hb hK hR 20 rfl (by show 0 ≤ i ∧ i < ((40 : Nat) : Int); omega) dX5_channelDoes_40 ?_
              refine z_isub hx hb dX5_channelDoes_41 ?_
              refine z_bipush hx hb dX5_channelDoes_42 (by decide +kernel) ?_
              refine z_icmp_ge (tgt := 61) hx hb dX5_channelDoes_44 (by decide) (by omega) (fun c_6 => ?_) (fun c_6 => ?_)
              · refine z_iconst hx hb dX5_channelDoes_61 ?_
                refine lv_goto (tgt := 66) hx hb dX5_channelDoes_62 (by decide) ?_
                refine lv_istore_n (lv' := [(3, .int (zI 1)), (0, .ref b), (1, .int (zI k)), (2, .int (zI t)), (4, .int (zI i))]) hx hb dX5_channelDoes_66 rfl hl (by decide) rfl (fun ls hl => ?_)
                refine z_iinc (lv' := [(4, .int (zI (i + 1))), (3, .int (zI 1)), (0, .ref b), (1, .int (zI k)), (2, .int (zI t))]) hx hb dX5_channelDoes_67 hl (k := 4) rfl (by decide) rfl (fun ls hl => ?_)
                refine lv_goto (tgt := 5) hx hb dX5_channelDoes_70 (by decide) ?_
                exact wo _ _ _ _ _ (ih 1 (i + 1) ls (by exact bI_all_1 hi.1 hd (by omega) (by intro h1 h2; omega)) (by omega) (by omega) (lv_sub hl [2, 3, 4, 1, 0] rfl))
              · refine lv_aload_n hx hb dX5_channelDoes_47 rfl (lv_at hl 0 rfl) ?_
                refine m_get hx hb hts in_X5_channelDoes hown hK hR 20 (by decide) lk_X5_channelDoes_56 rfl rfl dX5_channelDoes_48 ?_
                refine lv_iload hx hb dX5_channelDoes_51 (lv_at hl 4 rfl) ?_
                refine m_ald hx hb hK hR 20 rfl (by show 0 ≤ i ∧ i < ((40 : Nat) : Int); omega) dX5_channelDoes_53 ?_
                refine lv_iload_n hx hb dX5_channelDoes_54 rfl (lv_at hl 2 rfl) ?_
                refine z_isub hx hb dX5_channelDoes_55 ?_
                refine z_bipush hx hb dX5_channelDoes_56 (by decide +kernel) ?_
                refine z_icmp_lt (tgt := 65) hx hb dX5_channelDoes_58 (by decide) (by omega) (fun c_7 => ?_) (fun c_7 => ?_)
                · refine z_iconst hx hb dX5_channelDoes_65 ?_
                  refine lv_istore_n (lv' := [(3, .int (zI 0)), (0, .ref b), (1, .int (zI k)), (2, .int (zI t)), (4, .int (zI i))]) hx hb dX5_channelDoes_66 rfl hl (by decide) rfl (fun ls hl => ?_)
                  refine z_iinc (lv' := [(4, .int (zI (i + 1))), (3, .int (zI 0)), (0, .ref b), (1, .int (zI k)), (2, .int (zI t))]) hx hb dX5_channelDoes_67 hl (k := 4) rfl (by decide) rfl (fun ls hl => ?_)
                  refine lv_goto (tgt := 5) hx hb dX5_channelDoes_70 (by decide) ?_
                  exact wo _ _ _ _ _ (ih 0 (i + 1) ls (by first | exact bI_all_d hd (by omega) | exact bI_all_f hi.1 (by intro hP; have hP := hP (by omega) (by omega); omega)) (by omega) (by omega) (lv_sub hl [2, 3, 4, 1, 0] rfl))
                · refine z_iconst hx hb dX5_channelDoes_61 ?_
                  refine lv_goto (tgt := 66) hx hb dX5_channelDoes_62 (by decide) ?_
                  refine lv_istore_n (lv' := [(3, .int (zI 1)), (0, .ref b), (1, .int (zI k)), (2, .int (zI t)), (4, .int (zI i))]) hx hb dX5_channelDoes_66 rfl hl (by decide) rfl (fun ls hl => ?_)
                  refine z_iinc (lv' := [(4, .int (zI (i + 1))), (3, .int (zI 1)), (0, .ref b), (1, .int (zI k)), (2, .int (zI t))]) hx hb dX5_channelDoes_67 hl (k := 4) rfl (by decide) rfl (fun ls hl => ?_)
                  refine lv_goto (tgt := 5) hx hb dX5_channelDoes_70 (by decide) ?_
                  exact wo _ _ _ _ _ (ih 1 (i + 1) ls (by exact bI_all_1 hi.1 hd (by omega) (by intro h1 h2; omega)) (by omega) (by omega) (lv_sub hl [2, 3, 4, 1, 0] rfl))
  exact wo _ _ _ _ _ (hL _ 1 0 ls (by exact bI_all_0 (by omega)) (by omega) (Nat.lt_succ_self _) (lv_sub hl [2, 3, 4, 1, 0] rfl))

theorem lk_X5_tugsDo_26 : Cond.fieldLink RX5 26 "HarbourPilotlineModel" "takes" "[I" ∈ wsX5_tugsDo := by decide +kernel
theorem lk_X5_tugsDo_41 : Cond.fieldLink RX5 41 "HarbourPilotlineModel" "ship" "[I" ∈ wsX5_tugsDo := by decide +kernel
theorem lk_X5_tugsDo_29 : Cond.fieldLink RX5 29 "HarbourPilotlineModel" "needs" "[I" ∈ wsX5_tugsDo := by decide +kernel
theorem lk_X5_tugsDo_16 : Cond.fieldLink RX5 16 "HarbourPilotlineModel" "tugs" "I" ∈ wsX5_tugsDo := by decide +kernel
theorem in_X5_tugsDo : ∀ w ∈ wsX50, w ∈ wsX5_tugsDo := by decide +kernel
set_option maxRecDepth 100000 in
set_option maxHeartbeats 4000000 in
theorem c_X5_tugsDo (l : Launch) (D : va_G) (cI cO cL : ClassId) (b : Nat) (ma : Nat → Nat) (σ : zT) (H0 : Heap) (hR : RM D cI b ma σ H0) (k t : Int) (hI : zInv σ) (hk : 0 ≤ k ∧ k < σ 14 0) (hv : 0 ≤ t ∧ t < 900000) : zPM l yX5_tugsDo wsX5_tugsDo ({ frames := 2, cells := 0, slots := 0, locals := 46 }) (zKK D cI cO cL) [.ref b, .int (zI k), .int (zI t)] H0 (fun r => r = .int (zI (bI (zTugOk σ k t)))) := by
  refine Met.ofW (cc := cX5_tugsDo) (maxL := 5) (ret := (some .boolean)) (by decide) rfl ?_
  intro p e s m args below meth c s₁ B hml hv
  obtain ⟨rfl, hH, hK⟩ := hv
  subst hH
  have hx := B.exec
  have hb := B.bytes
  have hr := B.returns
  have hts := atoms_spec (ws := wsX5_tugsDo) B.pre
  have hown : s.vm.findClass RX5 = some m.cls := findClass_of_methodNamed B.named
  have hlocks := B.notSynchronized
  have hl := lv_entry ([.ref b, .int (zI k), .int (zI t)]) (n := 5) (Nat.le_of_ble_eq_true rfl)
  rw [lg_entry_eq]
  generalize (lg_sl ([.ref b, .int (zI k), .int (zI t)]) ++ List.replicate (5 - (lg_sl ([.ref b, .int (zI k), .int (zI t)])).length) Slot.unset).toArray = ls at hl ⊢
  have hl : lv_has ls 5 [(0, .ref b), (1, .int (zI k)), (2, .int (zI t))] := hl
  have f0 := hI.r
  have fk := hI.c hk
  have gk := hI.s (i := σ 15 k) (by omega)
  refine z_iconst hx hb dX5_tugsDo_0 ?_
  refine lv_istore_n (lv' := [(3, .int (zI 1)), (0, .ref b), (1, .int (zI k)), (2, .int (zI t))]) hx hb dX5_tugsDo_1 rfl hl (by decide) rfl (fun ls hl => ?_)
  refine lv_iload_n hx hb dX5_tugsDo_2 rfl (lv_at hl 3 rfl) ?_
  refine lv_istore (lv' := [(4, .int (zI t)), (3, .int (zI 1)), (0, .ref b), (1, .int (zI k)), (2, .int (zI t))]) hx hb dX5_tugsDo_3 hl (by decide) rfl (fun ls hl => ?_)
  refine z_cap (fun WW wi wo => ?_)
  have hL : ∀ (n : Nat) (d i : Int) (ls : Array Slot), d = bI (∀ mm, t ≤ mm → mm < i → zTugs σ k mm + zNd σ k ≤ σ 4 0) → t ≤ i ∧ i ≤ t + σ 8 (σ 15 k) → (t + σ 8 (σ 15 k) - i).toNat < n → lv_has ls 5 [(0, .ref b), (1, .int (zI k)), (2, .int (zI t)), (3, .int (zI d)), (4, .int (zI i))] → WW s.heap [] 0 0 (F0 m 5 ls []) := by
    intro n
    induction n with
    | zero => intro d i ls hd hi hm; exact absurd hm (Nat.not_lt_zero _)
    | succ n ih =>
      intro d i ls hd hi hm hl
      refine wi _ _ _ _ _ ?_
      have hd2 : 0 ≤ d ∧ d ≤ 1 := by rw [hd]; exact bI_rng _
      have ht := zTugs_r hI k i
      refine lv_iload hx hb dX5_tugsDo_5 (lv_at hl 4 rfl) ?_
      refine lv_iload_n hx hb dX5_tugsDo_7 rfl (lv_at hl 2 rfl) ?_
      refine lv_aload_n hx hb dX5_tugsDo_8 rfl (lv_at hl 0 rfl) ?_
      refine m_get hx hb hts in_X5_tugsDo hown hK hR 8 (by decide) lk_X5_tugsDo_26 rfl rfl dX5_tugsDo_9 ?_
      refine lv_aload_n hx hb dX5_tugsDo_12 rfl (lv_at hl 0 rfl) ?_
      refine m_get hx hb hts in_X5_tugsDo hown hK hR 15 (by decide) lk_X5_tugsDo_41 rfl rfl dX5_tugsDo_13 ?_
      refine lv_iload_n hx hb dX5_tugsDo_16 rfl (lv_at hl 1 rfl) ?_
      refine m_ald hx hb hK hR 15 rfl (by show 0 ≤ k ∧ k < ((40 : Nat) : Int); omega) dX5_tugsDo_17 ?_
      refine m_ald hx hb hK hR 8 rfl (by show 0 ≤ (σ 15 k) ∧ (σ 15 k) < ((12 : Nat) : Int); omega) dX5_tugsDo_18 ?_
      refine z_iadd hx hb dX5_tugsDo_19 ?_
      refine z_icmp_ge (tgt := 65) hx hb dX5_tugsDo_20 (by decide) (by omega) (fun c_1 => ?_) (fun c_1 => ?_)
      · refine lv_iload_n hx hb dX5_tugsDo_65 rfl (lv_at hl 3 rfl) ?_
        exact W.zret hx hb hr (by rw [show d = bI (zTugOk σ k t) by rw [hd, show i = t + σ 8 (σ 15 k) by omega]; rfl]; exact bI_narrow _) (z_end (post := fun r => r = .int (zI (bI (zTugOk σ k t)))) (z_eq (a := d) (b := bI (zTugOk σ k t)) (by rw [hd, show i = t + σ 8 (σ 15 k) by omega]; rfl))) (fun _ h => nomatch h) dX5_tugsDo_66
      · refine lv_iload_n hx hb dX5_tugsDo_23 rfl (lv_at hl 3 rfl) ?_
        refine z_if_eq (tgt := 65) hx hb dX5_tugsDo_24 (by decide) (by omega) (fun c_2 => ?_) (fun c_2 => ?_)
        · refine lv_iload_n hx hb dX5_tugsDo_65 rfl (lv_at hl 3 rfl) ?_
          exact W.zret hx hb hr (by rw [show d = bI (zTugOk σ k t) by rw [show d = 0 by omega]; rw [show d = 0 by omega] at hd; have hn := bI_eq0.mp hd.symm; exact (bI_f (fun h => hn (fun o a b => h o a (by simp only [zTk]; omega)))).symm]; exact bI_narrow _) (z_end (post := fun r => r = .int (zI (bI (zTugOk σ k t)))) (z_eq (a := d) (b := bI (zTugOk σ k t)) (by rw [show d = 0 by omega]; rw [show d = 0 by omega] at hd; have hn := bI_eq0.mp hd.symm; exact (bI_f (fun h => hn (fun o a b => h o a (by simp only [zTk]; omega)))).symm))) (fun _ h => nomatch h) dX5_tugsDo_66
        · refine lv_aload_n hx hb dX5_tugsDo_27 rfl (lv_at hl 0 rfl) ?_
          refine lv_iload_n hx hb dX5_tugsDo_28 rfl (lv_at hl 1 rfl) ?_
          refine lv_iload hx hb dX5_tugsDo_29 (lv_at hl 4 rfl) ?_
          refine z_cv (As := [.int (zI k), .int (zI i)]) (rest := []) ⟨hx, hb, hml, hown, hts⟩ (c_X5_tugsIn l D cI cO cL b ma σ s.heap hR k i hI (by omega) (by omega)) (cwV 2 hts gX5_tugsDo_X5_tugsIn rfl rfl rfl (by decide +kernel) ⟨Nat.le_of_ble_eq_true rfl, Nat.le_of_ble_eq_true rfl⟩) (zKK_mv D cI cO cL) (fun U _ hv => va_K.moved hv hK) (m_recv hK hR) rfl hl.1 rfl (Nat.le_of_ble_eq_true rfl) dX5_tugsDo_31 ⟨Nat.zero_le _, Nat.zero_le _⟩ (fun r_3 hr_3 => ?_)
          rw [hr_3]
          refine lv_aload_n hx hb dX5_tugsDo_34 rfl (lv_at hl 0 rfl) ?_
          refine m_get hx hb hts in_X5_tugsDo hown hK hR 9 (by decide) lk_X5_tugsDo_29 rfl rfl dX5_tugsDo_35 ?_
          refine lv_aload_n hx hb dX5_tugsDo_38 rfl (lv_at hl 0 rfl) ?_
          refine m_get hx hb hts in_X5_tugsDo hown hK hR 15 (by decide) lk_X5_tugsDo_41 rfl rfl dX5_tugsDo_39 ?_
          refine lv_iload_n hx hb dX5_tugsDo_42 rfl (lv_at hl 1 rfl) ?_
          refine m_ald hx hb hK hR 15 rfl (by show 0 ≤ k ∧ k < ((40 : Nat) : Int); omega) dX5_tugsDo_43 ?_
          refine m_ald hx hb hK hR 9 rfl (by show 0 ≤ (σ 15 k) ∧ (σ 15 k) < ((12 : Nat) : Int); omega) dX5_tugsDo_44 ?_
          refine z_iadd hx hb dX5_tugsDo_45 ?_
          refine lv_aload_n hx hb dX5_tugsDo_46 rfl (lv_at hl 0 rfl) ?_
          refine m_get hx hb hts in_X5_tugsDo hown hK hR 4 (by decide) lk_X5_tugsDo_16 rfl rfl dX5_tugsDo_47 ?_
          refine z_icmp_gt (tgt := 57) hx hb dX5_tugsDo_50 (by decide) (by omega) (fun c_4 => ?_) (fun c_4 => ?_)
          · refine z_iconst hx hb dX5_tugsDo_57 ?_
            refine lv_istore_n (lv' := [(3, .int (zI 0)), (0, .ref b), (1, .int (zI k)), (2, .int (zI t)), (4, .int (zI i))]) hx hb dX5_tugsDo_58 rfl hl (by decide) rfl (fun ls hl => ?_)
            refine z_iinc (lv' := [(4, .int (zI (i + 1))), (3, .int (zI 0)), (0, .ref b), (1, .int (zI k)), (2, .int (zI t))]) hx hb dX5_tugsDo_59 hl (k := 4) rfl (by decide) rfl (fun ls hl => ?_)
            refine lv_goto (tgt := 5) hx hb dX5_tugsDo_62 (by decide) ?_
            exact wo _ _ _ _ _ (ih 0 (i + 1) ls (by exact bI_from_f hi.1 (by simp only [zNd]; omega)) (by omega) (by omega) (lv_sub hl [2, 3, 4, 1, 0] rfl))
          · refine z_iconst hx hb dX5_tugsDo_53 ?_
            refine lv_goto (tgt := 58) hx hb dX5_tugsDo_54 (by decide) ?_
            refine lv_istore_n (lv' := [(3, .int (zI 1)), (0, .ref b), (1, .int (zI k)), (2, .int (zI t)), (4, .int (zI i))]) hx hb dX5_tugsDo_58 rfl hl (by decide) rfl (fun ls hl => ?_)
            refine z_iinc (lv' := [(4, .int (zI (i + 1))), (3, .int (zI 1)), (0, .ref b), (1, .int (zI k)), (2, .int (zI t))]) hx hb dX5_tugsDo_59 hl (k := 4) rfl (by decide) rfl (fun ls hl => ?_)
            refine lv_goto (tgt := 5) hx hb dX5_tugsDo_62 (by decide) ?_
            exact wo _ _ _ _ _ (ih 1 (i + 1) ls (by exact bI_from_1 hd (by omega) (by simp only [zNd]; omega)) (by omega) (by omega) (lv_sub hl [2, 3, 4, 1, 0] rfl))
  exact wo _ _ _ _ _ (hL _ 1 t ls (by exact bI_from_0 (by omega)) (by omega) (Nat.lt_succ_self _) (lv_sub hl [2, 3, 4, 1, 0] rfl))

theorem lk_X5_tideDoes_26 : Cond.fieldLink RX5 26 "HarbourPilotlineModel" "takes" "[I" ∈ wsX5_tideDoes := by decide +kernel
theorem lk_X5_tideDoes_7 : Cond.fieldLink RX5 7 "HarbourPilotlineModel" "depth" "I" ∈ wsX5_tideDoes := by decide +kernel
theorem lk_X5_tideDoes_19 : Cond.fieldLink RX5 19 "HarbourPilotlineModel" "draught" "[I" ∈ wsX5_tideDoes := by decide +kernel
theorem in_X5_tideDoes : ∀ w ∈ wsX50, w ∈ wsX5_tideDoes := by decide +kernel
set_option maxRecDepth 100000 in
set_option maxHeartbeats 4000000 in
theorem c_X5_tideDoes (l : Launch) (D : va_G) (cI cO cL : ClassId) (b : Nat) (ma : Nat → Nat) (σ : zT) (H0 : Heap) (hR : RM D cI b ma σ H0) (k t : Int) (hI : zInv σ) (hk : 0 ≤ k ∧ k < σ 5 0) (hv : 0 ≤ t ∧ t < 900000) : zPM l yX5_tideDoes wsX5_tideDoes ({ frames := 1, cells := 0, slots := 0, locals := 22 }) (zKK D cI cO cL) [.ref b, .int (zI k), .int (zI t)] H0 (fun r => r = .int (zI (bI (zTideOk σ k t)))) := by
  refine Met.ofW (cc := cX5_tideDoes) (maxL := 7) (ret := (some .boolean)) (by decide) rfl ?_
  intro p e s m args below meth c s₁ B hml hv
  obtain ⟨rfl, hH, hK⟩ := hv
  subst hH
  have hx := B.exec
  have hb := B.bytes
  have hr := B.returns
  have hts := atoms_spec (ws := wsX5_tideDoes) B.pre
  have hown : s.vm.findClass RX5 = some m.cls := findClass_of_methodNamed B.named
  have hlocks := B.notSynchronized
  have hl := lv_entry ([.ref b, .int (zI k), .int (zI t)]) (n := 7) (Nat.le_of_ble_eq_true rfl)
  rw [lg_entry_eq]
  generalize (lg_sl ([.ref b, .int (zI k), .int (zI t)]) ++ List.replicate (7 - (lg_sl ([.ref b, .int (zI k), .int (zI t)])).length) Slot.unset).toArray = ls at hl ⊢
  have hl : lv_has ls 7 [(0, .ref b), (1, .int (zI k)), (2, .int (zI t))] := hl
  have f0 := hI.r
  have gk := hI.s hk
  have l1 := zLev_r f0.2.2.1 t
  have l2 := zLev_r f0.2.2.1 (t + σ 8 k - 1)
  refine lv_iload_n hx hb dX5_tideDoes_0 rfl (lv_at hl 2 rfl) ?_
  refine lv_aload_n hx hb dX5_tideDoes_1 rfl (lv_at hl 0 rfl) ?_
  refine m_get hx hb hts in_X5_tideDoes hown hK hR 8 (by decide) lk_X5_tideDoes_26 rfl rfl dX5_tideDoes_2 ?_
  refine lv_iload_n hx hb dX5_tideDoes_5 rfl (lv_at hl 1 rfl) ?_
  refine m_ald hx hb hK hR 8 rfl (by show 0 ≤ k ∧ k < ((12 : Nat) : Int); omega) dX5_tideDoes_6 ?_
  refine z_iadd hx hb dX5_tideDoes_7 ?_
  refine z_iconst hx hb dX5_tideDoes_8 ?_
  refine z_isub hx hb dX5_tideDoes_9 ?_
  refine lv_istore_n (lv' := [(3, .int (zI ((t + (σ 8 k)) - 1))), (0, .ref b), (1, .int (zI k)), (2, .int (zI t))]) hx hb dX5_tideDoes_10 rfl hl (by decide) rfl (fun ls hl => ?_)
  refine lv_aload_n hx hb dX5_tideDoes_11 rfl (lv_at hl 1 rfl) ?_
  refine lv_iload_n hx hb dX5_tideDoes_12 rfl (lv_at hl 3 rfl) ?_
  refine z_cv (As := [.int (zI t)]) (rest := []) ⟨hx, hb, hml, hown, hts⟩ (c_X5_levelAt l D cI cO cL b ma σ s.heap hR t hI (by omega)) (cwV 1 hts gX5_tideDoes_X5_levelAt rfl rfl rfl (by decide +kernel) ⟨Nat.le_of_ble_eq_true rfl, Nat.le_of_ble_eq_true rfl⟩) (zKK_mv D cI cO cL) (fun U _ hv => va_K.moved hv hK) (m_recv hK hR) rfl hl.1 rfl (Nat.le_of_ble_eq_true rfl) dX5_tideDoes_13 ⟨Nat.zero_le _, Nat.zero_le _⟩ (fun r_1 hr_1 => ?_)
  rw [hr_1]
  refine lv_istore (lv' := [(4, .int (zI (zLev σ t))), (3, .int (zI ((t + (σ 8 k)) - 1))), (0, .ref b), (1, .int (zI k)), (2, .int (zI t))]) hx hb dX5_tideDoes_16 hl (by decide) rfl (fun ls hl => ?_)
  refine lv_aload_n hx hb dX5_tideDoes_18 rfl (lv_at hl 2 rfl) ?_
  refine lv_iload_n hx hb dX5_tideDoes_19 rfl (lv_at hl 1 rfl) ?_
  refine z_cv (As := [.int (zI ((t + (σ 8 k)) - 1))]) (rest := []) ⟨hx, hb, hml, hown, hts⟩ (c_X5_levelAt l D cI cO cL b ma σ s.heap hR ((t + (σ 8 k)) - 1) hI (by omega)) (cwV 1 hts gX5_tideDoes_X5_levelAt rfl rfl rfl (by decide +kernel) ⟨Nat.le_of_ble_eq_true rfl, Nat.le_of_ble_eq_true rfl⟩) (zKK_mv D cI cO cL) (fun U _ hv => va_K.moved hv hK) (m_recv hK hR) rfl hl.1 rfl (Nat.le_of_ble_eq_true rfl) dX5_tideDoes_20 ⟨Nat.zero_le _, Nat.zero_le _⟩ (fun r_2 hr_2 => ?_)
  rw [hr_2]
  refine lv_istore (lv' := [(5, .int (zI (zLev σ ((t + (σ 8 k)) - 1)))), (4, .int (zI (zLev σ t))), (3, .int (zI ((t + (σ 8 k)) - 1))), (0, .ref b), (1, .int (zI k)), (2, .int (zI t))]) hx hb dX5_tideDoes_23 hl (by decide) rfl (fun ls hl => ?_)
  refine lv_iload_n hx hb dX5_tideDoes_25 rfl (lv_at hl 5 rfl) ?_
  refine z_sipush hx hb dX5_tideDoes_26 (by decide +kernel) ?_
  refine z_idiv hx hb dX5_tideDoes_29 (by omega) ?_
  refine lv_iload_n hx hb dX5_tideDoes_30 rfl (lv_at hl 2 rfl) ?_
  refine z_sipush hx hb dX5_tideDoes_31 (by decide +kernel) ?_
  refine z_idiv hx hb dX5_tideDoes_34 (by omega) ?_
  refine z_icmp_ge (tgt := 42) hx hb dX5_tideDoes_35 (by decide) (by omega) (fun c_3 => ?_) (fun c_3 => ?_)
  · refine lv_iload hx hb dX5_tideDoes_42 (lv_at hl 1 rfl) ?_
    refine lv_iload hx hb dX5_tideDoes_44 (lv_at hl 0 rfl) ?_
    refine z_icmp_ge (tgt := 54) hx hb dX5_tideDoes_46 (by decide) (by omega) (fun c_4 => ?_) (fun c_4 => ?_)
    · refine lv_iload hx hb dX5_tideDoes_54 (lv_at hl 0 rfl) ?_
      refine lv_istore (lv' := [(6, .int (zI (zLev σ ((t + (σ 8 k)) - 1)))), (5, .int (zI (zLev σ ((t + (σ 8 k)) - 1)))), (4, .int (zI (zLev σ t))), (3, .int (zI ((t + (σ 8 k)) - 1))), (0, .ref b), (1, .int (zI k)), (2, .int (zI t))]) hx hb dX5_tideDoes_56 hl (by decide) rfl (fun ls hl => ?_)
      refine lv_aload_n hx hb dX5_tideDoes_58 rfl (lv_at hl 4 rfl) ?_
      refine m_get hx hb hts in_X5_tideDoes hown hK hR 2 (by decide) lk_X5_tideDoes_7 rfl rfl dX5_tideDoes_59 ?_
      refine lv_iload hx hb dX5_tideDoes_62 (lv_at hl 0 rfl) ?_
      refine z_iadd hx hb dX5_tideDoes_64 ?_
      refine lv_aload_n hx hb dX5_tideDoes_65 rfl (lv_at hl 4 rfl) ?_
      refine m_get hx hb hts in_X5_tideDoes hown hK hR 6 (by decide) lk_X5_tideDoes_19 rfl rfl dX5_tideDoes_66 ?_
      refine lv_iload_n hx hb dX5_tideDoes_69 rfl (lv_at hl 5 rfl) ?_
      refine m_ald hx hb hK hR 6 rfl (by show 0 ≤ k ∧ k < ((12 : Nat) : Int); omega) dX5_tideDoes_70 ?_
      refine z_bipush hx hb dX5_tideDoes_71 (by decide +kernel) ?_
      refine z_iadd hx hb dX5_tideDoes_73 ?_
      refine z_icmp_lt (tgt := 81) hx hb dX5_tideDoes_74 (by decide) (by omega) (fun c_5 => ?_) (fun c_5 => ?_)
      · refine z_iconst hx hb dX5_tideDoes_81 ?_
        exact W.zret hx hb hr rfl (z_end (post := fun r => r = .int (zI (bI (zTideOk σ k t)))) (z_eq (a := 0) (b := bI (zTideOk σ k t)) (bI_f (by first | (rw [zTide_a f0.2.2.1 (by omega) (by assumption)]; omega) | (rw [zTide_b (x := zLev σ t) f0.2.2.1 (by omega) (by omega) (by omega)]; omega) | (rw [zTide_b (x := zLev σ (t + σ 8 k - 1)) f0.2.2.1 (by omega) (by omega) (by omega)]; omega))).symm)) (fun _ h => nomatch h) dX5_tideDoes_82
      · refine z_iconst hx hb dX5_tideDoes_77 ?_
        refine lv_goto (tgt := 82) hx hb dX5_tideDoes_78 (by decide) ?_
        exact W.zret hx hb hr rfl (z_end (post := fun r => r = .int (zI (bI (zTideOk σ k t)))) (z_eq (a := 1) (b := bI (zTideOk σ k t)) (bI_t (by first | (rw [zTide_a f0.2.2.1 (by omega) (by assumption)]; omega) | (rw [zTide_b (x := zLev σ t) f0.2.2.1 (by omega) (by omega) (by omega)]; omega) | (rw [zTide_b (x := zLev σ (t + σ 8 k - 1)) f0.2.2.1 (by omega) (by omega) (by omega)]; omega))).symm)) (fun _ h => nomatch h) dX5_tideDoes_82
    · refine lv_iload hx hb dX5_tideDoes_49 (lv_at hl 1 rfl) ?_
      refine lv_goto (tgt := 56) hx hb dX5_tideDoes_51 (by decide) ?_
      refine lv_istore (lv' := [(6, .int (zI (zLev σ t))), (5, .int (zI (zLev σ ((t + (σ 8 k)) - 1)))), (4, .int (zI (zLev σ t))), (3, .int (zI ((t + (σ 8 k)) - 1))), (0, .ref b), (1, .int (zI k)), (2, .int (zI t))]) hx hb dX5_tideDoes_56 hl (by decide) rfl (fun ls hl => ?_)
      refine lv_aload_n hx hb dX5_tideDoes_58 rfl (lv_at hl 4 rfl) ?_
      refine m_get hx hb hts in_X5_tideDoes hown hK hR 2 (by decide) lk_X5_tideDoes_7 rfl rfl dX5_tideDoes_59 ?_
      refine lv_iload hx hb dX5_tideDoes_62 (lv_at hl 0 rfl) ?_
      refine z_iadd hx hb dX5_tideDoes_64 ?_
      refine lv_aload_n hx hb dX5_tideDoes_65 rfl (lv_at hl 4 rfl) ?_
      refine m_get hx hb hts in_X5_tideDoes hown hK hR 6 (by decide) lk_X5_tideDoes_19 rfl rfl dX5_tideDoes_66 ?_
      refine lv_iload_n hx hb dX5_tideDoes_69 rfl (lv_at hl 5 rfl) ?_
      refine m_ald hx hb hK hR 6 rfl (by show 0 ≤ k ∧ k < ((12 : Nat) : Int); omega) dX5_tideDoes_70 ?_
      refine z_bipush hx hb dX5_tideDoes_71 (by decide +kernel) ?_
      refine z_iadd hx hb dX5_tideDoes_73 ?_
      refine z_icmp_lt (tgt := 81) hx hb dX5_tideDoes_74 (by decide) (by omega) (fun c_6 => ?_) (fun c_6 => ?_)
      · refine z_iconst hx hb dX5_tideDoes_81 ?_
        exact W.zret hx hb hr rfl (z_end (post := fun r => r = .int (zI (bI (zTideOk σ k t)))) (z_eq (a := 0) (b := bI (zTideOk σ k t)) (bI_f (by first | (rw [zTide_a f0.2.2.1 (by omega) (by assumption)]; omega) | (rw [zTide_b (x := zLev σ t) f0.2.2.1 (by omega) (by omega) (by omega)]; omega) | (rw [zTide_b (x := zLev σ (t + σ 8 k - 1)) f0.2.2.1 (by omega) (by omega) (by omega)]; omega))).symm)) (fun _ h => nomatch h) dX5_tideDoes_82
      · refine z_iconst hx hb dX5_tideDoes_77 ?_
        refine lv_goto (tgt := 82) hx hb dX5_tideDoes_78 (by decide) ?_
        exact W.zret hx hb hr rfl (z_end (post := fun r => r = .int (zI (bI (zTideOk σ k t)))) (z_eq (a := 1) (b := bI (zTideOk σ k t)) (bI_t (by first | (rw [zTide_a f0.2.2.1 (by omega) (by assumption)]; omega) | (rw [zTide_b (x := zLev σ t) f0.2.2.1 (by omega) (by omega) (by omega)]; omega) | (rw [zTide_b (x := zLev σ (t + σ 8 k - 1)) f0.2.2.1 (by omega) (by omega) (by omega)]; omega))).symm)) (fun _ h => nomatch h) dX5_tideDoes_82
  · refine z_iconst hx hb dX5_tideDoes_38 ?_
    refine lv_goto (tgt := 56) hx hb dX5_tideDoes_39 (by decide) ?_
    refine lv_istore (lv' := [(6, .int (zI 0)), (5, .int (zI (zLev σ ((t + (σ 8 k)) - 1)))), (4, .int (zI (zLev σ t))), (3, .int (zI ((t + (σ 8 k)) - 1))), (0, .ref b), (1, .int (zI k)), (2, .int (zI t))]) hx hb dX5_tideDoes_56 hl (by decide) rfl (fun ls hl => ?_)
    refine lv_aload_n hx hb dX5_tideDoes_58 rfl (lv_at hl 4 rfl) ?_
    refine m_get hx hb hts in_X5_tideDoes hown hK hR 2 (by decide) lk_X5_tideDoes_7 rfl rfl dX5_tideDoes_59 ?_
    refine lv_iload hx hb dX5_tideDoes_62 (lv_at hl 0 rfl) ?_
    refine z_iadd hx hb dX5_tideDoes_64 ?_
    refine lv_aload_n hx hb dX5_tideDoes_65 rfl (lv_at hl 4 rfl) ?_
    refine m_get hx hb hts in_X5_tideDoes hown hK hR 6 (by decide) lk_X5_tideDoes_19 rfl rfl dX5_tideDoes_66 ?_
    refine lv_iload_n hx hb dX5_tideDoes_69 rfl (lv_at hl 5 rfl) ?_
    refine m_ald hx hb hK hR 6 rfl (by show 0 ≤ k ∧ k < ((12 : Nat) : Int); omega) dX5_tideDoes_70 ?_
    refine z_bipush hx hb dX5_tideDoes_71 (by decide +kernel) ?_
    refine z_iadd hx hb dX5_tideDoes_73 ?_
    refine z_icmp_lt (tgt := 81) hx hb dX5_tideDoes_74 (by decide) (by omega) (fun c_7 => ?_) (fun c_7 => ?_)
    · refine z_iconst hx hb dX5_tideDoes_81 ?_
      exact W.zret hx hb hr rfl (z_end (post := fun r => r = .int (zI (bI (zTideOk σ k t)))) (z_eq (a := 0) (b := bI (zTideOk σ k t)) (bI_f (by first | (rw [zTide_a f0.2.2.1 (by omega) (by assumption)]; omega) | (rw [zTide_b (x := zLev σ t) f0.2.2.1 (by omega) (by omega) (by omega)]; omega) | (rw [zTide_b (x := zLev σ (t + σ 8 k - 1)) f0.2.2.1 (by omega) (by omega) (by omega)]; omega))).symm)) (fun _ h => nomatch h) dX5_tideDoes_82
    · refine z_iconst hx hb dX5_tideDoes_77 ?_
      refine lv_goto (tgt := 82) hx hb dX5_tideDoes_78 (by decide) ?_
      exact W.zret hx hb hr rfl (z_end (post := fun r => r = .int (zI (bI (zTideOk σ k t)))) (z_eq (a := 1) (b := bI (zTideOk σ k t)) (bI_t (by first | (rw [zTide_a f0.2.2.1 (by omega) (by assumption)]; omega) | (rw [zTide_b (x := zLev σ t) f0.2.2.1 (by omega) (by omega) (by omega)]; omega) | (rw [zTide_b (x := zLev σ (t + σ 8 k - 1)) f0.2.2.1 (by omega) (by omega) (by omega)]; omega))).symm)) (fun _ h => nomatch h) dX5_tideDoes_82
end
