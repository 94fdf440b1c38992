section
-- ===== PART A: goes FIRST, ahead of the names: the tables' words, and 'selects' of the private methods out of them =====
/-- a private method of a class that the tables say can be made, by its rows of tables_1 -/
def lw_okq (q : MethodName × Nat) : Prop := (q.1.cls ≠ "java/lang/invoke/MethodHandle" ∧ q.1.cls ≠ "java/lang/invoke/VarHandle") ∧ Cond.instantiable q.1.cls q.2 ∈ tables_1 ∧ Cond.privateMethod q.1 ∈ tables_1 ∧ Cond.instanceMethod q.1 ∈ tables_1
theorem lw_p0 : lw_okq (⟨"SandcastleLeague", "beginRound", "()V"⟩, 9) := ⟨⟨by decide +kernel, by decide +kernel⟩, List.mem_of_getElem? (i := 14) (by decide +kernel), List.mem_of_getElem? (i := 69) (by decide +kernel), List.mem_of_getElem? (i := 70) (by decide +kernel)⟩
theorem lw_p1 : lw_okq (⟨"SandcastleLeague", "teamsWithFewerPoints", "(I)I"⟩, 9) := ⟨⟨by decide +kernel, by decide +kernel⟩, List.mem_of_getElem? (i := 14) (by decide +kernel), List.mem_of_getElem? (i := 117) (by decide +kernel), List.mem_of_getElem? (i := 118) (by decide +kernel)⟩
theorem lw_p2 : lw_okq (⟨"java/lang/Throwable", "fillInStackTrace", "(I)Ljava/lang/Throwable;"⟩, 6) := ⟨⟨by decide +kernel, by decide +kernel⟩, List.mem_of_getElem? (i := 189) (by decide +kernel), List.mem_of_getElem? (i := 187) (by decide +kernel), List.mem_of_getElem? (i := 188) (by decide +kernel)⟩
theorem lw_p3 : lw_okq (⟨"SandcastleLeague", "requireTeam", "(I)V"⟩, 9) := ⟨⟨by decide +kernel, by decide +kernel⟩, List.mem_of_getElem? (i := 14) (by decide +kernel), List.mem_of_getElem? (i := 242) (by decide +kernel), List.mem_of_getElem? (i := 243) (by decide +kernel)⟩
theorem lw_p4 : lw_okq (⟨"SandcastleLeague", "requireStrength", "(I)V"⟩, 9) := ⟨⟨by decide +kernel, by decide +kernel⟩, List.mem_of_getElem? (i := 14) (by decide +kernel), List.mem_of_getElem? (i := 351) (by decide +kernel), List.mem_of_getElem? (i := 352) (by decide +kernel)⟩
theorem lw_p5 : lw_okq (⟨"SandcastleLeague$Shore", "soften", "(I)V"⟩, 9) := ⟨⟨by decide +kernel, by decide +kernel⟩, List.mem_of_getElem? (i := 22) (by decide +kernel), List.mem_of_getElem? (i := 375) (by decide +kernel), List.mem_of_getElem? (i := 376) (by decide +kernel)⟩
theorem lw_p6 : lw_okq (⟨"SandcastleLeague", "letHoursGoBy", "(LSandcastleLeague$Shore;I)V"⟩, 9) := ⟨⟨by decide +kernel, by decide +kernel⟩, List.mem_of_getElem? (i := 14) (by decide +kernel), List.mem_of_getElem? (i := 441) (by decide +kernel), List.mem_of_getElem? (i := 442) (by decide +kernel)⟩
theorem lw_p7 : lw_okq (⟨"SandcastleLeague$Shore", "sweepWater", "(I)Z"⟩, 9) := ⟨⟨by decide +kernel, by decide +kernel⟩, List.mem_of_getElem? (i := 22) (by decide +kernel), List.mem_of_getElem? (i := 456) (by decide +kernel), List.mem_of_getElem? (i := 457) (by decide +kernel)⟩
theorem lw_p8 : lw_okq (⟨"SandcastleLeague$Shore", "isOpenToSea", "(I)Z"⟩, 9) := ⟨⟨by decide +kernel, by decide +kernel⟩, List.mem_of_getElem? (i := 22) (by decide +kernel), List.mem_of_getElem? (i := 460) (by decide +kernel), List.mem_of_getElem? (i := 461) (by decide +kernel)⟩
theorem lw_p9 : lw_okq (⟨"SandcastleLeague$Shore", "washSandAway", "(I)V"⟩, 9) := ⟨⟨by decide +kernel, by decide +kernel⟩, List.mem_of_getElem? (i := 22) (by decide +kernel), List.mem_of_getElem? (i := 467) (by decide +kernel), List.mem_of_getElem? (i := 468) (by decide +kernel)⟩
theorem lw_p10 : lw_okq (⟨"SandcastleLeague$Shore", "letSandSlide", "()I"⟩, 9) := ⟨⟨by decide +kernel, by decide +kernel⟩, List.mem_of_getElem? (i := 22) (by decide +kernel), List.mem_of_getElem? (i := 471) (by decide +kernel), List.mem_of_getElem? (i := 472) (by decide +kernel)⟩
theorem lw_p11 : lw_okq (⟨"SandcastleLeague$Shore", "slideOnce", "()I"⟩, 9) := ⟨⟨by decide +kernel, by decide +kernel⟩, List.mem_of_getElem? (i := 22) (by decide +kernel), List.mem_of_getElem? (i := 475) (by decide +kernel), List.mem_of_getElem? (i := 476) (by decide +kernel)⟩
theorem lw_p12 : lw_okq (⟨"SandcastleLeague$Shore", "lowestBeside", "(I)I"⟩, 9) := ⟨⟨by decide +kernel, by decide +kernel⟩, List.mem_of_getElem? (i := 22) (by decide +kernel), List.mem_of_getElem? (i := 479) (by decide +kernel), List.mem_of_getElem? (i := 480) (by decide +kernel)⟩
theorem lw_p13 : lw_okq (⟨"SandcastleLeague$Shore", "slidesTo", "(II)Z"⟩, 9) := ⟨⟨by decide +kernel, by decide +kernel⟩, List.mem_of_getElem? (i := 22) (by decide +kernel), List.mem_of_getElem? (i := 483) (by decide +kernel), List.mem_of_getElem? (i := 484) (by decide +kernel)⟩
theorem lw_p14 : lw_okq (⟨"SandcastleLeague$Shore", "judgeSticks", "()V"⟩, 9) := ⟨⟨by decide +kernel, by decide +kernel⟩, List.mem_of_getElem? (i := 22) (by decide +kernel), List.mem_of_getElem? (i := 487) (by decide +kernel), List.mem_of_getElem? (i := 488) (by decide +kernel)⟩
theorem lw_p15 : lw_okq (⟨"SandcastleLeague", "teamsAheadOf", "(I)I"⟩, 9) := ⟨⟨by decide +kernel, by decide +kernel⟩, List.mem_of_getElem? (i := 14) (by decide +kernel), List.mem_of_getElem? (i := 499) (by decide +kernel), List.mem_of_getElem? (i := 500) (by decide +kernel)⟩
def lw_privs_1 : List (MethodName × Nat) := [(⟨"SandcastleLeague", "beginRound", "()V"⟩, 9), (⟨"SandcastleLeague", "teamsWithFewerPoints", "(I)I"⟩, 9), (⟨"java/lang/Throwable", "fillInStackTrace", "(I)Ljava/lang/Throwable;"⟩, 6), (⟨"SandcastleLeague", "requireTeam", "(I)V"⟩, 9), (⟨"SandcastleLeague", "requireStrength", "(I)V"⟩, 9), (⟨"SandcastleLeague$Shore", "soften", "(I)V"⟩, 9), (⟨"SandcastleLeague", "letHoursGoBy", "(LSandcastleLeague$Shore;I)V"⟩, 9), (⟨"SandcastleLeague$Shore", "sweepWater", "(I)Z"⟩, 9), (⟨"SandcastleLeague$Shore", "isOpenToSea", "(I)Z"⟩, 9), (⟨"SandcastleLeague$Shore", "washSandAway", "(I)V"⟩, 9), (⟨"SandcastleLeague$Shore", "letSandSlide", "()I"⟩, 9), (⟨"SandcastleLeague$Shore", "slideOnce", "()I"⟩, 9), (⟨"SandcastleLeague$Shore", "lowestBeside", "(I)I"⟩, 9), (⟨"SandcastleLeague$Shore", "slidesTo", "(II)Z"⟩, 9), (⟨"SandcastleLeague$Shore", "judgeSticks", "()V"⟩, 9), (⟨"SandcastleLeague", "teamsAheadOf", "(I)I"⟩, 9)]
theorem lw_r1 : ∀ q ∈ lw_privs_1, lw_okq q := List.forall_mem_cons.mpr ⟨lw_p0, List.forall_mem_cons.mpr ⟨lw_p1, List.forall_mem_cons.mpr ⟨lw_p2, List.forall_mem_cons.mpr ⟨lw_p3, List.forall_mem_cons.mpr ⟨lw_p4, List.forall_mem_cons.mpr ⟨lw_p5, List.forall_mem_cons.mpr ⟨lw_p6, List.forall_mem_cons.mpr ⟨lw_p7, List.forall_mem_cons.mpr ⟨lw_p8, List.forall_mem_cons.mpr ⟨lw_p9, List.forall_mem_cons.mpr ⟨lw_p10, List.forall_mem_cons.mpr ⟨lw_p11, List.forall_mem_cons.mpr ⟨lw_p12, List.forall_mem_cons.mpr ⟨lw_p13, List.forall_mem_cons.mpr ⟨lw_p14, List.forall_mem_cons.mpr ⟨lw_p15, fun _ h => absurd h List.not_mem_nil⟩⟩⟩⟩⟩⟩⟩⟩⟩⟩⟩⟩⟩⟩⟩⟩
theorem lw_p16 : lw_okq (⟨"SandcastleLeague", "isAhead", "(II)Z"⟩, 9) := ⟨⟨by decide +kernel, by decide +kernel⟩, List.mem_of_getElem? (i := 14) (by decide +kernel), List.mem_of_getElem? (i := 503) (by decide +kernel), List.mem_of_getElem? (i := 504) (by decide +kernel)⟩
theorem lw_p17 : lw_okq (⟨"SandcastleLeagueModel", "fail", "(I)I"⟩, 14) := ⟨⟨by decide +kernel, by decide +kernel⟩, List.mem_of_getElem? (i := 545) (by decide +kernel), List.mem_of_getElem? (i := 605) (by decide +kernel), List.mem_of_getElem? (i := 606) (by decide +kernel)⟩
theorem lw_p18 : lw_okq (⟨"SandcastleLeagueModel", "deed", "(IIII)I"⟩, 14) := ⟨⟨by decide +kernel, by decide +kernel⟩, List.mem_of_getElem? (i := 545) (by decide +kernel), List.mem_of_getElem? (i := 620) (by decide +kernel), List.mem_of_getElem? (i := 621) (by decide +kernel)⟩
theorem lw_p19 : lw_okq (⟨"SandcastleLeagueModel", "isTeam", "(I)Z"⟩, 14) := ⟨⟨by decide +kernel, by decide +kernel⟩, List.mem_of_getElem? (i := 545) (by decide +kernel), List.mem_of_getElem? (i := 624) (by decide +kernel), List.mem_of_getElem? (i := 625) (by decide +kernel)⟩
theorem lw_p20 : lw_okq (⟨"SandcastleLeagueModel", "get", "(II)I"⟩, 14) := ⟨⟨by decide +kernel, by decide +kernel⟩, List.mem_of_getElem? (i := 545) (by decide +kernel), List.mem_of_getElem? (i := 628) (by decide +kernel), List.mem_of_getElem? (i := 629) (by decide +kernel)⟩
theorem lw_p21 : lw_okq (⟨"SandcastleLeagueModel", "add", "(III)V"⟩, 14) := ⟨⟨by decide +kernel, by decide +kernel⟩, List.mem_of_getElem? (i := 545) (by decide +kernel), List.mem_of_getElem? (i := 633) (by decide +kernel), List.mem_of_getElem? (i := 634) (by decide +kernel)⟩
theorem lw_p22 : lw_okq (⟨"SandcastleLeagueModel", "sticksOf", "(I)I"⟩, 14) := ⟨⟨by decide +kernel, by decide +kernel⟩, List.mem_of_getElem? (i := 545) (by decide +kernel), List.mem_of_getElem? (i := 650) (by decide +kernel), List.mem_of_getElem? (i := 651) (by decide +kernel)⟩
theorem lw_p23 : lw_okq (⟨"SandcastleLeagueModel", "height", "(I)I"⟩, 14) := ⟨⟨by decide +kernel, by decide +kernel⟩, List.mem_of_getElem? (i := 545) (by decide +kernel), List.mem_of_getElem? (i := 657) (by decide +kernel), List.mem_of_getElem? (i := 658) (by decide +kernel)⟩
theorem lw_p24 : lw_okq (⟨"SandcastleLeagueModel", "cellTold", "(II)I"⟩, 14) := ⟨⟨by decide +kernel, by decide +kernel⟩, List.mem_of_getElem? (i := 545) (by decide +kernel), List.mem_of_getElem? (i := 665) (by decide +kernel), List.mem_of_getElem? (i := 666) (by decide +kernel)⟩
theorem lw_p25 : lw_okq (⟨"SandcastleLeagueModel", "teamTold", "(II)I"⟩, 14) := ⟨⟨by decide +kernel, by decide +kernel⟩, List.mem_of_getElem? (i := 545) (by decide +kernel), List.mem_of_getElem? (i := 673) (by decide +kernel), List.mem_of_getElem? (i := 674) (by decide +kernel)⟩
theorem lw_p26 : lw_okq (⟨"SandcastleLeagueModel", "areaOf", "(II)I"⟩, 14) := ⟨⟨by decide +kernel, by decide +kernel⟩, List.mem_of_getElem? (i := 545) (by decide +kernel), List.mem_of_getElem? (i := 677) (by decide +kernel), List.mem_of_getElem? (i := 678) (by decide +kernel)⟩
theorem lw_p27 : lw_okq (⟨"SandcastleLeagueModel", "counted", "(I)I"⟩, 14) := ⟨⟨by decide +kernel, by decide +kernel⟩, List.mem_of_getElem? (i := 545) (by decide +kernel), List.mem_of_getElem? (i := 685) (by decide +kernel), List.mem_of_getElem? (i := 686) (by decide +kernel)⟩
theorem lw_p28 : lw_okq (⟨"SandcastleLeagueModel", "hourOn", "()V"⟩, 14) := ⟨⟨by decide +kernel, by decide +kernel⟩, List.mem_of_getElem? (i := 545) (by decide +kernel), List.mem_of_getElem? (i := 693) (by decide +kernel), List.mem_of_getElem? (i := 694) (by decide +kernel)⟩
theorem lw_p29 : lw_okq (⟨"SandcastleLeagueModel", "findOver", "()V"⟩, 14) := ⟨⟨by decide +kernel, by decide +kernel⟩, List.mem_of_getElem? (i := 545) (by decide +kernel), List.mem_of_getElem? (i := 697) (by decide +kernel), List.mem_of_getElem? (i := 698) (by decide +kernel)⟩
theorem lw_p30 : lw_okq (⟨"SandcastleLeagueModel", "slideAll", "()V"⟩, 14) := ⟨⟨by decide +kernel, by decide +kernel⟩, List.mem_of_getElem? (i := 545) (by decide +kernel), List.mem_of_getElem? (i := 704) (by decide +kernel), List.mem_of_getElem? (i := 705) (by decide +kernel)⟩
theorem lw_p31 : lw_okq (⟨"SandcastleLeagueModel", "falls", "(II)Z"⟩, 14) := ⟨⟨by decide +kernel, by decide +kernel⟩, List.mem_of_getElem? (i := 545) (by decide +kernel), List.mem_of_getElem? (i := 708) (by decide +kernel), List.mem_of_getElem? (i := 709) (by decide +kernel)⟩
def lw_privs_2 : List (MethodName × Nat) := [(⟨"SandcastleLeague", "isAhead", "(II)Z"⟩, 9), (⟨"SandcastleLeagueModel", "fail", "(I)I"⟩, 14), (⟨"SandcastleLeagueModel", "deed", "(IIII)I"⟩, 14), (⟨"SandcastleLeagueModel", "isTeam", "(I)Z"⟩, 14), (⟨"SandcastleLeagueModel", "get", "(II)I"⟩, 14), (⟨"SandcastleLeagueModel", "add", "(III)V"⟩, 14), (⟨"SandcastleLeagueModel", "sticksOf", "(I)I"⟩, 14), (⟨"SandcastleLeagueModel", "height", "(I)I"⟩, 14), (⟨"SandcastleLeagueModel", "cellTold", "(II)I"⟩, 14), (⟨"SandcastleLeagueModel", "teamTold", "(II)I"⟩, 14), (⟨"SandcastleLeagueModel", "areaOf", "(II)I"⟩, 14), (⟨"SandcastleLeagueModel", "counted", "(I)I"⟩, 14), (⟨"SandcastleLeagueModel", "hourOn", "()V"⟩, 14), (⟨"SandcastleLeagueModel", "findOver", "()V"⟩, 14), (⟨"SandcastleLeagueModel", "slideAll", "()V"⟩, 14), (⟨"SandcastleLeagueModel", "falls", "(II)Z"⟩, 14)]
theorem lw_r2 : ∀ q ∈ lw_privs_2, lw_okq q := List.forall_mem_cons.mpr ⟨lw_p16, List.forall_mem_cons.mpr ⟨lw_p17, List.forall_mem_cons.mpr ⟨lw_p18, List.forall_mem_cons.mpr ⟨lw_p19, List.forall_mem_cons.mpr ⟨lw_p20, List.forall_mem_cons.mpr ⟨lw_p21, List.forall_mem_cons.mpr ⟨lw_p22, List.forall_mem_cons.mpr ⟨lw_p23, List.forall_mem_cons.mpr ⟨lw_p24, List.forall_mem_cons.mpr ⟨lw_p25, List.forall_mem_cons.mpr ⟨lw_p26, List.forall_mem_cons.mpr ⟨lw_p27, List.forall_mem_cons.mpr ⟨lw_p28, List.forall_mem_cons.mpr ⟨lw_p29, List.forall_mem_cons.mpr ⟨lw_p30, List.forall_mem_cons.mpr ⟨lw_p31, fun _ h => absurd h List.not_mem_nil⟩⟩⟩⟩⟩⟩⟩⟩⟩⟩⟩⟩⟩⟩⟩⟩
theorem lw_p32 : lw_okq (⟨"SandcastleLeagueModel", "brings", "(I)I"⟩, 14) := ⟨⟨by decide +kernel, by decide +kernel⟩, List.mem_of_getElem? (i := 545) (by decide +kernel), List.mem_of_getElem? (i := 712) (by decide +kernel), List.mem_of_getElem? (i := 713) (by decide +kernel)⟩
theorem lw_p33 : lw_okq (⟨"SandcastleLeagueModel", "isAhead", "(II)Z"⟩, 14) := ⟨⟨by decide +kernel, by decide +kernel⟩, List.mem_of_getElem? (i := 545) (by decide +kernel), List.mem_of_getElem? (i := 725) (by decide +kernel), List.mem_of_getElem? (i := 726) (by decide +kernel)⟩
theorem lw_p34 : lw_okq (⟨"SandcastleLeagueModel", "kept", "()[[I"⟩, 14) := ⟨⟨by decide +kernel, by decide +kernel⟩, List.mem_of_getElem? (i := 545) (by decide +kernel), List.mem_of_getElem? (i := 741) (by decide +kernel), List.mem_of_getElem? (i := 742) (by decide +kernel)⟩
theorem lw_p35 : lw_okq (⟨"SandcastleLeagueModel", "bringBack", "([[I)V"⟩, 14) := ⟨⟨by decide +kernel, by decide +kernel⟩, List.mem_of_getElem? (i := 545) (by decide +kernel), List.mem_of_getElem? (i := 748) (by decide +kernel), List.mem_of_getElem? (i := 749) (by decide +kernel)⟩
def lw_privs_3 : List (MethodName × Nat) := [(⟨"SandcastleLeagueModel", "brings", "(I)I"⟩, 14), (⟨"SandcastleLeagueModel", "isAhead", "(II)Z"⟩, 14), (⟨"SandcastleLeagueModel", "kept", "()[[I"⟩, 14), (⟨"SandcastleLeagueModel", "bringBack", "([[I)V"⟩, 14)]
theorem lw_r3 : ∀ q ∈ lw_privs_3, lw_okq q := List.forall_mem_cons.mpr ⟨lw_p32, List.forall_mem_cons.mpr ⟨lw_p33, List.forall_mem_cons.mpr ⟨lw_p34, List.forall_mem_cons.mpr ⟨lw_p35, fun _ h => absurd h List.not_mem_nil⟩⟩⟩⟩
def lw_privs : List (MethodName × Nat) := lw_privs_1 ++ (lw_privs_2 ++ (lw_privs_3))
def lw_tbl : List Cond := k2_sels lw_privs ++ tables_1
theorem lw_privs_ok : ∀ q ∈ lw_privs, lw_okq q := by
  show ∀ q ∈ lw_privs_1 ++ (lw_privs_2 ++ (lw_privs_3)), lw_okq q
  exact List.forall_mem_append.mpr ⟨lw_r1, List.forall_mem_append.mpr ⟨lw_r2, lw_r3⟩⟩
/-- the streams that the claim lets the run draw from -/
abbrev lw_cs : List Choice := [Jvm.Choice.named "NaN.bits"]
theorem lw_bits : nanBits ∈ lw_cs := by first | decide | exact List.mem_cons_self | simp [lw_cs, nanBits]
-- ===== end of PART A; then your names; then what follows =====
end
section
/-! ===== BEGIN words of one list among another's, by their places ===== -/
theorem goodIn_r {big : List Cond} (ws : List Cond) (ps : List Nat) (hp : ws = ps.filterMap (fun i => big[i]?)) (h : ws.all goodWord = true) : GoodIn big ws := by
  intro w hw
  have h1 := List.all_eq_true.mp h w hw
  rw [hp] at hw
  obtain ⟨i, -, hi⟩ := List.mem_filterMap.mp hw
  have hm : w ∈ big := by first | exact List.mem_of_getElem? hi | exact List.getElem?_mem hi
  exact ⟨hm, good_of_word h1⟩
theorem goodIn_app {big a b : List Cond} (ha : GoodIn big a) (hb : GoodIn big b) : GoodIn big (a ++ b) := fun w h => (List.mem_append.mp h).elim (ha w) (hb w)
theorem goodIn_ca {big a b : List Cond} {c : Cond} (ha : GoodIn big (c :: a)) (hb : GoodIn big b) : GoodIn big (c :: (a ++ b)) := fun w h => (List.mem_cons.mp h).elim (fun e => ha w (List.mem_cons.mpr (Or.inl e))) (fun h => (List.mem_append.mp h).elim (fun h => ha w (List.mem_cons.mpr (Or.inr h))) (hb w))
theorem goodIn_sub {big ws : List Cond} (hm : ∀ w ∈ ws, w ∈ big) (h : ws.all goodWord = true) : GoodIn big ws := fun w hw => ⟨hm w hw, good_of_word (List.all_eq_true.mp h w hw)⟩
/-! ===== END ===== -/

/-! ===== BEGIN exceptions that leave a method, and their catching by the caller (launches without stack traces) ===== -/
section VXA
/-! The laws vx_back, vx_callV, vx_callS, vx_callSW, vx_throw0, vx_throwS follow proofs of the library, with one case more: JvmDerived/Free/Laws.lean (Back.of_free), Shelf42/LK1.lean (callV, callS), Shelf/KitTraced.lean (throwNew0V, throwNewS). -/
/-- where a method has thrown q: the class by its name, the cell, what was written, the world -/
def vx_T (XC : String → State → State → Prop) (st : State) (q : Addr) (t : State) (mc ms : Nat) (free : Addr → Prop) : Prop :=
  ∃ (E : String) (ce : Cell) (L : List Loc), XC E st t ∧ t.heap[q]? = some ce ∧ ce.vm = .none ∧ st.vm.findClass E = some ce.cls ∧ st.WarmedH t.vm ∧ st.sameButNew ({ t with vm := st.vm } : State) L mc ms ∧ ∀ z ∈ L, free z.base
def vx_Q (Qc : Array Value → State → Outcome → State → Prop) (XC : String → State → State → Prop) (mc ms : Nat) (free : Addr → Prop) : Array Value → State → Outcome → State → Prop := fun a st o t =>
  (Qc a st o t ∧ ∃ L, FrameEnd st o t L mc ms ∧ ∀ q ∈ L, free q.base) ∨ ∃ q, o = .threw q ∧ vx_T XC st q t mc ms free
/-- a callee that returns or throws -/
def vx_Met (l : Launch) (y : MethodName) (ws : List Cond) (rm : Room) (Pc : Array Value → State → Prop) (Qc : Array Value → State → Outcome → State → Prop) (XC : String → State → State → Prop) (mc ms : Nat) (free : Addr → Prop) : Prop :=
  MetFree l y (headSpec ws rm) Pc (fun _ _ _ _ _ => True) (vx_Q Qc XC mc ms free)
def vx_Post (XC : String → State → State → Prop) (mc ms : Nat) (free : Addr → Prop) : Pt → Array Value → Addr → Pt → Prop := fun A a q B =>
  ∃ (g : JFrame) (mk : MethodId) (t : State) (L : List Loc) (E : String) (ce : Cell), B.U.heap = t.heap ∧ B.U.vm = t.vm ∧ XC E (A.U.calling g mk a) t ∧ t.heap[q]? = some ce ∧ ce.vm = .none ∧ A.U.vm.findClass E = some ce.cls ∧ B.locs = A.locs ++ L ∧ (∀ z ∈ L, free z.base) ∧ B.cells = A.cells + mc ∧ B.slots = A.slots + ms
def vx_Back (l : Launch) (R : Room) (p : Program) (e : Env) (below : List Frame) (s : State) (sargs : Array Value) (y : MethodName) (len W9 : Nat)
    (Pre : Pt → Array Value → Prop) (Post : Pt → Array Value → Option Value → Pt → Prop) (PostX : Pt → Array Value → Addr → Pt → Prop) : Prop :=
  ∀ (m : MethodId) (meth : Method) (c : Code) (A : Pt) (g : JFrame) (ig : Instr) (mk : MethodId) (a : Array Value),
    Stand p l e R s m sargs below meth c A.U A.locs A.cells A.slots → g.method = m → g.locals.size = c.maxLocals → decode c.code g.pc = .ok (ig, len) →
    2 * g.monitorRoom + (g.stack.map fun v => v.category).sum ≤ W9 → A.U.methodNamed? y = some mk → Pre A a →
    (∃ (v : Option Value) (B : Pt), Stand p l e R s m sargs below meth c B.U B.locs B.cells B.slots ∧ Post A a v B ∧
      Steps p.tables e below (doInvoke e (A.U.setTop g) [] mk a).1 (B.U.setTop { g with pc := g.pc + len, stack := v.toList ++ g.stack })) ∨
    (∃ (q : Addr) (B : Pt), Stand p l e R s m sargs below meth c B.U B.locs B.cells B.slots ∧ PostX A a q B ∧
      Steps p.tables e below (doInvoke e (A.U.setTop g) [] mk a).1 ((B.U.setTop g).pushFrame (.throwing q)))
section Payer
variable {l : Launch} {R : Room} {p : Program} {e : Env} {below : List Frame} {s : State} {sargs : Array Value} {y : MethodName} {len W9 : Nat}
theorem vx_back {ws : List Cond} {rm : Room} {Pc : Array Value → State → Prop} {Qc : Array Value → State → Outcome → State → Prop} {XC : String → State → State → Prop} {mc ms : Nat} {free : Addr → Prop} {bytes : ByteArray} {maxL : Nat} {ret : Option FieldType}
    (hM : vx_Met l y ws rm Pc Qc XC mc ms free) (hblind : FrameBlind Pc) (hrc : rm.cells = mc) (hrs : rm.slots = ms)
    (hframes : rm.frames + 1 ≤ R.frames) (hlocals : W9 + (maxL + 11) + rm.locals ≤ R.locals)
    (hws : ∀ w ∈ ws, ∀ a' U, s.WarmedH U.vm → w.before a' U = true) (hcode : Cond.code y bytes maxL ret ∈ ws) (hinit : ∀ a' U, s.WarmedH U.vm → (Cond.initialized y.cls).before a' U = true) :
    vx_Back l R p e below s sargs y len W9 (PreOf R mc ms Pc) (PostOf Qc mc ms free) (vx_Post XC mc ms free) := by
  intro m meth c A g ig mk a X hg hsize hdg hW hn hp
  have h1 : (headSpec ws rm).pre.before a A.U = true := atoms_intro fun w hw => hws w hw _ _ X.warmed
  have h2 : (Cond.code y bytes maxL ret).before a A.U = true := hws _ hcode _ _ X.warmed
  have h3 : (Cond.initialized y.cls).before a A.U = true := hinit _ _ X.warmed
  have h4 : A.cells + (headSpec ws rm).room.cells ≤ R.cells := by rw [show (headSpec ws rm).room.cells = mc from hrc]; exact hp.1
  have h5 : A.slots + (headSpec ws rm).room.slots ≤ R.slots := by rw [show (headSpec ws rm).room.slots = ms from hrs]; exact hp.2.1
  have hPc : Pc a (A.U.calling g mk a) := hblind _ _ _ _ hp.2.2
  obtain ⟨U, Ls, c0, s0⟩ := A
  dsimp only [Pt.U, Pt.locs, Pt.cells, Pt.slots] at h1 h2 h3 h4 h5 X hn hPc ⊢
  obtain ⟨methY, cY, hmY, hcY, -, hlY, -, -, -, -⟩ := Cond.code_spec hn h2
  obtain ⟨kY, hkY, -⟩ := className_of_methodNamed hn
  have hinitY : kY.init = .initialized := Cond.initialized_spec (findClass_of_methodNamed hn) hkY h3
  have h : At U g.method c below := by rw [hg]; exact X.here
  have hlocals9 : W9 + (maxL + 11) + (headSpec ws rm).room.locals ≤ R.locals := hlocals
  have happ : (headSpec ws rm).appliesLoose y e.platform (U.calling g mk a) = true :=
    Spec.appliesLoose_calling (g := g) h hdg hn hkY hinitY
      (X.room_calling (g := g) (R' := (headSpec ws rm).room) hsize hmY hcY hframes (by rw [hlY]; omega) h4 h5) h1
  obtain ⟨mid, hmid⟩ := h.above
  have hfr : (U.setTop g).frames = (.java g :: mid) ++ below := by rw [State.frames_setTop' g h.top, hmid]; rfl
  obtain ⟨o, s₂, hsteps, -, hend, hq⟩ := Steps.callFree hM p X.admits X.cas X.clock (acts := []) hfr happ hPc trivial
  have hq' : vx_Q Qc XC mc ms free a (U.calling g mk a) o s₂ := hq
  rw [State.frames_setTop' g h.top] at hend
  obtain ⟨g₀, hg0⟩ := Option.isSome_iff_exists.mp h.top
  obtain ⟨r, hr⟩ := State.topJava?_eq_some.mp hg0
  have hr' : (({ U with heap := s₂.heap, slotsUsed := s₂.slotsUsed } : State).setVm s₂.vm).frames = .java g₀ :: r := hr
  rcases hq' with ⟨hqc, L, hfe, hL⟩ | ⟨q, rfl, E, ce, L, hx, hce, hcv, hcl, hW₂, hsm, hL⟩
  · obtain ⟨⟨v, rfl⟩, hW₂, e2, q2, q3, q4, q5, q6⟩ := id hfe
    have e3 : s₂ = ({ (U.calling g mk a).setFrames s₂.frames with heap := s₂.heap, slotsUsed := s₂.slotsUsed } : State).setVm s₂.vm := by
      have : s₂ = ({ s₂ with vm := (U.calling g mk a).vm } : State).setVm s₂.vm := rfl
      rw [e2] at this
      exact this
    obtain ⟨c₂, i₂, len₂, hc₂, hd₂, hf₂⟩ := hend
    have hW' : U.WarmedH s₂.vm := hW₂
    have hcc : c₂ = c := by
      have h1 : s₂.code? g.method = U.code? g.method := by
        rw [State.code?_eq, State.code?_eq, hW'.alike.method?]
      exact Option.some.inj (hc₂.symm.trans (h1.trans h.code))
    subst hcc
    have hlen : len₂ = len := by rw [hdg] at hd₂; cases hd₂; rfl
    subst hlen
    have hs₂ : s₂ = (({ U with heap := s₂.heap, slotsUsed := s₂.slotsUsed } : State).setVm s₂.vm).setTop { g with pc := g.pc + len₂, stack := v.toList ++ g.stack } := by
      refine e3.trans ?_
      rw [hf₂, State.calling_eq h.top, State.setFrames_setFrames, State.setTop_of_frames _ hr', hr]
      rfl
    have hsame : U.sameButNew ({ U with heap := s₂.heap, slotsUsed := s₂.slotsUsed } : State) L mc ms := by
      refine ⟨?_, q2, q3, q4, q5, q6⟩
      obtain ⟨t, ht, -⟩ := State.frames_cons hr
      show ({ U with heap := s₂.heap, slotsUsed := s₂.slotsUsed } : State) = { U.setFrames U.frames with heap := s₂.heap, slotsUsed := s₂.slotsUsed }
      rw [State.setFrames_self ht]
    subst hg
    refine Or.inl ⟨v, ⟨(({ U with heap := s₂.heap, slotsUsed := s₂.slotsUsed } : State).setVm s₂.vm), Ls ++ L, c0 + mc, s0 + ms⟩,
      ⟨X.admits, X.cas, X.clock, X.frames, X.room, X.hears, X.method, X.code, (X.here.setHeapUsed s₂.heap s₂.slotsUsed).setVm hW'.alike, X.tail, State.WarmedH.trans X.warmed hW', X.limits, X.bytes, X.same.trans (hsame.setVm s.vm)⟩,
      ⟨g, mk, s₂, L, rfl, rfl, hqc, rfl, hL, rfl, rfl⟩, ?_⟩
    show Steps p.tables e below _ ((({ U with heap := s₂.heap, slotsUsed := s₂.slotsUsed } : State).setVm s₂.vm).setTop { g with pc := g.pc + len₂, stack := v.toList ++ g.stack })
    rw [← hs₂]
    exact hsteps
  · obtain ⟨e2, q2, q3, q4, q5, q6⟩ := id hsm
    have e3 : s₂ = ({ (U.calling g mk a).setFrames s₂.frames with heap := s₂.heap, slotsUsed := s₂.slotsUsed } : State).setVm s₂.vm := by
      have : s₂ = ({ s₂ with vm := (U.calling g mk a).vm } : State).setVm s₂.vm := rfl
      rw [e2] at this
      exact this
    have hf₂ : s₂.frames = .throwing q :: .java g :: U.frames.tail := hend
    have hW' : U.WarmedH s₂.vm := hW₂
    have hs₂ : s₂ = ((({ U with heap := s₂.heap, slotsUsed := s₂.slotsUsed } : State).setVm s₂.vm).setTop g).pushFrame (.throwing q) := by
      refine e3.trans ?_
      rw [hf₂, State.calling_eq h.top, State.setFrames_setFrames, State.pushFrame, State.frames_setTop _ hr', State.setTop_of_frames _ hr', State.setFrames_setFrames, hr]
      rfl
    have hsame : U.sameButNew ({ U with heap := s₂.heap, slotsUsed := s₂.slotsUsed } : State) L mc ms := by
      refine ⟨?_, q2, q3, q4, q5, q6⟩
      obtain ⟨t, ht, -⟩ := State.frames_cons hr
      show ({ U with heap := s₂.heap, slotsUsed := s₂.slotsUsed } : State) = { U.setFrames U.frames with heap := s₂.heap, slotsUsed := s₂.slotsUsed }
      rw [State.setFrames_self ht]
    subst hg
    refine Or.inr ⟨q, ⟨(({ U with heap := s₂.heap, slotsUsed := s₂.slotsUsed } : State).setVm s₂.vm), Ls ++ L, c0 + mc, s0 + ms⟩,
      ⟨X.admits, X.cas, X.clock, X.frames, X.room, X.hears, X.method, X.code, (X.here.setHeapUsed s₂.heap s₂.slotsUsed).setVm hW'.alike, X.tail, State.WarmedH.trans X.warmed hW', X.limits, X.bytes, X.same.trans (hsame.setVm s.vm)⟩,
      ⟨g, mk, s₂, L, E, ce, rfl, rfl, hx, hce, hcv, hcl, rfl, hL, rfl, rfl⟩, ?_⟩
    show Steps p.tables e below _ (((({ U with heap := s₂.heap, slotsUsed := s₂.slotsUsed } : State).setVm s₂.vm).setTop g).pushFrame (.throwing q))
    rw [← hs₂]
    exact hsteps
end Payer
section Calls
variable {p : Program} {l : Launch} {e : Env} {R : Room} {s : State} {m : MethodId} {args : Array Value} {below : List Frame} {meth : Method} {c : Code} {T : State} {locs : List Loc} {cells slots : Nat}
theorem vx_callV (X : Stand p l e R s m args below meth c T locs cells slots) (hexec : p.tables.exec = Jvm.exec) {own C : String} {index : Nat} {y : MethodName} {bytes : ByteArray} {maxL : Nat} {ret : Option FieldType}
    (hown : s.vm.findClass own = some m.cls) (hlink : (Cond.methodLink own index y).before args s = true) (hinst : (Cond.instanceMethod y).before args s = true) (hsel : (Cond.selects C y y).before args s = true)
    (hcode : (Cond.code y bytes maxL ret).before args s = true) (hy : y.cls ≠ "java/lang/invoke/MethodHandle" ∧ y.cls ≠ "java/lang/invoke/VarHandle")
    {W9 : Nat} {Pre : Pt → Array Value → Prop} {Post : Pt → Array Value → Option Value → Pt → Prop} {PostX : Pt → Array Value → Addr → Pt → Prop} (hK : vx_Back l R p e below s args y 3 W9 Pre Post PostX)
    {b : Addr} {cellB : Cell} (hcell : T.heap[b]? = some cellB) (hobj : cellB.vm.isStatics = false) (hcls : s.vm.findClass C = some cellB.cls)
    {g : JFrame} (hg : g.method = m) (hsize : g.locals.size = c.maxLocals) {argsL rest : List Value} (hlen : ∀ sig, parseMethodDescriptor y.desc = some sig → argsL.length = sig.parameters.length)
    (hstack : g.stack = argsL.reverse ++ .ref b :: rest) (hW : 2 * g.monitorRoom + (rest.map fun v => v.category).sum ≤ W9) (hdg : decode c.code g.pc = .ok (.invokevirtual index, 3))
    (hpre : ∀ vm₁, s.WarmedH vm₁ → Pre ⟨T.setVm vm₁, locs, cells, slots⟩ (Value.ref b :: argsL).toArray) :
    (∃ (v : Option Value) (vm₁ : Vm) (B : Pt), s.WarmedH vm₁ ∧ Stand p l e R s m args below meth c B.U B.locs B.cells B.slots ∧ Post ⟨T.setVm vm₁, locs, cells, slots⟩ (Value.ref b :: argsL).toArray v B ∧
      ∀ target, Steps p.tables e below (B.U.setTop { g with pc := g.pc + 3, stack := v.toList ++ rest }) target → Steps p.tables e below (T.setTop g) target) ∨
    (∃ (q : Addr) (vm₁ : Vm) (B : Pt), s.WarmedH vm₁ ∧ Stand p l e R s m args below meth c B.U B.locs B.cells B.slots ∧ PostX ⟨T.setVm vm₁, locs, cells, slots⟩ (Value.ref b :: argsL).toArray q B ∧
      Steps p.tables e below (T.setTop g) ((B.U.setTop { g with stack := rest }).pushFrame (.throwing q))) := by
  obtain ⟨mk, methM, hnamed, hmethM, hstM, habM⟩ := Cond.instanceMethod_spec hinst
  obtain ⟨methM', cM, hmethM', -, -, -, -, -, -, hsigM⟩ := Cond.code_spec hnamed hcode
  cases hmethM.symm.trans hmethM'
  obtain ⟨c2, r2, m2, q1, q2, q3, q4, kP, hkP, hkPi⟩ := Cond.selects_spec hsel
  cases hcls.symm.trans q1
  cases (State.methodFound?_of_named hnamed hy).symm.trans q2
  cases hnamed.symm.trans q3
  have hselP : selectMethod e.platform s.vm cellB.cls mk = .method mk := by rw [Launch.admits_selectMethod X.admits]; exact q4
  obtain ⟨vm₁, X₁, hstep₁⟩ := X.invokevirtual hexec hown hlink hnamed hmethM hstM hkP hkPi hy (a := b) (cell := cellB) hcell
    (fun z h => by rw [h] at hobj; cases hobj) hselP hmethM habM hkP hkPi (g := g) hg (argsL := argsL) (rest := rest) (hlen _ hsigM) hstack hdg
  rcases hK m meth c ⟨T.setVm vm₁, locs, cells, slots⟩ { g with stack := rest } (.invokevirtual index) mk (Value.ref b :: argsL).toArray X₁ hg hsize hdg hW (X₁.named hnamed) (hpre vm₁ X₁.warmed) with ⟨v, B, X', hpost, hsteps⟩ | ⟨q, B, X', hpost, hsteps⟩
  · exact Or.inl ⟨v, vm₁, B, X₁.warmed, X', hpost, fun target h => hstep₁ _ fun acts => by rw [doInvoke_state]; exact hsteps.trans h⟩
  · exact Or.inr ⟨q, vm₁, B, X₁.warmed, X', hpost, hstep₁ _ fun acts => by rw [doInvoke_state]; exact hsteps⟩
theorem vx_callS (X : Stand p l e R s m args below meth c T locs cells slots) (hexec : p.tables.exec = Jvm.exec) {own : String} {index : Nat} {y : MethodName} {bytes : ByteArray} {maxL : Nat} {ret : Option FieldType}
    (hown : s.vm.findClass own = some m.cls) (hlink : (Cond.methodLink own index y).before args s = true) (hstat : (Cond.static y).before args s = true) (hinit : (Cond.initialized y.cls).before args s = true)
    (hcode : (Cond.code y bytes maxL ret).before args s = true) (hy : y.cls ≠ "java/lang/invoke/MethodHandle" ∧ y.cls ≠ "java/lang/invoke/VarHandle")
    {W9 : Nat} {Pre : Pt → Array Value → Prop} {Post : Pt → Array Value → Option Value → Pt → Prop} {PostX : Pt → Array Value → Addr → Pt → Prop} (hK : vx_Back l R p e below s args y 3 W9 Pre Post PostX)
    {g : JFrame} (hg : g.method = m) (hsize : g.locals.size = c.maxLocals) {argsL rest : List Value} (hlen : ∀ sig, parseMethodDescriptor y.desc = some sig → argsL.length = sig.parameters.length)
    (hstack : g.stack = argsL.reverse ++ rest) (hW : 2 * g.monitorRoom + (rest.map fun v => v.category).sum ≤ W9) (hdg : decode c.code g.pc = .ok (.invokestatic index, 3))
    (hpre : ∀ vm₁, s.WarmedH vm₁ → Pre ⟨T.setVm vm₁, locs, cells, slots⟩ argsL.toArray) :
    (∃ (v : Option Value) (vm₁ : Vm) (B : Pt), s.WarmedH vm₁ ∧ Stand p l e R s m args below meth c B.U B.locs B.cells B.slots ∧ Post ⟨T.setVm vm₁, locs, cells, slots⟩ argsL.toArray v B ∧
      ∀ target, Steps p.tables e below (B.U.setTop { g with pc := g.pc + 3, stack := v.toList ++ rest }) target → Steps p.tables e below (T.setTop g) target) ∨
    (∃ (q : Addr) (vm₁ : Vm) (B : Pt), s.WarmedH vm₁ ∧ Stand p l e R s m args below meth c B.U B.locs B.cells B.slots ∧ PostX ⟨T.setVm vm₁, locs, cells, slots⟩ argsL.toArray q B ∧
      Steps p.tables e below (T.setTop g) ((B.U.setTop { g with stack := rest }).pushFrame (.throwing q))) := by
  obtain ⟨mk, hnamed⟩ := Cond.code_named hcode
  obtain ⟨methM, cM, hmethM, -, -, -, -, -, -, hsigM⟩ := Cond.code_spec hnamed hcode
  have hstatic : methM.isStatic = true := Cond.static_spec hnamed hmethM hstat
  obtain ⟨kP, hkP, -⟩ := className_of_methodNamed hnamed
  have hinitP : kP.init = .initialized := Cond.initialized_spec (findClass_of_methodNamed hnamed) hkP hinit
  obtain ⟨vm₁, X₁, hstep₁⟩ := X.invokestatic hexec hown hlink hnamed hmethM hstatic hkP hinitP hy (g := g) hg (argsL := argsL) (rest := rest) (hlen _ hsigM) hstack hdg
  rcases hK m meth c ⟨T.setVm vm₁, locs, cells, slots⟩ { g with stack := rest } (.invokestatic index) mk argsL.toArray X₁ hg hsize hdg hW (X₁.named hnamed) (hpre vm₁ X₁.warmed) with ⟨v, B, X', hpost, hsteps⟩ | ⟨q, B, X', hpost, hsteps⟩
  · exact Or.inl ⟨v, vm₁, B, X₁.warmed, X', hpost, fun target h => hstep₁ _ fun acts => by rw [doInvoke_state]; exact hsteps.trans h⟩
  · exact Or.inr ⟨q, vm₁, B, X₁.warmed, X', hpost, hstep₁ _ fun acts => by rw [doInvoke_state]; exact hsteps⟩
end Calls
theorem vx_cls {s : State} {T : State} {vm₁ : Vm} {E : String} {k : ClassId} (hW : s.WarmedH vm₁) (h : (T.setVm vm₁).vm.findClass E = some k) : s.vm.findClass E = some k := by
  have h1 : vm₁.findClass E = some k := h
  rw [hW.alike.findClass] at h1
  exact h1
/-- the method's frame g, with q thrown over it -/
def vx_W (p : Program) (l : Launch) (e : Env) (R : Room) (s : State) (m : MethodId) (args : Array Value) (below : List Frame) (meth : Method) (c : Code) (H : Heap) (locs : List Loc) (cells slots : Nat) (Q : State → Prop) (g : JFrame) (q : Addr) : Prop :=
  ∀ T : State, T.heap = H → Stand p l e R s m args below meth c T locs cells slots → ∃ t, Steps p.tables e below ((T.setTop g).pushFrame (.throwing q)) t ∧ Q t
def vx_Run (p : Program) (l : Launch) (e : Env) (R : Room) (s : State) (m : MethodId) (args : Array Value) (below : List Frame) (meth : Method) (c : Code) (H : Heap) (locs : List Loc) (cells slots mc ms : Nat) (g : JFrame) (rest : List Value) (Qa : State → Outcome → State → Prop) (XC : String → State → State → Prop) (free : Addr → Prop) : Prop :=
  ∀ T : State, T.heap = H → Stand p l e R s m args below meth c T locs cells slots →
    (∃ (v : Option Value) (st₀ t T' : State) (L : List Loc), st₀.heap = H ∧ Stand p l e R s m args below meth c T' (locs ++ L) (cells + mc) (slots + ms) ∧ (∀ q ∈ L, free q.base) ∧ T'.heap = t.heap ∧ T'.vm = t.vm ∧ Qa st₀ (.returned v) t ∧
      Goes p e below T g T' { g with pc := g.pc + 3, stack := v.toList ++ rest }) ∨
    (∃ (q : Addr) (st₀ t T' : State) (L : List Loc) (E : String) (ce : Cell), st₀.heap = H ∧ Stand p l e R s m args below meth c T' (locs ++ L) (cells + mc) (slots + ms) ∧ (∀ z ∈ L, free z.base) ∧ T'.heap = t.heap ∧ T'.vm = t.vm ∧ XC E st₀ t ∧ t.heap[q]? = some ce ∧ ce.vm = .none ∧ s.vm.findClass E = some ce.cls ∧
      Steps p.tables e below (T.setTop g) ((T'.setTop { g with stack := rest }).pushFrame (.throwing q)))
def vx_X {S : Type} (px : S → Prop) (B : String → S → State → Prop) (A : Nat → Prop) : String → State → State → Prop := fun E st t => ∃ u : S, px u ∧ B E u t ∧ va_F A st t
section Runs
variable {p : Program} {l : Launch} {e : Env} {R : Room} {s : State} {m : MethodId} {args : Array Value} {below : List Frame} {meth : Method} {c : Code} {H : Heap} {locs : List Loc} {cells slots : Nat}
variable {y : MethodName} {bytes cc : ByteArray} {maxL nL mc ms n index : Nat} {ret : Option FieldType} {ws : List Cond} {rm : Room} {Pc : Array Value → State → Prop} {Qc : Array Value → State → Outcome → State → Prop} {XC : String → State → State → Prop} {free : Addr → Prop} {Ts : List Cond} {own C : String} {b : Addr} {As rest : List Value} {g : JFrame}
theorem vx_callBack (cb : CallB R s args own index y bytes maxL ret ws rm mc ms n) (hM : vx_Met l y ws rm Pc Qc XC mc ms free) (hbl : FrameBlind Pc) : vx_Back l R p e below s args y 3 8 (PreOf R mc ms Pc) (PostOf Qc mc ms free) (vx_Post XC mc ms free) := by
  obtain ⟨hrc, hrs, hfr, hlo, hws, hcw, -, hini, -⟩ := cb
  exact vx_back (bytes := bytes) (maxL := maxL) (ret := ret) hM hbl hrc hrs hfr hlo hws hcw (fun a' U hW => word_at hW (Or.inl (by first | rfl | simp [Cond.onTables, Cond.keeps, Cond.steady])) hini)
theorem vx_runV (S : CallFix p m c cc nL s args Ts own) (hM : vx_Met l y ws rm Pc Qc XC mc ms free) (cw : CallW R s args own C index y bytes maxL ret ws rm mc ms n) (hp : PreV s H C b Pc As)
    (hg : g.method = m) (hn : As.length = n) (hsize : g.locals.size = nL) (hstack : g.stack = As.reverse ++ .ref b :: rest) (hW : 2 * g.monitorRoom + (rest.map fun v => v.category).sum ≤ 8) (hdg : decode cc g.pc = .ok (.invokevirtual index, 3)) (hf : cells + mc ≤ R.cells ∧ slots + ms ≤ R.slots) :
    vx_Run p l e R s m args below meth c H locs cells slots mc ms g rest (Qc (Value.ref b :: As).toArray) XC free := by
  have hK : vx_Back l R p e below s args y 3 8 (PreOf R mc ms Pc) (PostOf Qc mc ms free) (vx_Post XC mc ms free) := vx_callBack cw.1 hM hp.1
  obtain ⟨⟨-, -, -, -, -, -, hcode, -, hy, hlen, hl⟩, hin, hse⟩ := cw
  obtain ⟨hx, hb, hml, ho, -⟩ := S
  obtain ⟨-, ⟨cellB, hcB, hoB, hclB⟩, hPc⟩ := hp
  intro T hT X
  rcases vx_callV X hx (C := C) (bytes := bytes) (maxL := maxL) (ret := ret) ho hl hin hse hcode hy hK (by rw [hT]; exact hcB) hoB hclB hg (hsize.trans hml.symm) (argsL := As) (rest := rest) (fun sig h => hn.trans (hlen sig h)) hstack hW (by rw [hb]; exact hdg)
    (fun vm₁ hW₁ => ⟨hf.1, hf.2, hPc (T.setVm vm₁) hT hW₁⟩) with ⟨v, vm₁, ⟨U', l2, c2, s2⟩, hW₁, X', ⟨g', mk, t, L, e1, e2, hq, h1, hL, h2, h3⟩, st⟩ | ⟨q, vm₁, ⟨U', l2, c2, s2⟩, hW₁, X', ⟨g', mk, t, L, E, ce, e1, e2, hq, hce, hcv, hcl, h1, hL, h2, h3⟩, st⟩
  · dsimp only [Pt.U, Pt.locs, Pt.cells, Pt.slots] at X' e1 e2 h1 h2 h3 st
    subst h1; subst h2; subst h3
    exact Or.inl ⟨v, (T.setVm vm₁).calling g' mk (Value.ref b :: As).toArray, t, U', L, hT, X', hL, e1, e2, hq, st⟩
  · dsimp only [Pt.U, Pt.locs, Pt.cells, Pt.slots] at X' e1 e2 h1 h2 h3 st hcl
    subst h1; subst h2; subst h3
    exact Or.inr ⟨q, (T.setVm vm₁).calling g' mk (Value.ref b :: As).toArray, t, U', L, E, ce, hT, X', hL, e1, e2, hq, hce, hcv, vx_cls hW₁ hcl, st⟩
theorem vx_runS (S : CallFix p m c cc nL s args Ts own) (hM : vx_Met l y ws rm Pc Qc XC mc ms free) (cw : CallB R s args own index y bytes maxL ret ws rm mc ms n ∧ (Cond.static y).before args s = true) (hp : PreS s H Pc As)
    (hg : g.method = m) (hn : As.length = n) (hsize : g.locals.size = nL) (hstack : g.stack = As.reverse ++ rest) (hW : 2 * g.monitorRoom + (rest.map fun v => v.category).sum ≤ 8) (hdg : decode cc g.pc = .ok (.invokestatic index, 3)) (hf : cells + mc ≤ R.cells ∧ slots + ms ≤ R.slots) :
    vx_Run p l e R s m args below meth c H locs cells slots mc ms g rest (Qc As.toArray) XC free := by
  have hK : vx_Back l R p e below s args y 3 8 (PreOf R mc ms Pc) (PostOf Qc mc ms free) (vx_Post XC mc ms free) := vx_callBack cw.1 hM hp.1
  obtain ⟨⟨-, -, -, -, -, -, hcode, hini, hy, hlen, hl⟩, hstt⟩ := cw
  obtain ⟨hx, hb, hml, ho, -⟩ := S
  intro T hT X
  rcases vx_callS X hx (bytes := bytes) (maxL := maxL) (ret := ret) ho hl hstt hini hcode hy hK hg (hsize.trans hml.symm) (argsL := As) (rest := rest) (fun sig h => hn.trans (hlen sig h)) hstack hW (by rw [hb]; exact hdg)
    (fun vm₁ hW₁ => ⟨hf.1, hf.2, hp.2 (T.setVm vm₁) hT hW₁⟩) with ⟨v, vm₁, ⟨U', l2, c2, s2⟩, hW₁, X', ⟨g', mk, t, L, e1, e2, hq, h1, hL, h2, h3⟩, st⟩ | ⟨q, vm₁, ⟨U', l2, c2, s2⟩, hW₁, X', ⟨g', mk, t, L, E, ce, e1, e2, hq, hce, hcv, hcl, h1, hL, h2, h3⟩, st⟩
  · dsimp only [Pt.U, Pt.locs, Pt.cells, Pt.slots] at X' e1 e2 h1 h2 h3 st
    subst h1; subst h2; subst h3
    exact Or.inl ⟨v, (T.setVm vm₁).calling g' mk As.toArray, t, U', L, hT, X', hL, e1, e2, hq, st⟩
  · dsimp only [Pt.U, Pt.locs, Pt.cells, Pt.slots] at X' e1 e2 h1 h2 h3 st hcl
    subst h1; subst h2; subst h3
    exact Or.inr ⟨q, (T.setVm vm₁).calling g' mk As.toArray, t, U', L, E, ce, hT, X', hL, e1, e2, hq, hce, hcv, vx_cls hW₁ hcl, st⟩
end Runs
section Rows
variable {p : Program} {l : Launch} {e : Env} {R : Room} {s : State} {m : MethodId} {args : Array Value} {below : List Frame} {meth : Method} {c : Code} {H : Heap} {locs : List Loc} {cells slots : Nat} {Q : State → Prop}
variable {mc ms : Nat} {free : Addr → Prop} {A0 A1 : Nat → Prop} {H0 : Heap} {a : Array Value} {pc : Nat} {ls : Array Slot} {st0 rest : List Value}
theorem vx_keep {st₀ t T' : State} {L : List Loc} (h0 : st₀.heap = H) (e1 : T'.heap = t.heap) (hS : va_S A0 H0 H locs) (hA : ∀ q, q < H.size → A1 q → A0 q) (hf : ∀ q, free q → A0 q) (hL : ∀ q ∈ L, free q.base) (hF : va_F A1 st₀ t) :
    H.size ≤ T'.heap.size ∧ (∀ q : Nat, q < H.size → ¬ A1 q → T'.heap[q]? = H[q]?) ∧ va_S A0 H0 T'.heap (locs ++ L) := by
  obtain ⟨hz, hk⟩ := hF
  rw [h0] at hz hk
  exact ⟨by rw [e1]; exact hz, fun q h1 h2 => by rw [e1]; exact hk q h1 h2,
    ⟨Nat.le_trans hS.1 (by rw [e1]; exact hz), fun q h1 h2 => by rw [e1, hk q (Nat.lt_of_lt_of_le h1 hS.1) (fun z => h2 (hA q (Nat.lt_of_lt_of_le h1 hS.1) z))]; exact hS.2.1 q h1 h2, fun q hq => by
      rcases List.mem_append.mp hq with h | h
      · exact hS.2.2 q h
      · exact hf _ (hL q h)⟩⟩
theorem vx_calli {S SX : Type} {post : Int32 → S → Prop} {px : SX → Prop} {B : S → State → Prop} {BX : String → SX → State → Prop} {AX : Nat → Prop} (hr : vx_Run p l e R s m args below meth c H locs cells slots mc ms (F0 m pc ls st0) rest (va_Qi post B A1 a) (vx_X px BX AX) free) (hS : va_S A0 H0 H locs) (hA : ∀ q, q < H.size → A1 q → A0 q) (hf : ∀ q, free q → A0 q) (hAX : ∀ q, q < H.size → AX q → A0 q)
    (kx : ∀ (E : String) (ce : Cell) (q9 : Addr) (u : SX) (t : State) (H1 : Heap) (locs1 : List Loc), t.heap = H1 → s.vm.Alike t.vm → px u → BX E u t → H.size ≤ H1.size → (∀ q : Nat, q < H.size → ¬ AX q → H1[q]? = H[q]?) → va_S A0 H0 H1 locs1 → H1[q9]? = some ce → ce.vm = .none → s.vm.findClass E = some ce.cls → vx_W p l e R s m args below meth c H1 locs1 (cells + mc) (slots + ms) Q (F0 m pc ls rest) q9)
    (kk : ∀ (r : Int32) (u : S) (t : State) (H1 : Heap) (locs1 : List Loc), t.heap = H1 → s.vm.Alike t.vm → post r u → B u t → H.size ≤ H1.size → (∀ q : Nat, q < H.size → ¬ A1 q → H1[q]? = H[q]?) → va_S A0 H0 H1 locs1 → W p l e R s m args below meth c H1 locs1 (cells + mc) (slots + ms) Q (F0 m (pc + 3) ls (.int r :: rest))) : W p l e R s m args below meth c H locs cells slots Q (F0 m pc ls st0) := by
  intro T hT X
  rcases hr T hT X with ⟨v, st₀, t, T', L, h0, X', hL, e1, e2, ⟨⟨r, u, hv, hp, hb⟩, hF⟩, st⟩ | ⟨q, st₀, t, T', L, E, ce, h0, X', hL, e1, e2, ⟨u, hp, hb, hF⟩, hce, hcv, hcl, st⟩
  · cases hv
    obtain ⟨k1, k2, k3⟩ := vx_keep h0 e1 hS hA hf hL hF
    obtain ⟨t2, a1, b1⟩ := kk r u t T'.heap (locs ++ L) e1.symm (by rw [← e2]; exact X'.warmed.alike) hp hb k1 k2 k3 T' rfl X'
    exact ⟨t2, st t2 a1, b1⟩
  · obtain ⟨k1, k2, k3⟩ := vx_keep h0 e1 hS hAX hf hL hF
    obtain ⟨t2, a1, b1⟩ := kx E ce q u t T'.heap (locs ++ L) e1.symm (by rw [← e2]; exact X'.warmed.alike) hp hb k1 k2 k3 (by rw [e1]; exact hce) hcv hcl T' rfl X'
    exact ⟨t2, st.trans a1, b1⟩
theorem vx_calll {S SX : Type} {post : Int64 → S → Prop} {px : SX → Prop} {B : S → State → Prop} {BX : String → SX → State → Prop} {AX : Nat → Prop} (hr : vx_Run p l e R s m args below meth c H locs cells slots mc ms (F0 m pc ls st0) rest (va_Ql post B A1 a) (vx_X px BX AX) free) (hS : va_S A0 H0 H locs) (hA : ∀ q, q < H.size → A1 q → A0 q) (hf : ∀ q, free q → A0 q) (hAX : ∀ q, q < H.size → AX q → A0 q)
    (kx : ∀ (E : String) (ce : Cell) (q9 : Addr) (u : SX) (t : State) (H1 : Heap) (locs1 : List Loc), t.heap = H1 → s.vm.Alike t.vm → px u → BX E u t → H.size ≤ H1.size → (∀ q : Nat, q < H.size → ¬ AX q → H1[q]? = H[q]?) → va_S A0 H0 H1 locs1 → H1[q9]? = some ce → ce.vm = .none → s.vm.findClass E = some ce.cls → vx_W p l e R s m args below meth c H1 locs1 (cells + mc) (slots + ms) Q (F0 m pc ls rest) q9)
    (kk : ∀ (r : Int64) (u : S) (t : State) (H1 : Heap) (locs1 : List Loc), t.heap = H1 → s.vm.Alike t.vm → post r u → B u t → H.size ≤ H1.size → (∀ q : Nat, q < H.size → ¬ A1 q → H1[q]? = H[q]?) → va_S A0 H0 H1 locs1 → W p l e R s m args below meth c H1 locs1 (cells + mc) (slots + ms) Q (F0 m (pc + 3) ls (.long r :: rest))) : W p l e R s m args below meth c H locs cells slots Q (F0 m pc ls st0) := by
  intro T hT X
  rcases hr T hT X with ⟨v, st₀, t, T', L, h0, X', hL, e1, e2, ⟨⟨r, u, hv, hp, hb⟩, hF⟩, st⟩ | ⟨q, st₀, t, T', L, E, ce, h0, X', hL, e1, e2, ⟨u, hp, hb, hF⟩, hce, hcv, hcl, st⟩
  · cases hv
    obtain ⟨k1, k2, k3⟩ := vx_keep h0 e1 hS hA hf hL hF
    obtain ⟨t2, a1, b1⟩ := kk r u t T'.heap (locs ++ L) e1.symm (by rw [← e2]; exact X'.warmed.alike) hp hb k1 k2 k3 T' rfl X'
    exact ⟨t2, st t2 a1, b1⟩
  · obtain ⟨k1, k2, k3⟩ := vx_keep h0 e1 hS hAX hf hL hF
    obtain ⟨t2, a1, b1⟩ := kx E ce q u t T'.heap (locs ++ L) e1.symm (by rw [← e2]; exact X'.warmed.alike) hp hb k1 k2 k3 (by rw [e1]; exact hce) hcv hcl T' rfl X'
    exact ⟨t2, st.trans a1, b1⟩
theorem vx_callf {S SX : Type} {post : UInt32 → S → Prop} {px : SX → Prop} {B : S → State → Prop} {BX : String → SX → State → Prop} {AX : Nat → Prop} (hr : vx_Run p l e R s m args below meth c H locs cells slots mc ms (F0 m pc ls st0) rest (va_Qf post B A1 a) (vx_X px BX AX) free) (hS : va_S A0 H0 H locs) (hA : ∀ q, q < H.size → A1 q → A0 q) (hf : ∀ q, free q → A0 q) (hAX : ∀ q, q < H.size → AX q → A0 q)
    (kx : ∀ (E : String) (ce : Cell) (q9 : Addr) (u : SX) (t : State) (H1 : Heap) (locs1 : List Loc), t.heap = H1 → s.vm.Alike t.vm → px u → BX E u t → H.size ≤ H1.size → (∀ q : Nat, q < H.size → ¬ AX q → H1[q]? = H[q]?) → va_S A0 H0 H1 locs1 → H1[q9]? = some ce → ce.vm = .none → s.vm.findClass E = some ce.cls → vx_W p l e R s m args below meth c H1 locs1 (cells + mc) (slots + ms) Q (F0 m pc ls rest) q9)
    (kk : ∀ (r : UInt32) (u : S) (t : State) (H1 : Heap) (locs1 : List Loc), t.heap = H1 → s.vm.Alike t.vm → post r u → B u t → H.size ≤ H1.size → (∀ q : Nat, q < H.size → ¬ A1 q → H1[q]? = H[q]?) → va_S A0 H0 H1 locs1 → W p l e R s m args below meth c H1 locs1 (cells + mc) (slots + ms) Q (F0 m (pc + 3) ls (.float r :: rest))) : W p l e R s m args below meth c H locs cells slots Q (F0 m pc ls st0) := by
  intro T hT X
  rcases hr T hT X with ⟨v, st₀, t, T', L, h0, X', hL, e1, e2, ⟨⟨r, u, hv, hp, hb⟩, hF⟩, st⟩ | ⟨q, st₀, t, T', L, E, ce, h0, X', hL, e1, e2, ⟨u, hp, hb, hF⟩, hce, hcv, hcl, st⟩
  · cases hv
    obtain ⟨k1, k2, k3⟩ := vx_keep h0 e1 hS hA hf hL hF
    obtain ⟨t2, a1, b1⟩ := kk r u t T'.heap (locs ++ L) e1.symm (by rw [← e2]; exact X'.warmed.alike) hp hb k1 k2 k3 T' rfl X'
    exact ⟨t2, st t2 a1, b1⟩
  · obtain ⟨k1, k2, k3⟩ := vx_keep h0 e1 hS hAX hf hL hF
    obtain ⟨t2, a1, b1⟩ := kx E ce q u t T'.heap (locs ++ L) e1.symm (by rw [← e2]; exact X'.warmed.alike) hp hb k1 k2 k3 (by rw [e1]; exact hce) hcv hcl T' rfl X'
    exact ⟨t2, st.trans a1, b1⟩
theorem vx_calld {S SX : Type} {post : UInt64 → S → Prop} {px : SX → Prop} {B : S → State → Prop} {BX : String → SX → State → Prop} {AX : Nat → Prop} (hr : vx_Run p l e R s m args below meth c H locs cells slots mc ms (F0 m pc ls st0) rest (va_Qd post B A1 a) (vx_X px BX AX) free) (hS : va_S A0 H0 H locs) (hA : ∀ q, q < H.size → A1 q → A0 q) (hf : ∀ q, free q → A0 q) (hAX : ∀ q, q < H.size → AX q → A0 q)
    (kx : ∀ (E : String) (ce : Cell) (q9 : Addr) (u : SX) (t : State) (H1 : Heap) (locs1 : List Loc), t.heap = H1 → s.vm.Alike t.vm → px u → BX E u t → H.size ≤ H1.size → (∀ q : Nat, q < H.size → ¬ AX q → H1[q]? = H[q]?) → va_S A0 H0 H1 locs1 → H1[q9]? = some ce → ce.vm = .none → s.vm.findClass E = some ce.cls → vx_W p l e R s m args below meth c H1 locs1 (cells + mc) (slots + ms) Q (F0 m pc ls rest) q9)
    (kk : ∀ (r : UInt64) (u : S) (t : State) (H1 : Heap) (locs1 : List Loc), t.heap = H1 → s.vm.Alike t.vm → post r u → B u t → H.size ≤ H1.size → (∀ q : Nat, q < H.size → ¬ A1 q → H1[q]? = H[q]?) → va_S A0 H0 H1 locs1 → W p l e R s m args below meth c H1 locs1 (cells + mc) (slots + ms) Q (F0 m (pc + 3) ls (.double r :: rest))) : W p l e R s m args below meth c H locs cells slots Q (F0 m pc ls st0) := by
  intro T hT X
  rcases hr T hT X with ⟨v, st₀, t, T', L, h0, X', hL, e1, e2, ⟨⟨r, u, hv, hp, hb⟩, hF⟩, st⟩ | ⟨q, st₀, t, T', L, E, ce, h0, X', hL, e1, e2, ⟨u, hp, hb, hF⟩, hce, hcv, hcl, st⟩
  · cases hv
    obtain ⟨k1, k2, k3⟩ := vx_keep h0 e1 hS hA hf hL hF
    obtain ⟨t2, a1, b1⟩ := kk r u t T'.heap (locs ++ L) e1.symm (by rw [← e2]; exact X'.warmed.alike) hp hb k1 k2 k3 T' rfl X'
    exact ⟨t2, st t2 a1, b1⟩
  · obtain ⟨k1, k2, k3⟩ := vx_keep h0 e1 hS hAX hf hL hF
    obtain ⟨t2, a1, b1⟩ := kx E ce q u t T'.heap (locs ++ L) e1.symm (by rw [← e2]; exact X'.warmed.alike) hp hb k1 k2 k3 (by rw [e1]; exact hce) hcv hcl T' rfl X'
    exact ⟨t2, st.trans a1, b1⟩
theorem vx_callv {S SX : Type} {post : S → Prop} {px : SX → Prop} {B : S → State → Prop} {BX : String → SX → State → Prop} {AX : Nat → Prop} (hr : vx_Run p l e R s m args below meth c H locs cells slots mc ms (F0 m pc ls st0) rest (va_Qv post B A1 a) (vx_X px BX AX) free) (hS : va_S A0 H0 H locs) (hA : ∀ q, q < H.size → A1 q → A0 q) (hf : ∀ q, free q → A0 q) (hAX : ∀ q, q < H.size → AX q → A0 q)
    (kx : ∀ (E : String) (ce : Cell) (q9 : Addr) (u : SX) (t : State) (H1 : Heap) (locs1 : List Loc), t.heap = H1 → s.vm.Alike t.vm → px u → BX E u t → H.size ≤ H1.size → (∀ q : Nat, q < H.size → ¬ AX q → H1[q]? = H[q]?) → va_S A0 H0 H1 locs1 → H1[q9]? = some ce → ce.vm = .none → s.vm.findClass E = some ce.cls → vx_W p l e R s m args below meth c H1 locs1 (cells + mc) (slots + ms) Q (F0 m pc ls rest) q9)
    (kk : ∀ (u : S) (t : State) (H1 : Heap) (locs1 : List Loc), t.heap = H1 → s.vm.Alike t.vm → post u → B u t → H.size ≤ H1.size → (∀ q : Nat, q < H.size → ¬ A1 q → H1[q]? = H[q]?) → va_S A0 H0 H1 locs1 → W p l e R s m args below meth c H1 locs1 (cells + mc) (slots + ms) Q (F0 m (pc + 3) ls (rest))) : W p l e R s m args below meth c H locs cells slots Q (F0 m pc ls st0) := by
  intro T hT X
  rcases hr T hT X with ⟨v, st₀, t, T', L, h0, X', hL, e1, e2, ⟨⟨u, hv, hp, hb⟩, hF⟩, st⟩ | ⟨q, st₀, t, T', L, E, ce, h0, X', hL, e1, e2, ⟨u, hp, hb, hF⟩, hce, hcv, hcl, st⟩
  · cases hv
    obtain ⟨k1, k2, k3⟩ := vx_keep h0 e1 hS hA hf hL hF
    obtain ⟨t2, a1, b1⟩ := kk u t T'.heap (locs ++ L) e1.symm (by rw [← e2]; exact X'.warmed.alike) hp hb k1 k2 k3 T' rfl X'
    exact ⟨t2, st t2 a1, b1⟩
  · obtain ⟨k1, k2, k3⟩ := vx_keep h0 e1 hS hAX hf hL hF
    obtain ⟨t2, a1, b1⟩ := kx E ce q u t T'.heap (locs ++ L) e1.symm (by rw [← e2]; exact X'.warmed.alike) hp hb k1 k2 k3 (by rw [e1]; exact hce) hcv hcl T' rfl X'
    exact ⟨t2, st.trans a1, b1⟩
/-- caught by the row x of this method's table; the rows ahead don't take it -/
theorem vx_catch {own name : String} {E : String} {ce : Cell} {q : Addr} (hown : s.vm.findClass own = some m.cls) (pre : List ExceptionTableEntry) (x : ExceptionTableEntry) (suf : List ExceptionTableEntry) (hsplit : c.exceptionTable.toList = pre ++ x :: suf)
    (hpass : ∀ z ∈ pre, covers z pc = false ∨ (z.catchType ≠ 0 ∧ ∃ nm : String, (Cond.classLink own z.catchType nm).before args s = true ∧ va_Nc E nm s)) (hx : covers x pc = true) (h0 : x.catchType ≠ 0)
    (hlink : (Cond.classLink own x.catchType name).before args s = true) (hcast : (Cond.castable E name).before args s = true) (hcell : H[q]? = some ce) (hv : ce.vm = .none) (hcl : s.vm.findClass E = some ce.cls)
    (kk : W p l e R s m args below meth c H locs cells slots Q (F0 m x.handlerPc ls [.ref q])) : vx_W p l e R s m args below meth c H locs cells slots Q (F0 m pc ls rest) q := by
  intro T hT X
  have hpl : e.platform.magicAccessors = ({} : Platform).magicAccessors := by rw [X.admits.platform]
  obtain ⟨c3, c4, hc3, hc4, hasg⟩ := Cond.castable_spec hcast
  cases Option.some.inj (hc3.symm.trans hcl)
  obtain ⟨c5, hc5, hcl5⟩ := Cond.classLink_spec hown hlink e.platform hpl
  cases Option.some.inj (hc4.symm.trans hc5)
  obtain ⟨vm', X', st⟩ := X.thenCaughtThrough q (g := F0 m pc ls rest) rfl (Steps.refl _) (by rw [hT]; exact hcell) (by rw [hv]; rfl) (by obtain ⟨k9, h9, -⟩ := Vm.findClass_spec hcl; exact ⟨k9, h9⟩) pre x suf hsplit
    (fun z hz => by
      rcases hpass z hz with h | ⟨hz0, nm, hl1, hn1⟩
      · exact Or.inl h
      · obtain ⟨c6, hc6, hcl6⟩ := Cond.classLink_spec hown hl1 e.platform hpl
        obtain ⟨a8, b8, h1, h2, h3⟩ := hn1
        cases Option.some.inj (h1.symm.trans hcl)
        cases Option.some.inj (h2.symm.trans hc6)
        exact Or.inr ⟨hz0, _, hcl6, h3⟩) hx (Or.inr ⟨h0, c4, hcl5, hasg⟩)
  obtain ⟨t, a1, b1⟩ := kk (T.setVm vm') hT X'
  exact ⟨t, st.trans a1, b1⟩
end Rows
section Ends
variable {p : Program} {l : Launch} {e : Env} {R : Room} {s : State} {m : MethodId} {args : Array Value} {below : List Frame} {meth : Method} {c : Code} {H : Heap} {locs : List Loc} {cells slots : Nat} {Q : State → Prop}
variable {mc ms : Nat} {free : Addr → Prop} {A0 A1 : Nat → Prop} {H0 : Heap} {a : Array Value} {ls : Array Slot} {st0 rest : List Value}
variable {Qc : Array Value → State → Outcome → State → Prop} {XC : String → State → State → Prop}
/-- what a body that may throw owes at its end -/
def vx_MQ (below : List Frame) (Qc : Array Value → State → Outcome → State → Prop) (XC : String → State → State → Prop) (a : Array Value) (s : State) (mc ms : Nat) (free : Addr → Prop) : State → Prop := fun t =>
  ∃ o, t.status = .running ∧ Ended t below o ∧ vx_Q Qc XC mc ms free a s o t
theorem vx_ret {g : JFrame} {mc ms : Nat} (k : W p l e R s m args below meth c H locs cells slots (MQ below Qc args s mc ms free) g) : W p l e R s m args below meth c H locs cells slots (vx_MQ below Qc XC args s mc ms free) g := by
  intro T hT X
  obtain ⟨t, a1, o, b1, b2, b3, b4⟩ := k T hT X
  exact ⟨t, a1, o, b1, b2, Or.inl ⟨b3, b4⟩⟩
/-- not caught here: it goes on to the caller -/
theorem vx_widen {g : JFrame} {q : Addr} {k n : Nat} (h1 : cells ≤ k) (h2 : slots ≤ n) (kk : vx_W p l e R s m args below meth c H locs k n Q g q) : vx_W p l e R s m args below meth c H locs cells slots Q g q := fun T hT X => kk T hT (stand_widen X h1 h2)
theorem vx_out {pc : Nat} {E : String} {ce : Cell} {q : Addr} {mc ms : Nat} (hout : ∀ x ∈ c.exceptionTable.toList, covers x pc = false) (hlocks : meth.locks = false) (hcell : H[q]? = some ce) (hv : ce.vm = .none) (hcl : s.vm.findClass E = some ce.cls)
    (hx : ∀ t : State, t.heap = H → s.vm.Alike t.vm → XC E s t) (hf : ∀ z ∈ locs, free z.base) (hc : cells ≤ mc) (hs : slots ≤ ms) :
    vx_W p l e R s m args below meth c H locs cells slots (vx_MQ below Qc XC args s mc ms free) (F0 m pc ls rest) q := by
  intro T hT X
  obtain ⟨st1, hrun, hend, hW, hsm⟩ := X.leaveThrown q (g := F0 m pc ls rest) rfl rfl rfl hout hlocks
  have hcell9 : (T.setFrames (.throwing q :: below)).heap[q]? = some ce := by
    show T.heap[q]? = some ce
    rw [hT]; exact hcell
  exact ⟨_, st1, .threw q, hrun, hend, Or.inr ⟨q, rfl, E, ce, locs, hx _ hT hW.alike, hcell9, hv, hcl, hW, hsm.mono hc hs, hf⟩⟩
theorem vx_frame {U : State} {k n : Nat} (h : s.sameButNew ({ U with vm := s.vm } : State) locs k n) : s.heap.size ≤ U.heap.size ∧ ∀ q : Nat, q < s.heap.size → (∀ z ∈ locs, z.base ≠ q) → U.heap[q]? = s.heap[q]? := by
  obtain ⟨-, h2, -, -, -, h6⟩ := h
  refine ⟨h2, fun q hq hz => ?_⟩
  obtain ⟨c9, e1, e2, e3, e4⟩ := h6 q _ (Array.getElem?_eq_getElem hq)
  have hs : c9.slots = (s.heap[q]).slots := Array.ext_getElem? fun i => e4 i fun hm => hz _ hm rfl
  have h9 : c9 = s.heap[q] := by
    rw [hs] at e2
    exact e2
  have e5 : U.heap[q]? = some c9 := e1
  rw [e5, h9, Array.getElem?_eq_getElem hq]
/-- the words of a throw but the four that speak of the heap -/
def vx_no (w : Cond) : Bool := decide (w ≠ .isRef (.static Bundle.tN "UNASSIGNED_STACK" Bundle.steD)) && decide (w ≠ .isRef (.static Bundle.tN "SUPPRESSED_SENTINEL" Bundle.listD)) && decide (w ≠ .laysStatic Bundle.tN "UNASSIGNED_STACK" Bundle.steD) && decide (w ≠ .laysStatic Bundle.tN "SUPPRESSED_SENTINEL" Bundle.listD)
def vx_at0 (own : String) (ic : Nat) (X : String) (names : List String) : List Cond := (Bundle.ownAtoms0 own ic X names).filter vx_no
def vx_atS (own : String) (ic : Nat) (X : String) (names : List String) : List Cond := (Bundle.ownAtoms own ic X names).filter vx_no
/-- a word that the tables alone decide, or a good one -/
def vx_ot (w : Cond) : Bool := w.onTables || goodWord w
theorem vx_ot_at {args a' : Array Value} {s U : State} {w : Cond} (hW : s.WarmedH U.vm) (hvm : s.vm = U.vm) (hg : vx_ot w = true) (h : w.before args s = true) : w.before a' U = true := by
  simp only [vx_ot, Bool.or_eq_true] at hg
  rcases hg with hg | hg
  · exact va_tabs hg hvm h
  · exact word_at hW (good_of_word hg) h
/-- a list's words: the good ones out of the method's own list, the others by premises of their own -/
theorem vx_hat {args : Array Value} {s : State} {L B : List Cond} (h1 : ∀ w ∈ L.filter goodWord, w.before args s = true) (h2 : ∀ w ∈ L.filter (fun w => !goodWord w), w ∈ B) (h3 : ∀ w ∈ B, w.before args s = true) : ∀ w ∈ L, w.before args s = true := by
  intro w hw
  by_cases g : goodWord w = true
  · exact h1 w (List.mem_filter.mpr ⟨hw, g⟩)
  · refine h3 w (h2 w (List.mem_filter.mpr ⟨hw, ?_⟩))
    show (!goodWord w) = true
    cases hgw : goodWord w
    · rfl
    · exact absurd hgw g
theorem vx_c {args : Array Value} {s : State} {w : Cond} {B : List Cond} (h : w.before args s = true) (t : ∀ w ∈ B, w.before args s = true) : ∀ w' ∈ w :: B, w'.before args s = true := fun w' h' => (List.mem_cons.mp h').elim (fun e => by rw [e]; exact h) (t w')
theorem vx_n {args : Array Value} {s : State} : ∀ w ∈ ([] : List Cond), w.before args s = true := fun _ h => nomatch h
theorem vx_own {args : Array Value} {s : State} {L : List Cond} (h1 : ∀ w ∈ L.filter vx_no, w.before args s = true)
    (hU : (Cond.isRef (.static Bundle.tN "UNASSIGNED_STACK" Bundle.steD)).before args s = true) (hN : (Cond.isRef (.static Bundle.tN "SUPPRESSED_SENTINEL" Bundle.listD)).before args s = true)
    (lU : (Cond.laysStatic Bundle.tN "UNASSIGNED_STACK" Bundle.steD).before args s = true) (lN : (Cond.laysStatic Bundle.tN "SUPPRESSED_SENTINEL" Bundle.listD).before args s = true) : ∀ w ∈ L, w.before args s = true := by
  intro w hw
  by_cases e1 : w = .isRef (.static Bundle.tN "UNASSIGNED_STACK" Bundle.steD)
  · rw [e1]; exact hU
  · by_cases e2 : w = .isRef (.static Bundle.tN "SUPPRESSED_SENTINEL" Bundle.listD)
    · rw [e2]; exact hN
    · by_cases e3 : w = .laysStatic Bundle.tN "UNASSIGNED_STACK" Bundle.steD
      · rw [e3]; exact lU
      · by_cases e4 : w = .laysStatic Bundle.tN "SUPPRESSED_SENTINEL" Bundle.listD
        · rw [e4]; exact lN
        · exact h1 w (List.mem_filter.mpr ⟨hw, by unfold vx_no; rw [decide_eq_true e1, decide_eq_true e2, decide_eq_true e3, decide_eq_true e4]; rfl⟩)
/-- where a static field lies, its class's statics cell in H -/
def vx_L (C n d : String) (A : Nat → Prop) (U : State) (H : Heap) : Prop := ∃ (c : ClassId) (k : Class) (i : Nat) (f : Field) (a : Nat) (cell : Cell), U.vm.findClass C = some c ∧ U.fieldFound? C n d = some (c, k, i, f) ∧ f.isStatic = true ∧ k.statics = some a ∧ H[a]? = some cell ∧ cell.vm.isStatics = true ∧ cell.cls = c ∧ f.slot < cell.slots.size ∧ k.staticTypes[f.slot]? = some f.type ∧ ¬ A a
theorem vx_L.moved {C n d : String} {A : Nat → Prop} {u U : State} {H : Heap} (hvm : u.vm.Alike U.vm) (h : vx_L C n d A u H) : vx_L C n d A U H := by
  obtain ⟨c, k, i, f, a, cell, h1, h2, h3, h4, h5, h6, h7, h8, h9, h10⟩ := h
  obtain ⟨k', hi', he⟩ := State.fieldFound?_setVm hvm h2
  exact ⟨c, k', i, f, a, cell, by rw [hvm.findClass]; exact h1, hi', h3, by rw [he]; exact h4, h5, h6, h7, h8, by rw [he]; exact h9, h10⟩
theorem vx_L.kept {C n d : String} {A : Nat → Prop} {U : State} {H H1 : Heap} (h : vx_L C n d A U H) (hq : ∀ a : Nat, a < H.size → ¬ A a → H1[a]? = H[a]?) : vx_L C n d A U H1 := by
  obtain ⟨c, k, i, f, a, cell, h1, h2, h3, h4, h5, h6, h7, h8, h9, h10⟩ := h
  exact ⟨c, k, i, f, a, cell, h1, h2, h3, h4, by rw [hq a (Array.getElem?_eq_some_iff.mp h5).1 h10]; exact h5, h6, h7, h8, h9, h10⟩
theorem vx_L.narrow {C n d : String} {A B : Nat → Prop} {U : State} {H : Heap} (h : vx_L C n d A U H) (hAB : ∀ q, B q → A q) : vx_L C n d B U H := by
  obtain ⟨c, k, i, f, a, cell, h1, h2, h3, h4, h5, h6, h7, h8, h9, h10⟩ := h
  exact ⟨c, k, i, f, a, cell, h1, h2, h3, h4, h5, h6, h7, h8, h9, fun z => h10 (hAB _ z)⟩
theorem vx_L.word {C n d : String} {A : Nat → Prop} {s : State} {args : Array Value} (h : vx_L C n d A s s.heap) : (Cond.laysStatic C n d).before args s = true := by
  obtain ⟨c, k, i, f, a, cell, h1, h2, h3, h4, h5, h6, h7, h8, h9, -⟩ := h
  show (Cond.laysStatic C n d).holds args s none s [] = true
  exact Cond.laysStatic_of h1 h2 h3 h4 h5 h6 h7 h8 h9
/-- .. and what it holds: null or some reference -/
def vx_Zq (C n d : String) (A : Nat → Prop) (U : State) (H : Heap) : Prop := va_Zq C n d A U H ∧ vx_L C n d A U H
theorem vx_Zq.moved {C n d : String} {A : Nat → Prop} {u U : State} {H : Heap} (hvm : u.vm.Alike U.vm) (h : vx_Zq C n d A u H) : vx_Zq C n d A U H := ⟨va_Zq.moved hvm h.1, vx_L.moved hvm h.2⟩
theorem vx_Zq.kept {C n d : String} {A : Nat → Prop} {U : State} {H H1 : Heap} (h : vx_Zq C n d A U H) (hq : ∀ a : Nat, a < H.size → ¬ A a → H1[a]? = H[a]?) : vx_Zq C n d A U H1 := ⟨va_Zq.kept h.1 hq, vx_L.kept h.2 hq⟩
theorem vx_Zq.narrow {C n d : String} {A B : Nat → Prop} {U : State} {H : Heap} (h : vx_Zq C n d A U H) (hAB : ∀ q, B q → A q) : vx_Zq C n d B U H := ⟨va_Zq.narrow h.1 hAB, vx_L.narrow h.2 hAB⟩
theorem vx_Zqof {args : Array Value} {s : State} {C n d : String} {A : Nat → Prop} (hl : (Cond.laysStatic C n d).before args s = true) (hini : (Cond.initialized C).before args s = true) (h : (Cond.isRef (.static C n d)).before args s = true) (hA : ∀ a : Nat, a < s.heap.size → ¬ A a) : vx_Zq C n d A s s.heap := by
  refine ⟨va_Zqof hl hini h hA, ?_⟩
  obtain ⟨c, k, i, f, a, cell, h1, h2, h3, h4, h5, h6, h7, h8, h9⟩ := Cond.laysStatic_spec hl
  exact ⟨c, k, i, f, a, cell, h1, h2, h3, h4, h5, h6, h7, h8, h9, hA a (Array.getElem?_eq_some_iff.mp h5).1⟩
theorem vx_isRef {C n d : String} {v : Value} {A : Nat → Prop} {s : State} {args : Array Value} (h : va_Z C n d v A s s.heap) (hv : v.isRef = true) : (Cond.isRef (.static C n d)).before args s = true := by
  obtain ⟨cf, kf, fi, f, a, cell, h1, h2, h3, h4, h5, h6, h7, -⟩ := h
  have he : (Term.static C n d).eval args s none [] s = some v := by
    simp [Term.eval, State.fieldNamed?, h1, h2, h4, h5, h6, h7]
  simp only [Cond.before, Cond.holds, Cond.value, he]
  cases v <;> simp_all [Value.isRef]
theorem vx_isRefq {C n d : String} {A : Nat → Prop} {s : State} {args : Array Value} (h : va_Zq C n d A s s.heap) : (Cond.isRef (.static C n d)).before args s = true := by
  rcases h with h | ⟨t, h⟩
  · exact vx_isRef h rfl
  · exact vx_isRef h rfl
/-- the same frame, seen from here: as if the method were called anew in this heap -/
theorem vx_rebase {T : State} (X : Stand p l e R s m args below meth c T locs cells slots) {R' : Room} (hf : R'.frames ≤ R.frames) (hl : R'.locals ≤ R.locals) (hc : cells + R'.cells ≤ R.cells) (hs : slots + R'.slots ≤ R.slots) :
    Stand p l e R' ((T.setVm s.vm).setFrames (.invoking m args :: below)) m args below meth c T [] 0 0 := by
  have htop : (T.setVm s.vm).topJava?.isSome := X.here.top
  have hF : ((T.setVm s.vm).setFrames (.invoking m args :: below)).frames = .invoking m args :: below := State.frames_setFrames _ (State.cur_lt_of_top htop)
  obtain ⟨g₀, hg0⟩ := Option.isSome_iff_exists.mp htop
  obtain ⟨r, hr⟩ := State.topJava?_eq_some.mp hg0
  have hl9 : e.platform.stackLimits (T.setVm s.vm).me = e.platform.stackLimits s.me := X.limits
  have hb9 : (T.setVm s.vm).me.stackBytes = s.me.stackBytes := X.bytes
  refine ⟨X.admits, X.cas, X.clock, hF, ?_, X.hears, X.method, X.code, X.here, X.tail, X.warmed, ?_, ?_, ?_⟩
  · have h := X.room
    have hU : ((T.setVm s.vm).setFrames (.invoking m args :: below)).localsInUse = s.localsInUse := by
      rw [State.localsInUse_invoking hF (meth := meth) (c := c) X.method X.code, State.localsInUse_invoking X.frames X.method X.code]
    simp only [State.hasRoom, Bool.and_eq_true, decide_eq_true_eq] at h ⊢
    obtain ⟨⟨⟨⟨h1, h2, h3, h4, h5, h6⟩, h7⟩, h8⟩, h9⟩ := h
    rw [X.frames, List.length_cons] at h2 h3
    have q1 := X.heapSize
    have q2 := X.used
    simp only [hF, hU, List.length_cons, State.stackLimits_setFrames, State.stackBytes_setFrames, hl9, hb9]
    refine ⟨⟨⟨⟨by omega, by omega, by omega, by omega, by omega, h6⟩, ?_⟩, ?_⟩, X.book⟩
    · show T.heap.size + R'.cells ≤ e.platform.maxCells
      omega
    · show T.slotsUsed + R'.slots ≤ e.platform.maxSlots
      omega
  · rw [State.stackLimits_setFrames]; rfl
  · rw [State.stackBytes_setFrames]; rfl
  · refine ⟨?_, Nat.le_refl _, Nat.le_refl _, ?_, ?_, fun a c9 h9 => ⟨c9, h9, rfl, rfl, fun _ _ => rfl⟩⟩
    · obtain ⟨t, ht, -⟩ := State.frames_cons hr
      show T.setVm s.vm = { ((T.setVm s.vm).setFrames (.invoking m args :: below)).setFrames (T.setVm s.vm).frames with heap := T.heap, slotsUsed := T.slotsUsed }
      rw [State.setFrames_setFrames, State.setFrames_self ht]
      rfl
    · show T.slotsUsed = T.slotsUsed + ((T.heap.toList.drop T.heap.size).map (·.slots.size)).sum
      rw [List.drop_eq_nil_of_le (Nat.le_of_eq Array.length_toList)]
      rfl
    · show ((T.heap.toList.drop T.heap.size).map (·.slots.size)).sum ≤ 0
      rw [List.drop_eq_nil_of_le (Nat.le_of_eq Array.length_toList)]
      exact Nat.le_refl _
/-- 'throw new E()': new; dup; invokespecial; athrow -/
theorem vx_throw0 {cc : ByteArray} {pc : Nat} (hexec : p.tables.exec = Jvm.exec) (hb : c.code = cc) (hl : l.stackTraces = false) {own cls : String} {names : List String} {ik ic mc ms : Nat} {A : Nat → Prop}
    (hown : s.vm.findClass own = some m.cls) (hcls : Bundle.fit cls = true) (hnames : ∀ n ∈ names, Bundle.fit n = true)
    (hk : (Cond.classLink own ik cls).before args s = true) (hini : (Cond.initialized cls).before args s = true) (hat : ∀ w ∈ vx_at0 own ic cls names, w.before args s = true)
    (hgood : ∀ w ∈ Cond.classLink own ik cls :: Cond.initialized cls :: vx_at0 own ic cls names, vx_ot w = true)
    (hU : vx_Zq Bundle.tN "UNASSIGNED_STACK" Bundle.steD A s s.heap) (hN : vx_Zq Bundle.tN "SUPPRESSED_SENTINEL" Bundle.listD A s s.heap) (hS : va_S A s.heap H locs) (hsize : ls.size = c.maxLocals)
    (d0 : decode cc pc = .ok (.new ik, 3)) (d3 : decode cc (pc + 3) = .ok (.dup, 1)) (d4 : decode cc (pc + 4) = .ok (.invokespecial ic, 3)) (d7 : decode cc (pc + 7) = .ok (.athrow, 1))
    (hout : ∀ x ∈ c.exceptionTable.toList, covers x (pc + 7) = false)
    (hRframes : names.length + 3 < R.frames) (hRlocals : (rest.map fun v => v.category).sum + (13 * (names.length + 1) + 42) ≤ R.locals) (hRcells : cells + 1 ≤ R.cells) (hRslots : slots + 6 ≤ R.slots) (hlocks : meth.locks = false)
    (hx : ∀ t : State, s.vm.Alike t.vm → H.size ≤ t.heap.size → (∀ q : Nat, q < H.size → t.heap[q]? = H[q]?) → XC cls s t)
    (hf : ∀ z ∈ locs, free z.base) (hc : cells + 1 ≤ mc) (hs : slots + 6 ≤ ms) :
    W p l e R s m args below meth c H locs cells slots (vx_MQ below Qc XC args s mc ms free) (F0 m pc ls rest) := by
  intro T hT X
  have htr : e.platform.stackTraces = false := (show e.platform.stackTraces = l.stackTraces by rw [X.admits.platform]).trans hl
  have Y := vx_rebase X (R' := { frames := R.frames, locals := R.locals, cells := 1, slots := 6 }) (Nat.le_refl _) (Nat.le_refl _) hRcells hRslots
  obtain ⟨s', hA⟩ : ∃ z, z = (T.setVm s.vm).setFrames (.invoking m args :: below) := ⟨_, rfl⟩
  rw [← hA] at Y
  have hvm : s'.vm = s.vm := by rw [hA]; rfl
  have hhp : s'.heap = H := by rw [hA]; exact hT
  have hW0 : s.WarmedH s'.vm := by rw [hvm]; exact State.WarmedH.refl s
  have hat' : ∀ w ∈ vx_at0 own ic cls names, w.before args s' = true := fun w hw => vx_ot_at hW0 hvm.symm (hgood w (List.mem_cons_of_mem _ (List.mem_cons_of_mem _ hw))) (hat w hw)
  have hk' : (Cond.classLink own ik cls).before args s' = true := vx_ot_at hW0 hvm.symm (hgood _ List.mem_cons_self) hk
  have hini' : (Cond.initialized cls).before args s' = true := vx_ot_at hW0 hvm.symm (hgood _ (List.mem_cons_of_mem _ List.mem_cons_self)) hini
  have hU' : vx_Zq Bundle.tN "UNASSIGNED_STACK" Bundle.steD A s' s'.heap := by rw [hhp]; exact vx_Zq.moved hW0.alike (hU.kept hS.2.1)
  have hN' : vx_Zq Bundle.tN "SUPPRESSED_SENTINEL" Bundle.listD A s' s'.heap := by rw [hhp]; exact vx_Zq.moved hW0.alike (hN.kept hS.2.1)
  have h : ∀ w ∈ Bundle.ownAtoms0 own ic cls names, w.before args s' = true := vx_own hat' (vx_isRefq hU'.1) (vx_isRefq hN'.1) hU'.2.word hN'.2.word
  have hown' : s'.vm.findClass own = some m.cls := by rw [hvm]; exact hown
  have hins : (Cond.instantiable cls 6).before args s' = true := h _ (by simp [Bundle.ownAtoms0])
  obtain ⟨vm₁, cX, kX, hfX, hkX, -, -, X₁, st1⟩ := Y.newCold hexec (own := own) (C := cls) (index := ik) (n := 6) hown' hk' hins hini'
    (g := F0 m pc ls rest) rfl (by rw [hb]; exact d0) (Nat.le_refl _) (Nat.le_refl _)
  generalize hT1 : (T.setVm vm₁).pushCell { cls := cX, slots := kX.instanceTypes.map defaultValue, vm := .none } = T1 at X₁ st1
  have hcat : (Value.ref T.heap.size).category = 1 := rfl
  have hcellA : T1.heap[T.heap.size]? = some (freshCell cX kX) := by rw [← hT1]; exact State.heap_pushCell_size _ _
  have d3' : decode c.code (pc + 3) = .ok (.dup, 1) := by rw [hb]; exact d3
  obtain ⟨U, hsteps, hrun, hend, hW, hsame, ce, hce, hO⟩ := X₁.ctorThrow0 hexec htr (own := own) (cls := cls) (names := names) (ic := ic) hown' hcls hnames h (fun x hx => nomatch hx) hfX hkX hcellA (by rw [hhp, hT]; exact Nat.le_refl _)
    (g := { method := m, pc := pc + 4, locals := ls, stack := .ref T.heap.size :: .ref T.heap.size :: rest, locked := none }) rfl hsize rfl rfl (rest := rest) rfl
    (by rw [hb]; exact d4) (by rw [hb]; exact d7) hout hRframes (by simp only [List.map_cons, List.sum_cons, hcat]; omega) hlocks
  obtain ⟨f1, f2⟩ := vx_frame hsame
  rw [hhp] at f1 f2
  have hWs : s.WarmedH U.vm := State.WarmedH.trans hW0 hW
  have hcl : s.vm.findClass cls = some ce.cls := by
    have h9 := hO.cls
    rw [hvm] at h9
    exact h9
  have hall : s.sameButNew ({ U with vm := s.vm } : State) locs mc ms := by
    subst hA
    obtain ⟨e1, e2⟩ := hsame
    rw [State.setFrames_setFrames] at e1
    have h2 : (T.setVm s.vm).sameButNew ({ U with vm := s.vm } : State) [] (0 + 1) (0 + 6) := ⟨e1, e2⟩
    have h3 := X.same.trans h2
    rw [List.append_nil] at h3
    exact h3.mono hc hs
  refine ⟨U, ?_, .threw T.heap.size, hrun, hend, Or.inr ⟨T.heap.size, rfl, cls, ce, locs, hx U hWs.alike f1 (fun q hq => f2 q hq (fun z hz => nomatch hz)), hce, hO.vm, hcl, hWs, hall, hf⟩⟩
  refine st1 _ ?_
  show Steps p.tables e below (T1.setTop { method := m, pc := pc + 3, locals := ls, stack := .ref T.heap.size :: rest, locked := none }) _
  jvm_step X₁.here [X₁.here.top, hexec, d3', Value.category]
  exact hsteps
/-- 'throw new E("text")': new; dup; ldc; invokespecial; athrow -/
theorem vx_throwS {cc : ByteArray} {pc : Nat} (hexec : p.tables.exec = Jvm.exec) (hb : c.code = cc) (hl : l.stackTraces = false) {own cls text : String} {names : List String} {ik is ic mc ms sa : Nat} {A : Nat → Prop}
    (hown : s.vm.findClass own = some m.cls) (hcls : Bundle.fit cls = true) (hnames : ∀ n ∈ names, Bundle.fit n = true)
    (hk : (Cond.classLink own ik cls).before args s = true) (hini : (Cond.initialized cls).before args s = true) (hstr : vk_R own is text sa s) (hat : ∀ w ∈ vx_atS own ic cls names, w.before args s = true)
    (hgood : ∀ w ∈ Cond.classLink own ik cls :: Cond.initialized cls :: vx_atS own ic cls names, vx_ot w = true)
    (hU : vx_Zq Bundle.tN "UNASSIGNED_STACK" Bundle.steD A s s.heap) (hN : vx_Zq Bundle.tN "SUPPRESSED_SENTINEL" Bundle.listD A s s.heap) (hS : va_S A s.heap H locs) (hsize : ls.size = c.maxLocals)
    (d0 : decode cc pc = .ok (.new ik, 3)) (d3 : decode cc (pc + 3) = .ok (.dup, 1)) (d4 : decode cc (pc + 4) = .ok (.ldc is, 2)) (d6 : decode cc (pc + 6) = .ok (.invokespecial ic, 3)) (d9 : decode cc (pc + 9) = .ok (.athrow, 1))
    (hout : ∀ x ∈ c.exceptionTable.toList, covers x (pc + 9) = false)
    (hRframes : names.length + 3 < R.frames) (hRlocals : (rest.map fun v => v.category).sum + (13 * (names.length + 1) + 43) ≤ R.locals) (hRcells : cells + 1 ≤ R.cells) (hRslots : slots + 6 ≤ R.slots) (hlocks : meth.locks = false)
    (hx : ∀ t : State, s.vm.Alike t.vm → H.size ≤ t.heap.size → (∀ q : Nat, q < H.size → t.heap[q]? = H[q]?) → XC cls s t)
    (hf : ∀ z ∈ locs, free z.base) (hc : cells + 1 ≤ mc) (hs : slots + 6 ≤ ms) :
    W p l e R s m args below meth c H locs cells slots (vx_MQ below Qc XC args s mc ms free) (F0 m pc ls rest) := by
  intro T hT X
  have htr : e.platform.stackTraces = false := (show e.platform.stackTraces = l.stackTraces by rw [X.admits.platform]).trans hl
  have Y := vx_rebase X (R' := { frames := R.frames, locals := R.locals, cells := 1, slots := 6 }) (Nat.le_refl _) (Nat.le_refl _) hRcells hRslots
  obtain ⟨s', hA⟩ : ∃ z, z = (T.setVm s.vm).setFrames (.invoking m args :: below) := ⟨_, rfl⟩
  rw [← hA] at Y
  have hvm : s'.vm = s.vm := by rw [hA]; rfl
  have hhp : s'.heap = H := by rw [hA]; exact hT
  have hW0 : s.WarmedH s'.vm := by rw [hvm]; exact State.WarmedH.refl s
  have hat' : ∀ w ∈ vx_atS own ic cls names, w.before args s' = true := fun w hw => vx_ot_at hW0 hvm.symm (hgood w (List.mem_cons_of_mem _ (List.mem_cons_of_mem _ hw))) (hat w hw)
  have hk' : (Cond.classLink own ik cls).before args s' = true := vx_ot_at hW0 hvm.symm (hgood _ List.mem_cons_self) hk
  have hini' : (Cond.initialized cls).before args s' = true := vx_ot_at hW0 hvm.symm (hgood _ (List.mem_cons_of_mem _ List.mem_cons_self)) hini
  have hU' : vx_Zq Bundle.tN "UNASSIGNED_STACK" Bundle.steD A s' s'.heap := by rw [hhp]; exact vx_Zq.moved hW0.alike (hU.kept hS.2.1)
  have hN' : vx_Zq Bundle.tN "SUPPRESSED_SENTINEL" Bundle.listD A s' s'.heap := by rw [hhp]; exact vx_Zq.moved hW0.alike (hN.kept hS.2.1)
  have h : ∀ w ∈ Bundle.ownAtoms own ic cls names, w.before args s' = true := vx_own hat' (vx_isRefq hU'.1) (vx_isRefq hN'.1) hU'.2.word hN'.2.word
  have hown' : s'.vm.findClass own = some m.cls := by rw [hvm]; exact hown
  have hins : (Cond.instantiable cls 6).before args s' = true := h _ (by simp [Bundle.ownAtoms])
  obtain ⟨vm₁, cX, kX, hfX, hkX, -, -, X₁, st1⟩ := Y.newCold hexec (own := own) (C := cls) (index := ik) (n := 6) hown' hk' hins hini'
    (g := F0 m pc ls rest) rfl (by rw [hb]; exact d0) (Nat.le_refl _) (Nat.le_refl _)
  generalize hT1 : (T.setVm vm₁).pushCell { cls := cX, slots := kX.instanceTypes.map defaultValue, vm := .none } = T1 at X₁ st1
  have hcat : (Value.ref T.heap.size).category = 1 := rfl
  have hcellA : T1.heap[T.heap.size]? = some (freshCell cX kX) := by rw [← hT1]; exact State.heap_pushCell_size _ _
  have d3' : decode c.code (pc + 3) = .ok (.dup, 1) := by rw [hb]; exact d3
  have d4' : decode c.code (pc + 4) = .ok (.ldc is, 2) := by rw [hb]; exact d4
  have hstr' : vk_R own is text sa s' := vk_R.warm hW0 hstr
  obtain ⟨U, hsteps, hrun, hend, hW, hsame, ce, hce, hO⟩ := X₁.ctorThrowS hexec htr (own := own) (cls := cls) (names := names) (ic := ic) hown' hcls hnames h (fun x hx => nomatch hx) hfX hkX hcellA (by rw [hhp, hT]; exact Nat.le_refl _) (msg := .ref sa) rfl
    (g := { method := m, pc := pc + 6, locals := ls, stack := .ref sa :: .ref T.heap.size :: .ref T.heap.size :: rest, locked := none }) rfl hsize rfl rfl (rest := rest) rfl
    (by rw [hb]; exact d6) (by rw [hb]; exact d9) hout hRframes (by simp only [List.map_cons, List.sum_cons, hcat]; omega) hlocks
  obtain ⟨f1, f2⟩ := vx_frame hsame
  rw [hhp] at f1 f2
  have hWs : s.WarmedH U.vm := State.WarmedH.trans hW0 hW
  have hcl : s.vm.findClass cls = some ce.cls := by
    have h9 := hO.cls
    rw [hvm] at h9
    exact h9
  have hall : s.sameButNew ({ U with vm := s.vm } : State) locs mc ms := by
    subst hA
    obtain ⟨e1, e2⟩ := hsame
    rw [State.setFrames_setFrames] at e1
    have h2 : (T.setVm s.vm).sameButNew ({ U with vm := s.vm } : State) [] (0 + 1) (0 + 6) := ⟨e1, e2⟩
    have h3 := X.same.trans h2
    rw [List.append_nil] at h3
    exact h3.mono hc hs
  refine ⟨U, ?_, .threw T.heap.size, hrun, hend, Or.inr ⟨T.heap.size, rfl, cls, ce, locs, hx U hWs.alike f1 (fun q hq => f2 q hq (fun z hz => nomatch hz)), hce, hO.vm, hcl, hWs, hall, hf⟩⟩
  refine st1 _ ?_
  show Steps p.tables e below (T1.setTop { method := m, pc := pc + 3, locals := ls, stack := .ref T.heap.size :: rest, locked := none }) _
  jvm_step X₁.here [X₁.here.top, hexec, d3', Value.category]
  exact X₁.ldcString hexec (own := own) (text := text) (index := is) (a := sa) hown' hstr'.1 hstr'.2
    (g := { method := m, pc := pc + 4, locals := ls, stack := .ref T.heap.size :: .ref T.heap.size :: rest, locked := none }) rfl d4' _ hsteps
/-- 'throw new E("text")', the text by a wide index -/
theorem vx_throwSW {cc : ByteArray} {pc : Nat} (hexec : p.tables.exec = Jvm.exec) (hb : c.code = cc) (hl : l.stackTraces = false) {own cls text : String} {names : List String} {ik is ic mc ms sa : Nat} {A : Nat → Prop}
    (hown : s.vm.findClass own = some m.cls) (hcls : Bundle.fit cls = true) (hnames : ∀ n ∈ names, Bundle.fit n = true)
    (hk : (Cond.classLink own ik cls).before args s = true) (hini : (Cond.initialized cls).before args s = true) (hstr : vk_R own is text sa s) (hat : ∀ w ∈ vx_atS own ic cls names, w.before args s = true)
    (hgood : ∀ w ∈ Cond.classLink own ik cls :: Cond.initialized cls :: vx_atS own ic cls names, vx_ot w = true)
    (hU : vx_Zq Bundle.tN "UNASSIGNED_STACK" Bundle.steD A s s.heap) (hN : vx_Zq Bundle.tN "SUPPRESSED_SENTINEL" Bundle.listD A s s.heap) (hS : va_S A s.heap H locs) (hsize : ls.size = c.maxLocals)
    (d0 : decode cc pc = .ok (.new ik, 3)) (d3 : decode cc (pc + 3) = .ok (.dup, 1)) (d4 : decode cc (pc + 4) = .ok (.ldc_w is, 3)) (d7 : decode cc (pc + 7) = .ok (.invokespecial ic, 3)) (d10 : decode cc (pc + 10) = .ok (.athrow, 1))
    (hout : ∀ x ∈ c.exceptionTable.toList, covers x (pc + 10) = false)
    (hRframes : names.length + 3 < R.frames) (hRlocals : (rest.map fun v => v.category).sum + (13 * (names.length + 1) + 43) ≤ R.locals) (hRcells : cells + 1 ≤ R.cells) (hRslots : slots + 6 ≤ R.slots) (hlocks : meth.locks = false)
    (hx : ∀ t : State, s.vm.Alike t.vm → H.size ≤ t.heap.size → (∀ q : Nat, q < H.size → t.heap[q]? = H[q]?) → XC cls s t)
    (hf : ∀ z ∈ locs, free z.base) (hc : cells + 1 ≤ mc) (hs : slots + 6 ≤ ms) :
    W p l e R s m args below meth c H locs cells slots (vx_MQ below Qc XC args s mc ms free) (F0 m pc ls rest) := by
  intro T hT X
  have htr : e.platform.stackTraces = false := (show e.platform.stackTraces = l.stackTraces by rw [X.admits.platform]).trans hl
  have Y := vx_rebase X (R' := { frames := R.frames, locals := R.locals, cells := 1, slots := 6 }) (Nat.le_refl _) (Nat.le_refl _) hRcells hRslots
  obtain ⟨s', hA⟩ : ∃ z, z = (T.setVm s.vm).setFrames (.invoking m args :: below) := ⟨_, rfl⟩
  rw [← hA] at Y
  have hvm : s'.vm = s.vm := by rw [hA]; rfl
  have hhp : s'.heap = H := by rw [hA]; exact hT
  have hW0 : s.WarmedH s'.vm := by rw [hvm]; exact State.WarmedH.refl s
  have hat' : ∀ w ∈ vx_atS own ic cls names, w.before args s' = true := fun w hw => vx_ot_at hW0 hvm.symm (hgood w (List.mem_cons_of_mem _ (List.mem_cons_of_mem _ hw))) (hat w hw)
  have hk' : (Cond.classLink own ik cls).before args s' = true := vx_ot_at hW0 hvm.symm (hgood _ List.mem_cons_self) hk
  have hini' : (Cond.initialized cls).before args s' = true := vx_ot_at hW0 hvm.symm (hgood _ (List.mem_cons_of_mem _ List.mem_cons_self)) hini
  have hU' : vx_Zq Bundle.tN "UNASSIGNED_STACK" Bundle.steD A s' s'.heap := by rw [hhp]; exact vx_Zq.moved hW0.alike (hU.kept hS.2.1)
  have hN' : vx_Zq Bundle.tN "SUPPRESSED_SENTINEL" Bundle.listD A s' s'.heap := by rw [hhp]; exact vx_Zq.moved hW0.alike (hN.kept hS.2.1)
  have h : ∀ w ∈ Bundle.ownAtoms own ic cls names, w.before args s' = true := vx_own hat' (vx_isRefq hU'.1) (vx_isRefq hN'.1) hU'.2.word hN'.2.word
  have hown' : s'.vm.findClass own = some m.cls := by rw [hvm]; exact hown
  have hins : (Cond.instantiable cls 6).before args s' = true := h _ (by simp [Bundle.ownAtoms])
  obtain ⟨vm₁, cX, kX, hfX, hkX, -, -, X₁, st1⟩ := Y.newCold hexec (own := own) (C := cls) (index := ik) (n := 6) hown' hk' hins hini'
    (g := F0 m pc ls rest) rfl (by rw [hb]; exact d0) (Nat.le_refl _) (Nat.le_refl _)
  generalize hT1 : (T.setVm vm₁).pushCell { cls := cX, slots := kX.instanceTypes.map defaultValue, vm := .none } = T1 at X₁ st1
  have hcat : (Value.ref T.heap.size).category = 1 := rfl
  have hcellA : T1.heap[T.heap.size]? = some (freshCell cX kX) := by rw [← hT1]; exact State.heap_pushCell_size _ _
  have d3' : decode c.code (pc + 3) = .ok (.dup, 1) := by rw [hb]; exact d3
  have d4' : decode c.code (pc + 4) = .ok (.ldc_w is, 3) := by rw [hb]; exact d4
  have hstr' : vk_R own is text sa s' := vk_R.warm hW0 hstr
  obtain ⟨U, hsteps, hrun, hend, hW, hsame, ce, hce, hO⟩ := X₁.ctorThrowS hexec htr (own := own) (cls := cls) (names := names) (ic := ic) hown' hcls hnames h (fun x hx => nomatch hx) hfX hkX hcellA (by rw [hhp, hT]; exact Nat.le_refl _) (msg := .ref sa) rfl
    (g := { method := m, pc := pc + 7, locals := ls, stack := .ref sa :: .ref T.heap.size :: .ref T.heap.size :: rest, locked := none }) rfl hsize rfl rfl (rest := rest) rfl
    (by rw [hb]; exact d7) (by rw [hb]; exact d10) hout hRframes (by simp only [List.map_cons, List.sum_cons, hcat]; omega) hlocks
  obtain ⟨f1, f2⟩ := vx_frame hsame
  rw [hhp] at f1 f2
  have hWs : s.WarmedH U.vm := State.WarmedH.trans hW0 hW
  have hcl : s.vm.findClass cls = some ce.cls := by
    have h9 := hO.cls
    rw [hvm] at h9
    exact h9
  have hall : s.sameButNew ({ U with vm := s.vm } : State) locs mc ms := by
    subst hA
    obtain ⟨e1, e2⟩ := hsame
    rw [State.setFrames_setFrames] at e1
    have h2 : (T.setVm s.vm).sameButNew ({ U with vm := s.vm } : State) [] (0 + 1) (0 + 6) := ⟨e1, e2⟩
    have h3 := X.same.trans h2
    rw [List.append_nil] at h3
    exact h3.mono hc hs
  refine ⟨U, ?_, .threw T.heap.size, hrun, hend, Or.inr ⟨T.heap.size, rfl, cls, ce, locs, hx U hWs.alike f1 (fun q hq => f2 q hq (fun z hz => nomatch hz)), hce, hO.vm, hcl, hWs, hall, hf⟩⟩
  refine st1 _ ?_
  show Steps p.tables e below (T1.setTop { method := m, pc := pc + 3, locals := ls, stack := .ref T.heap.size :: rest, locked := none }) _
  jvm_step X₁.here [X₁.here.top, hexec, d3', Value.category]
  exact X₁.ldcStringW hexec (own := own) (text := text) (index := is) (a := sa) hown' hstr'.1 hstr'.2
    (g := { method := m, pc := pc + 4, locals := ls, stack := .ref T.heap.size :: .ref T.heap.size :: rest, locked := none }) rfl d4' _ hsteps
end Ends
section Bodies
variable {l : Launch}
theorem vx_ofW {y : MethodName} {ws ws' : List Cond} {rm : Room} {Pc : Array Value → State → Prop} {Qc : Array Value → State → Outcome → State → Prop} {XC : String → State → State → Prop} {mc ms : Nat} {free : Addr → Prop} {cc : ByteArray} {maxL : Nat} {ret : Option FieldType}
    (hy : plainName y.cls = true) (hw : ws = Cond.code y cc maxL ret :: ws')
    (body : ∀ p e s m args below meth c s₁, BodyLoose p l y (headSpec ws rm) cc maxL ret e s m args below meth c s₁ → c.maxLocals = maxL → (∀ x ∈ c.exceptionTable.toList, False) → Pc args s →
      W p l e (headSpec ws rm).room s m args below meth c s.heap [] 0 0 (vx_MQ below Qc XC args s mc ms free) (entryFrame m args maxL)) : vx_Met l y ws rm Pc Qc XC mc ms free := by
  refine MetFree.of_bodyS (code := cc) (maxLocals := maxL) (ret := ret) hy ?_ ?_
  · intro args s m h hn
    obtain ⟨meth, c, h1, h2, h3, h4, h5, h6, -, -⟩ := Cond.code_spec hn (atoms_spec (ws := ws) h _ (by rw [hw]; exact List.mem_cons_self))
    exact ⟨meth, c, h1, h2, h3, h4, h5, h6⟩
  · intro p e s m args below meth c s₁ B hml hP _
    have hh0 : s₁.heap = s.heap := by rw [B.state]; rfl
    have ht : ∀ x ∈ c.exceptionTable.toList, False := by
      obtain ⟨meth9, c9, h1, h2, -, -, -, -, h7, -⟩ := Cond.code_spec B.named (atoms_spec (ws := ws) B.pre _ (by rw [hw]; exact List.mem_cons_self))
      cases Option.some.inj (h1.symm.trans B.method)
      cases Option.some.inj (h2.symm.trans (Stand.of_body B).code)
      intro x hx
      rw [Array.isEmpty_iff.mp h7] at hx
      cases hx
    obtain ⟨t, a1, o, b1, b2, b3⟩ := body p e s m args below meth c s₁ B hml ht hP s₁ hh0 (Stand.of_body B)
    exact ⟨t, o, a1, b1, b2, b3⟩
/-- the table of a body with handlers -/
theorem vx_table {p : Program} {x y : MethodName} {S : Spec} {cc bytes : ByteArray} {maxL maxL' : Nat} {ret ret' : Option FieldType} {e : Env} {s s₁ : State} {m : MethodId} {args : Array Value} {below : List Frame} {meth : Method} {c : Code} {hh : List (Nat × Nat × Nat × Nat)}
    (B : BodyLoose p l y S cc maxL ret e s m args below meth c s₁) (h : (Cond.codeWith y bytes maxL' ret' hh).before args s = true) : c.exceptionTable.toList = tableOf hh := by
  obtain ⟨m9, meth9, c9, hn9, h1, h2, -, -, h6, -⟩ := Cond.codeWith_spec h
  cases Option.some.inj (hn9.symm.trans B.named)
  cases Option.some.inj (h1.symm.trans B.method)
  cases Option.some.inj (h2.symm.trans (Stand.of_body B).code)
  rw [← h6, table_eq]
end Bodies
end VXA
/-! ===== END ===== -/
/-! ===== BEGIN a static call of a method with an exception table ===== -/
section VXS
variable {p : Program} {l : Launch} {e : Env} {R : Room} {s : State} {m : MethodId} {args : Array Value} {below : List Frame} {meth : Method} {c : Code} {T : State} {H : Heap} {locs : List Loc} {cells slots : Nat}
abbrev vx_CSW (R : Room) (s : State) (args : Array Value) (own : String) (index : Nat) (y : MethodName) (bytes : ByteArray) (maxL : Nat) (ret : Option FieldType) (hh : List (Nat × Nat × Nat × Nat)) (ws : List Cond) (rm : Room) (mc ms n : Nat) : Prop :=
  (rm.cells = mc ∧ rm.slots = ms ∧ rm.frames + 1 ≤ R.frames ∧ 8 + (maxL + 11) + rm.locals ≤ R.locals ∧ (∀ w ∈ ws, ∀ (a' : Array Value) (U : State), s.WarmedH U.vm → w.before a' U = true) ∧ Cond.codeWith y bytes maxL ret hh ∈ ws) ∧
  (Cond.codeWith y bytes maxL ret hh).before args s = true ∧ (Cond.initialized y.cls).before args s = true ∧ (y.cls ≠ "java/lang/invoke/MethodHandle" ∧ y.cls ≠ "java/lang/invoke/VarHandle") ∧
  (∀ sig, parseMethodDescriptor y.desc = some sig → n = sig.parameters.length) ∧ (Cond.methodLink own index y).before args s = true ∧ (Cond.static y).before args s = true
theorem vx_cwSW {own : String} {index maxL mc ms : Nat} {y : MethodName} {bytes : ByteArray} {ret : Option FieldType} {hh : List (Nat × Nat × Nat × Nat)} {Ts ws ws' : List Cond} {rm : Room} (n : Nat) (ht : ∀ w ∈ Ts, w.before args s = true) (hT : GoodIn Ts (va_wsS own index y ws)) (hw : ws = Cond.codeWith y bytes maxL ret hh :: ws') (hrc : rm.cells = mc) (hrs : rm.slots = ms)
    (hd : y.cls ≠ "java/lang/invoke/MethodHandle" ∧ y.cls ≠ "java/lang/invoke/VarHandle" ∧ (parseMethodDescriptor y.desc).map (fun d => d.parameters.length) = some n) (hR : rm.frames + 1 ≤ R.frames ∧ 8 + (maxL + 11) + rm.locals ≤ R.locals) :
    vx_CSW R s args own index y bytes maxL ret hh ws rm mc ms n := by
  have ok : ∀ w ∈ va_wsS own index y ws, w.before args s = true := fun w h => ht w (hT w h).1
  have hG : GoodIn Ts ws := fun w h => hT w (by unfold va_wsS; exact List.mem_append_right _ h)
  have hc : Cond.codeWith y bytes maxL ret hh ∈ ws := by rw [hw]; exact List.mem_cons_self
  refine ⟨⟨hrc, hrs, hR.1, hR.2, pay_in ht hG, hc⟩, ht _ (hG _ hc).1, ok _ (by simp [va_wsS]), ⟨hd.1, hd.2.1⟩, fun sig h => ?_, ok _ (by simp [va_wsS]), ok _ (by simp [va_wsS])⟩
  have h2 := hd.2.2
  rw [h] at h2
  exact (Option.some.inj h2).symm
theorem vx_callSW (X : Stand p l e R s m args below meth c T locs cells slots) (hexec : p.tables.exec = Jvm.exec) {own : String} {index : Nat} {y : MethodName} {bytes : ByteArray} {maxL : Nat} {ret : Option FieldType} {hh : List (Nat × Nat × Nat × Nat)}
    (hown : s.vm.findClass own = some m.cls) (hlink : (Cond.methodLink own index y).before args s = true) (hstat : (Cond.static y).before args s = true) (hinit : (Cond.initialized y.cls).before args s = true)
    (hcode : (Cond.codeWith y bytes maxL ret hh).before args s = true) (hy : y.cls ≠ "java/lang/invoke/MethodHandle" ∧ y.cls ≠ "java/lang/invoke/VarHandle")
    {W9 : Nat} {Pre : Pt → Array Value → Prop} {Post : Pt → Array Value → Option Value → Pt → Prop} (hK : Back l R p e below s args y 3 W9 Pre Post)
    {g : JFrame} (hg : g.method = m) (hsize : g.locals.size = c.maxLocals) {argsL rest : List Value} (hlen : ∀ sig, parseMethodDescriptor y.desc = some sig → argsL.length = sig.parameters.length)
    (hstack : g.stack = argsL.reverse ++ rest) (hW : 2 * g.monitorRoom + (rest.map fun v => v.category).sum ≤ W9) (hdg : decode c.code g.pc = .ok (.invokestatic index, 3))
    (hpre : ∀ vm₁, s.WarmedH vm₁ → Pre ⟨T.setVm vm₁, locs, cells, slots⟩ argsL.toArray) :
    ∃ (v : Option Value) (vm₁ : Vm) (B : Pt), s.WarmedH vm₁ ∧ Stand p l e R s m args below meth c B.U B.locs B.cells B.slots ∧ Post ⟨T.setVm vm₁, locs, cells, slots⟩ argsL.toArray v B ∧
      ∀ target, Steps p.tables e below (B.U.setTop { g with pc := g.pc + 3, stack := v.toList ++ rest }) target → Steps p.tables e below (T.setTop g) target := by
  obtain ⟨mk, methM, cM, hnamed, hmethM, -, -, -, -, -, -, hsigM⟩ := Cond.codeWith_spec hcode
  have hstatic : methM.isStatic = true := Cond.static_spec hnamed hmethM hstat
  obtain ⟨kP, hkP, -⟩ := className_of_methodNamed hnamed
  have hinitP : kP.init = .initialized := Cond.initialized_spec (findClass_of_methodNamed hnamed) hkP hinit
  obtain ⟨vm₁, X₁, hstep₁⟩ := X.invokestatic hexec hown hlink hnamed hmethM hstatic hkP hinitP hy (g := g) hg (argsL := argsL) (rest := rest) (hlen _ hsigM) hstack hdg
  obtain ⟨v, B, X', hpost, hsteps⟩ := hK m meth c ⟨T.setVm vm₁, locs, cells, slots⟩ { g with stack := rest } (.invokestatic index) mk argsL.toArray X₁ hg hsize hdg hW (X₁.named hnamed) (hpre vm₁ X₁.warmed)
  exact ⟨v, vm₁, B, X₁.warmed, X', hpost, fun target h => hstep₁ _ fun acts => by rw [doInvoke_state]; exact hsteps.trans h⟩
theorem vx_runSW {y : MethodName} {bytes cc : ByteArray} {maxL nL mc ms n index : Nat} {ret : Option FieldType} {hh : List (Nat × Nat × Nat × Nat)} {ws : List Cond} {rm : Room} {Pc : Array Value → State → Prop} {Qc : Array Value → State → Outcome → State → Prop} {free : Addr → Prop} {Ts : List Cond} {own : String} {As rest : List Value} {g : JFrame}
    (S : CallFix p m c cc nL s args Ts own) (hM : Met l y ws rm Pc Qc mc ms free) (cw : vx_CSW R s args own index y bytes maxL ret hh ws rm mc ms n) (hp : PreS s H Pc As)
    (hg : g.method = m) (hn : As.length = n) (hsize : g.locals.size = nL) (hstack : g.stack = As.reverse ++ rest) (hW : 2 * g.monitorRoom + (rest.map fun v => v.category).sum ≤ 8) (hdg : decode cc g.pc = .ok (.invokestatic index, 3)) (hf : cells + mc ≤ R.cells ∧ slots + ms ≤ R.slots) :
    va_Run p l e R s m args below meth c H locs cells slots mc ms g rest (Qc As.toArray) (free) := by
  obtain ⟨⟨hrc, hrs, hfr, hlo, hws, hcw⟩, hcode, hini, hy, hlen, hl, hstt⟩ := cw
  have hK : Back l R p e below s args y 3 8 (PreOf R mc ms Pc) (PostOf Qc mc ms free) := va_backW (hh := hh) (bytes := bytes) (maxL := maxL) (ret := ret) hM hp.1 hrc hrs hfr hlo hws hcw (fun a' U hW => word_at hW (Or.inl (by first | rfl | simp [Cond.onTables, Cond.keeps, Cond.steady])) hini)
  obtain ⟨hx, hb, hml, ho, -⟩ := S
  intro T hT X
  obtain ⟨v, vm₁, ⟨U', l2, c2, s2⟩, hW₁, X', ⟨g', mk, t, L, e1, e2, hq, h1, hL, h2, h3⟩, st⟩ := vx_callSW X hx (hh := hh) (bytes := bytes) (maxL := maxL) (ret := ret) ho hl hstt hini hcode hy hK hg (hsize.trans hml.symm) (argsL := As) (rest := rest) (fun sig h => hn.trans (hlen sig h)) hstack hW (by rw [hb]; exact hdg)
    (fun vm₁ hW₁ => ⟨hf.1, hf.2, hp.2 (T.setVm vm₁) hT hW₁⟩)
  dsimp only [Pt.U, Pt.locs, Pt.cells, Pt.slots] at X' e1 e2 h1 h2 h3 st
  subst h1; subst h2; subst h3
  exact ⟨v, (T.setVm vm₁).calling g' mk As.toArray, t, U', L, hT, X', hL, e1, e2, hq, st⟩
/-- not caught here, past rows that name other classes: it goes on to the caller -/
theorem vx_outP {p : Program} {l : Launch} {e : Env} {R : Room} {s : State} {m : MethodId} {args : Array Value} {below : List Frame} {meth : Method} {c : Code} {H : Heap} {locs : List Loc} {cells slots : Nat} {free : Addr → Prop} {ls : Array Slot} {rest : List Value} {Qc : Array Value → State → Outcome → State → Prop} {XC : String → State → State → Prop}
    {pc : Nat} {own E : String} {ce : Cell} {q : Addr} {mc ms : Nat} (hown : s.vm.findClass own = some m.cls) (hlocks : meth.locks = false)
    (hpass : ∀ z ∈ c.exceptionTable.toList, covers z pc = false ∨ (z.catchType ≠ 0 ∧ ∃ nm : String, (Cond.classLink own z.catchType nm).before args s = true ∧ va_Nc E nm s)) (hcell : H[q]? = some ce) (hv : ce.vm = .none) (hcl : s.vm.findClass E = some ce.cls)
    (hx : ∀ t : State, t.heap = H → s.vm.Alike t.vm → XC E s t) (hf : ∀ z ∈ locs, free z.base) (hc : cells ≤ mc) (hs : slots ≤ ms) :
    vx_W p l e R s m args below meth c H locs cells slots (vx_MQ below Qc XC args s mc ms free) (F0 m pc ls rest) q := by
  intro T hT X
  have hpl : e.platform.magicAccessors = ({} : Platform).magicAccessors := by rw [X.admits.platform]
  obtain ⟨vm', hW', X', st⟩ := X.outThrough hlocks q (g := F0 m pc ls rest) rfl rfl rfl (cell := ce) (by rw [hT]; exact hcell) (by rw [hv]; rfl)
    (by obtain ⟨k9, h9, -⟩ := Vm.findClass_spec hcl; exact ⟨k9, h9⟩) (fun z hz => by
      rcases hpass z hz with h | ⟨hz0, nm, hl1, hn1⟩
      · exact Or.inl h
      · obtain ⟨c6, hc6, hcl6⟩ := Cond.classLink_spec hown hl1 e.platform hpl
        obtain ⟨a8, b8, h1, h2, h3⟩ := hn1
        cases Option.some.inj (h1.symm.trans hcl)
        cases Option.some.inj (h2.symm.trans hc6)
        exact Or.inr ⟨hz0, _, hcl6, h3⟩)
  obtain ⟨g₀, hfr⟩ := X'.frames_eq
  have hcell9 : ((T.setVm vm').setFrames (.throwing q :: below)).heap[q]? = some ce := by
    show T.heap[q]? = some ce
    rw [hT]; exact hcell
  have hend : Ended ((T.setVm vm').setFrames (.throwing q :: below)) below (.threw q) := State.frames_setFrames _ (State.cur_lt_of_frames hfr)
  refine ⟨(T.setVm vm').setFrames (.throwing q :: below), ?_, .threw q, X'.here.running, hend, Or.inr ⟨q, rfl, E, ce, locs, hx _ hT (X'.ends _).1.alike, hcell9, hv, hcl, (X'.ends _).1, (X'.ends _).2.mono hc hs, hf⟩⟩
  rw [X.pushThrowing_eq]
  exact st
/-- a thing of a world lies in the heap -/
theorem vx_lt {D : va_G} {cl : List vw_C} {ws : va_W} {H1 : Heap} (h : va_P D cl ws H1) {k : Nat} {q : Nat × va_E} (hk : ws[k]? = some q) : q.1 < H1.size := (h k q hk).lt
end VXS
/-! ===== END ===== -/
/-! ===== BEGIN methods with a table of their own: called by a name, returning or throwing ===== -/
section VXH
/-! vx_backW, vx_callVX, vx_callSX, vx_callVW, vx_runVW, vx_runVX, vx_runSX, vx_ofWH follow the same proofs as their sisters above (Free/Laws.lean, Shelf42/LK1.lean); vx_outP calls Shelf42/NT130.lean (outThrough). -/
section
variable {l : Launch} {R : Room} {p : Program} {e : Env} {below : List Frame} {s : State} {sargs : Array Value} {y : MethodName} {len W9 : Nat}
theorem vx_backW {ws : List Cond} {rm : Room} {Pc : Array Value → State → Prop} {Qc : Array Value → State → Outcome → State → Prop} {XC : String → State → State → Prop} {mc ms : Nat} {free : Addr → Prop} {bytes : ByteArray} {maxL : Nat} {ret : Option FieldType} {hh : List (Nat × Nat × Nat × Nat)}
    (hM : vx_Met l y ws rm Pc Qc XC mc ms free) (hblind : FrameBlind Pc) (hrc : rm.cells = mc) (hrs : rm.slots = ms)
    (hframes : rm.frames + 1 ≤ R.frames) (hlocals : W9 + (maxL + 11) + rm.locals ≤ R.locals)
    (hws : ∀ w ∈ ws, ∀ a' U, s.WarmedH U.vm → w.before a' U = true) (hcode : Cond.codeWith y bytes maxL ret hh ∈ ws) (hinit : ∀ a' U, s.WarmedH U.vm → (Cond.initialized y.cls).before a' U = true) :
    vx_Back l R p e below s sargs y len W9 (PreOf R mc ms Pc) (PostOf Qc mc ms free) (vx_Post XC mc ms free) := by
  intro m meth c A g ig mk a X hg hsize hdg hW hn hp
  have h1 : (headSpec ws rm).pre.before a A.U = true := atoms_intro fun w hw => hws w hw _ _ X.warmed
  have h2 : (Cond.codeWith y bytes maxL ret hh).before a A.U = true := hws _ hcode _ _ X.warmed
  have h3 : (Cond.initialized y.cls).before a A.U = true := hinit _ _ X.warmed
  have h4 : A.cells + (headSpec ws rm).room.cells ≤ R.cells := by rw [show (headSpec ws rm).room.cells = mc from hrc]; exact hp.1
  have h5 : A.slots + (headSpec ws rm).room.slots ≤ R.slots := by rw [show (headSpec ws rm).room.slots = ms from hrs]; exact hp.2.1
  have hPc : Pc a (A.U.calling g mk a) := hblind _ _ _ _ hp.2.2
  obtain ⟨U, Ls, c0, s0⟩ := A
  dsimp only [Pt.U, Pt.locs, Pt.cells, Pt.slots] at h1 h2 h3 h4 h5 X hn hPc ⊢
  obtain ⟨m9, methY, cY, hn9, hmY, hcY, -, hlY, -⟩ := Cond.codeWith_spec h2
  cases Option.some.inj (hn9.symm.trans hn)
  obtain ⟨kY, hkY, -⟩ := className_of_methodNamed hn
  have hinitY : kY.init = .initialized := Cond.initialized_spec (findClass_of_methodNamed hn) hkY h3
  have h : At U g.method c below := by rw [hg]; exact X.here
  have hlocals9 : W9 + (maxL + 11) + (headSpec ws rm).room.locals ≤ R.locals := hlocals
  have happ : (headSpec ws rm).appliesLoose y e.platform (U.calling g mk a) = true :=
    Spec.appliesLoose_calling (g := g) h hdg hn hkY hinitY
      (X.room_calling (g := g) (R' := (headSpec ws rm).room) hsize hmY hcY hframes (by rw [hlY]; omega) h4 h5) h1
  obtain ⟨mid, hmid⟩ := h.above
  have hfr : (U.setTop g).frames = (.java g :: mid) ++ below := by rw [State.frames_setTop' g h.top, hmid]; rfl
  obtain ⟨o, s₂, hsteps, -, hend, hq⟩ := Steps.callFree hM p X.admits X.cas X.clock (acts := []) hfr happ hPc trivial
  have hq' : vx_Q Qc XC mc ms free a (U.calling g mk a) o s₂ := hq
  rw [State.frames_setTop' g h.top] at hend
  obtain ⟨g₀, hg0⟩ := Option.isSome_iff_exists.mp h.top
  obtain ⟨r, hr⟩ := State.topJava?_eq_some.mp hg0
  have hr' : (({ U with heap := s₂.heap, slotsUsed := s₂.slotsUsed } : State).setVm s₂.vm).frames = .java g₀ :: r := hr
  rcases hq' with ⟨hqc, L, hfe, hL⟩ | ⟨q, rfl, E, ce, L, hx, hce, hcv, hcl, hW₂, hsm, hL⟩
  · obtain ⟨⟨v, rfl⟩, hW₂, e2, q2, q3, q4, q5, q6⟩ := id hfe
    have e3 : s₂ = ({ (U.calling g mk a).setFrames s₂.frames with heap := s₂.heap, slotsUsed := s₂.slotsUsed } : State).setVm s₂.vm := by
      have : s₂ = ({ s₂ with vm := (U.calling g mk a).vm } : State).setVm s₂.vm := rfl
      rw [e2] at this
      exact this
    obtain ⟨c₂, i₂, len₂, hc₂, hd₂, hf₂⟩ := hend
    have hW' : U.WarmedH s₂.vm := hW₂
    have hcc : c₂ = c := by
      have h1 : s₂.code? g.method = U.code? g.method := by
        rw [State.code?_eq, State.code?_eq, hW'.alike.method?]
      exact Option.some.inj (hc₂.symm.trans (h1.trans h.code))
    subst hcc
    have hlen : len₂ = len := by rw [hdg] at hd₂; cases hd₂; rfl
    subst hlen
    have hs₂ : s₂ = (({ U with heap := s₂.heap, slotsUsed := s₂.slotsUsed } : State).setVm s₂.vm).setTop { g with pc := g.pc + len₂, stack := v.toList ++ g.stack } := by
      refine e3.trans ?_
      rw [hf₂, State.calling_eq h.top, State.setFrames_setFrames, State.setTop_of_frames _ hr', hr]
      rfl
    have hsame : U.sameButNew ({ U with heap := s₂.heap, slotsUsed := s₂.slotsUsed } : State) L mc ms := by
      refine ⟨?_, q2, q3, q4, q5, q6⟩
      obtain ⟨t, ht, -⟩ := State.frames_cons hr
      show ({ U with heap := s₂.heap, slotsUsed := s₂.slotsUsed } : State) = { U.setFrames U.frames with heap := s₂.heap, slotsUsed := s₂.slotsUsed }
      rw [State.setFrames_self ht]
    subst hg
    refine Or.inl ⟨v, ⟨(({ U with heap := s₂.heap, slotsUsed := s₂.slotsUsed } : State).setVm s₂.vm), Ls ++ L, c0 + mc, s0 + ms⟩,
      ⟨X.admits, X.cas, X.clock, X.frames, X.room, X.hears, X.method, X.code, (X.here.setHeapUsed s₂.heap s₂.slotsUsed).setVm hW'.alike, X.tail, State.WarmedH.trans X.warmed hW', X.limits, X.bytes, X.same.trans (hsame.setVm s.vm)⟩,
      ⟨g, mk, s₂, L, rfl, rfl, hqc, rfl, hL, rfl, rfl⟩, ?_⟩
    show Steps p.tables e below _ ((({ U with heap := s₂.heap, slotsUsed := s₂.slotsUsed } : State).setVm s₂.vm).setTop { g with pc := g.pc + len₂, stack := v.toList ++ g.stack })
    rw [← hs₂]
    exact hsteps
  · obtain ⟨e2, q2, q3, q4, q5, q6⟩ := id hsm
    have e3 : s₂ = ({ (U.calling g mk a).setFrames s₂.frames with heap := s₂.heap, slotsUsed := s₂.slotsUsed } : State).setVm s₂.vm := by
      have : s₂ = ({ s₂ with vm := (U.calling g mk a).vm } : State).setVm s₂.vm := rfl
      rw [e2] at this
      exact this
    have hf₂ : s₂.frames = .throwing q :: .java g :: U.frames.tail := hend
    have hW' : U.WarmedH s₂.vm := hW₂
    have hs₂ : s₂ = ((({ U with heap := s₂.heap, slotsUsed := s₂.slotsUsed } : State).setVm s₂.vm).setTop g).pushFrame (.throwing q) := by
      refine e3.trans ?_
      rw [hf₂, State.calling_eq h.top, State.setFrames_setFrames, State.pushFrame, State.frames_setTop _ hr', State.setTop_of_frames _ hr', State.setFrames_setFrames, hr]
      rfl
    have hsame : U.sameButNew ({ U with heap := s₂.heap, slotsUsed := s₂.slotsUsed } : State) L mc ms := by
      refine ⟨?_, q2, q3, q4, q5, q6⟩
      obtain ⟨t, ht, -⟩ := State.frames_cons hr
      show ({ U with heap := s₂.heap, slotsUsed := s₂.slotsUsed } : State) = { U.setFrames U.frames with heap := s₂.heap, slotsUsed := s₂.slotsUsed }
      rw [State.setFrames_self ht]
    subst hg
    refine Or.inr ⟨q, ⟨(({ U with heap := s₂.heap, slotsUsed := s₂.slotsUsed } : State).setVm s₂.vm), Ls ++ L, c0 + mc, s0 + ms⟩,
      ⟨X.admits, X.cas, X.clock, X.frames, X.room, X.hears, X.method, X.code, (X.here.setHeapUsed s₂.heap s₂.slotsUsed).setVm hW'.alike, X.tail, State.WarmedH.trans X.warmed hW', X.limits, X.bytes, X.same.trans (hsame.setVm s.vm)⟩,
      ⟨g, mk, s₂, L, E, ce, rfl, rfl, hx, hce, hcv, hcl, rfl, hL, rfl, rfl⟩, ?_⟩
    show Steps p.tables e below _ (((({ U with heap := s₂.heap, slotsUsed := s₂.slotsUsed } : State).setVm s₂.vm).setTop g).pushFrame (.throwing q))
    rw [← hs₂]
    exact hsteps
end
variable {p : Program} {l : Launch} {e : Env} {R : Room} {s : State} {m : MethodId} {args : Array Value} {below : List Frame} {meth : Method} {c : Code} {T : State} {H : Heap} {locs : List Loc} {cells slots : Nat}
theorem vx_callVX (X : Stand p l e R s m args below meth c T locs cells slots) (hexec : p.tables.exec = Jvm.exec) {own C : String} {index : Nat} {y : MethodName} {bytes : ByteArray} {maxL : Nat} {ret : Option FieldType} {hh : List (Nat × Nat × Nat × Nat)}
    (hown : s.vm.findClass own = some m.cls) (hlink : (Cond.methodLink own index y).before args s = true) (hinst : (Cond.instanceMethod y).before args s = true) (hsel : (Cond.selects C y y).before args s = true)
    (hcode : (Cond.codeWith y bytes maxL ret hh).before args s = true) (hy : y.cls ≠ "java/lang/invoke/MethodHandle" ∧ y.cls ≠ "java/lang/invoke/VarHandle")
    {W9 : Nat} {Pre : Pt → Array Value → Prop} {Post : Pt → Array Value → Option Value → Pt → Prop} {PostX : Pt → Array Value → Addr → Pt → Prop} (hK : vx_Back l R p e below s args y 3 W9 Pre Post PostX)
    {b : Addr} {cellB : Cell} (hcell : T.heap[b]? = some cellB) (hobj : cellB.vm.isStatics = false) (hcls : s.vm.findClass C = some cellB.cls)
    {g : JFrame} (hg : g.method = m) (hsize : g.locals.size = c.maxLocals) {argsL rest : List Value} (hlen : ∀ sig, parseMethodDescriptor y.desc = some sig → argsL.length = sig.parameters.length)
    (hstack : g.stack = argsL.reverse ++ .ref b :: rest) (hW : 2 * g.monitorRoom + (rest.map fun v => v.category).sum ≤ W9) (hdg : decode c.code g.pc = .ok (.invokevirtual index, 3))
    (hpre : ∀ vm₁, s.WarmedH vm₁ → Pre ⟨T.setVm vm₁, locs, cells, slots⟩ (Value.ref b :: argsL).toArray) :
    (∃ (v : Option Value) (vm₁ : Vm) (B : Pt), s.WarmedH vm₁ ∧ Stand p l e R s m args below meth c B.U B.locs B.cells B.slots ∧ Post ⟨T.setVm vm₁, locs, cells, slots⟩ (Value.ref b :: argsL).toArray v B ∧
      ∀ target, Steps p.tables e below (B.U.setTop { g with pc := g.pc + 3, stack := v.toList ++ rest }) target → Steps p.tables e below (T.setTop g) target) ∨
    (∃ (q : Addr) (vm₁ : Vm) (B : Pt), s.WarmedH vm₁ ∧ Stand p l e R s m args below meth c B.U B.locs B.cells B.slots ∧ PostX ⟨T.setVm vm₁, locs, cells, slots⟩ (Value.ref b :: argsL).toArray q B ∧
      Steps p.tables e below (T.setTop g) ((B.U.setTop { g with stack := rest }).pushFrame (.throwing q))) := by
  obtain ⟨mk, methM, hnamed, hmethM, hstM, habM⟩ := Cond.instanceMethod_spec hinst
  obtain ⟨m8, methM', cM, hn8, hmethM', -, -, -, -, -, -, hsigM⟩ := Cond.codeWith_spec hcode
  cases Option.some.inj (hn8.symm.trans hnamed)
  cases hmethM.symm.trans hmethM'
  obtain ⟨c2, r2, m2, q1, q2, q3, q4, kP, hkP, hkPi⟩ := Cond.selects_spec hsel
  cases hcls.symm.trans q1
  cases (State.methodFound?_of_named hnamed hy).symm.trans q2
  cases hnamed.symm.trans q3
  have hselP : selectMethod e.platform s.vm cellB.cls mk = .method mk := by rw [Launch.admits_selectMethod X.admits]; exact q4
  obtain ⟨vm₁, X₁, hstep₁⟩ := X.invokevirtual hexec hown hlink hnamed hmethM hstM hkP hkPi hy (a := b) (cell := cellB) hcell
    (fun z h => by rw [h] at hobj; cases hobj) hselP hmethM habM hkP hkPi (g := g) hg (argsL := argsL) (rest := rest) (hlen _ hsigM) hstack hdg
  rcases hK m meth c ⟨T.setVm vm₁, locs, cells, slots⟩ { g with stack := rest } (.invokevirtual index) mk (Value.ref b :: argsL).toArray X₁ hg hsize hdg hW (X₁.named hnamed) (hpre vm₁ X₁.warmed) with ⟨v, B, X', hpost, hsteps⟩ | ⟨q, B, X', hpost, hsteps⟩
  · exact Or.inl ⟨v, vm₁, B, X₁.warmed, X', hpost, fun target h => hstep₁ _ fun acts => by rw [doInvoke_state]; exact hsteps.trans h⟩
  · exact Or.inr ⟨q, vm₁, B, X₁.warmed, X', hpost, hstep₁ _ fun acts => by rw [doInvoke_state]; exact hsteps⟩
theorem vx_callSX (X : Stand p l e R s m args below meth c T locs cells slots) (hexec : p.tables.exec = Jvm.exec) {own : String} {index : Nat} {y : MethodName} {bytes : ByteArray} {maxL : Nat} {ret : Option FieldType} {hh : List (Nat × Nat × Nat × Nat)}
    (hown : s.vm.findClass own = some m.cls) (hlink : (Cond.methodLink own index y).before args s = true) (hstat : (Cond.static y).before args s = true) (hinit : (Cond.initialized y.cls).before args s = true)
    (hcode : (Cond.codeWith y bytes maxL ret hh).before args s = true) (hy : y.cls ≠ "java/lang/invoke/MethodHandle" ∧ y.cls ≠ "java/lang/invoke/VarHandle")
    {W9 : Nat} {Pre : Pt → Array Value → Prop} {Post : Pt → Array Value → Option Value → Pt → Prop} {PostX : Pt → Array Value → Addr → Pt → Prop} (hK : vx_Back l R p e below s args y 3 W9 Pre Post PostX)
    {g : JFrame} (hg : g.method = m) (hsize : g.locals.size = c.maxLocals) {argsL rest : List Value} (hlen : ∀ sig, parseMethodDescriptor y.desc = some sig → argsL.length = sig.parameters.length)
    (hstack : g.stack = argsL.reverse ++ rest) (hW : 2 * g.monitorRoom + (rest.map fun v => v.category).sum ≤ W9) (hdg : decode c.code g.pc = .ok (.invokestatic index, 3))
    (hpre : ∀ vm₁, s.WarmedH vm₁ → Pre ⟨T.setVm vm₁, locs, cells, slots⟩ argsL.toArray) :
    (∃ (v : Option Value) (vm₁ : Vm) (B : Pt), s.WarmedH vm₁ ∧ Stand p l e R s m args below meth c B.U B.locs B.cells B.slots ∧ Post ⟨T.setVm vm₁, locs, cells, slots⟩ argsL.toArray v B ∧
      ∀ target, Steps p.tables e below (B.U.setTop { g with pc := g.pc + 3, stack := v.toList ++ rest }) target → Steps p.tables e below (T.setTop g) target) ∨
    (∃ (q : Addr) (vm₁ : Vm) (B : Pt), s.WarmedH vm₁ ∧ Stand p l e R s m args below meth c B.U B.locs B.cells B.slots ∧ PostX ⟨T.setVm vm₁, locs, cells, slots⟩ argsL.toArray q B ∧
      Steps p.tables e below (T.setTop g) ((B.U.setTop { g with stack := rest }).pushFrame (.throwing q))) := by
  obtain ⟨mk, methM, cM, hnamed, hmethM, -, -, -, -, -, -, hsigM⟩ := Cond.codeWith_spec hcode
  have hstatic : methM.isStatic = true := Cond.static_spec hnamed hmethM hstat
  obtain ⟨kP, hkP, -⟩ := className_of_methodNamed hnamed
  have hinitP : kP.init = .initialized := Cond.initialized_spec (findClass_of_methodNamed hnamed) hkP hinit
  obtain ⟨vm₁, X₁, hstep₁⟩ := X.invokestatic hexec hown hlink hnamed hmethM hstatic hkP hinitP hy (g := g) hg (argsL := argsL) (rest := rest) (hlen _ hsigM) hstack hdg
  rcases hK m meth c ⟨T.setVm vm₁, locs, cells, slots⟩ { g with stack := rest } (.invokestatic index) mk argsL.toArray X₁ hg hsize hdg hW (X₁.named hnamed) (hpre vm₁ X₁.warmed) with ⟨v, B, X', hpost, hsteps⟩ | ⟨q, B, X', hpost, hsteps⟩
  · exact Or.inl ⟨v, vm₁, B, X₁.warmed, X', hpost, fun target h => hstep₁ _ fun acts => by rw [doInvoke_state]; exact hsteps.trans h⟩
  · exact Or.inr ⟨q, vm₁, B, X₁.warmed, X', hpost, hstep₁ _ fun acts => by rw [doInvoke_state]; exact hsteps⟩
theorem vx_callVW (X : Stand p l e R s m args below meth c T locs cells slots) (hexec : p.tables.exec = Jvm.exec) {own C : String} {index : Nat} {y : MethodName} {bytes : ByteArray} {maxL : Nat} {ret : Option FieldType} {hh : List (Nat × Nat × Nat × Nat)}
    (hown : s.vm.findClass own = some m.cls) (hlink : (Cond.methodLink own index y).before args s = true) (hinst : (Cond.instanceMethod y).before args s = true) (hsel : (Cond.selects C y y).before args s = true)
    (hcode : (Cond.codeWith y bytes maxL ret hh).before args s = true) (hy : y.cls ≠ "java/lang/invoke/MethodHandle" ∧ y.cls ≠ "java/lang/invoke/VarHandle")
    {W9 : Nat} {Pre : Pt → Array Value → Prop} {Post : Pt → Array Value → Option Value → Pt → Prop} (hK : Back l R p e below s args y 3 W9 Pre Post)
    {b : Addr} {cellB : Cell} (hcell : T.heap[b]? = some cellB) (hobj : cellB.vm.isStatics = false) (hcls : s.vm.findClass C = some cellB.cls)
    {g : JFrame} (hg : g.method = m) (hsize : g.locals.size = c.maxLocals) {argsL rest : List Value} (hlen : ∀ sig, parseMethodDescriptor y.desc = some sig → argsL.length = sig.parameters.length)
    (hstack : g.stack = argsL.reverse ++ .ref b :: rest) (hW : 2 * g.monitorRoom + (rest.map fun v => v.category).sum ≤ W9) (hdg : decode c.code g.pc = .ok (.invokevirtual index, 3))
    (hpre : ∀ vm₁, s.WarmedH vm₁ → Pre ⟨T.setVm vm₁, locs, cells, slots⟩ (Value.ref b :: argsL).toArray) :
    ∃ (v : Option Value) (vm₁ : Vm) (B : Pt), s.WarmedH vm₁ ∧ Stand p l e R s m args below meth c B.U B.locs B.cells B.slots ∧ Post ⟨T.setVm vm₁, locs, cells, slots⟩ (Value.ref b :: argsL).toArray v B ∧
      ∀ target, Steps p.tables e below (B.U.setTop { g with pc := g.pc + 3, stack := v.toList ++ rest }) target → Steps p.tables e below (T.setTop g) target := by
  obtain ⟨mk, methM, hnamed, hmethM, hstM, habM⟩ := Cond.instanceMethod_spec hinst
  obtain ⟨m8, methM', cM, hn8, hmethM', -, -, -, -, -, -, hsigM⟩ := Cond.codeWith_spec hcode
  cases Option.some.inj (hn8.symm.trans hnamed)
  cases hmethM.symm.trans hmethM'
  obtain ⟨c2, r2, m2, q1, q2, q3, q4, kP, hkP, hkPi⟩ := Cond.selects_spec hsel
  cases hcls.symm.trans q1
  cases (State.methodFound?_of_named hnamed hy).symm.trans q2
  cases hnamed.symm.trans q3
  have hselP : selectMethod e.platform s.vm cellB.cls mk = .method mk := by rw [Launch.admits_selectMethod X.admits]; exact q4
  obtain ⟨vm₁, X₁, hstep₁⟩ := X.invokevirtual hexec hown hlink hnamed hmethM hstM hkP hkPi hy (a := b) (cell := cellB) hcell
    (fun z h => by rw [h] at hobj; cases hobj) hselP hmethM habM hkP hkPi (g := g) hg (argsL := argsL) (rest := rest) (hlen _ hsigM) hstack hdg
  obtain ⟨v, B, X', hpost, hsteps⟩ := hK m meth c ⟨T.setVm vm₁, locs, cells, slots⟩ { g with stack := rest } (.invokevirtual index) mk (Value.ref b :: argsL).toArray X₁ hg hsize hdg hW (X₁.named hnamed) (hpre vm₁ X₁.warmed)
  exact ⟨v, vm₁, B, X₁.warmed, X', hpost, fun target h => hstep₁ _ fun acts => by rw [doInvoke_state]; exact hsteps.trans h⟩
abbrev vx_CVW (R : Room) (s : State) (args : Array Value) (own C : String) (index : Nat) (y : MethodName) (bytes : ByteArray) (maxL : Nat) (ret : Option FieldType) (hh : List (Nat × Nat × Nat × Nat)) (ws : List Cond) (rm : Room) (mc ms n : Nat) : Prop :=
  (rm.cells = mc ∧ rm.slots = ms ∧ rm.frames + 1 ≤ R.frames ∧ 8 + (maxL + 11) + rm.locals ≤ R.locals ∧ (∀ w ∈ ws, ∀ (a' : Array Value) (U : State), s.WarmedH U.vm → w.before a' U = true) ∧ Cond.codeWith y bytes maxL ret hh ∈ ws) ∧
  (Cond.codeWith y bytes maxL ret hh).before args s = true ∧ (Cond.initialized y.cls).before args s = true ∧ (y.cls ≠ "java/lang/invoke/MethodHandle" ∧ y.cls ≠ "java/lang/invoke/VarHandle") ∧
  (∀ sig, parseMethodDescriptor y.desc = some sig → n = sig.parameters.length) ∧ (Cond.methodLink own index y).before args s = true ∧ (Cond.instanceMethod y).before args s = true ∧ (Cond.selects C y y).before args s = true
theorem vx_cwVW {own C : String} {index maxL mc ms : Nat} {y : MethodName} {bytes : ByteArray} {ret : Option FieldType} {hh : List (Nat × Nat × Nat × Nat)} {Ts ws ws' : List Cond} {rm : Room} (n : Nat) (ht : ∀ w ∈ Ts, w.before args s = true) (hT : GoodIn Ts (wsV own index C y ws)) (hw : ws = Cond.codeWith y bytes maxL ret hh :: ws') (hrc : rm.cells = mc) (hrs : rm.slots = ms)
    (hd : y.cls = C ∧ y.cls ≠ "java/lang/invoke/MethodHandle" ∧ y.cls ≠ "java/lang/invoke/VarHandle" ∧ (parseMethodDescriptor y.desc).map (fun d => d.parameters.length) = some n) (hR : rm.frames + 1 ≤ R.frames ∧ 8 + (maxL + 11) + rm.locals ≤ R.locals) :
    vx_CVW R s args own C index y bytes maxL ret hh ws rm mc ms n := by
  obtain ⟨hC, hd⟩ := hd
  subst hC
  have ok : ∀ w ∈ wsV own index y.cls y ws, w.before args s = true := fun w h => ht w (hT w h).1
  have hG : GoodIn Ts ws := fun w h => hT w (by unfold wsV; exact List.mem_append_right _ h)
  have hc : Cond.codeWith y bytes maxL ret hh ∈ ws := by rw [hw]; exact List.mem_cons_self
  refine ⟨⟨hrc, hrs, hR.1, hR.2, pay_in ht hG, hc⟩, ht _ (hG _ hc).1, ok _ (by simp [wsV]), ⟨hd.1, hd.2.1⟩, fun sig h => ?_, ok _ (by simp [wsV]), ok _ (by simp [wsV]), ok _ (by simp [wsV])⟩
  have h2 := hd.2.2
  rw [h] at h2
  exact (Option.some.inj h2).symm
theorem vx_runVW {y : MethodName} {bytes cc : ByteArray} {maxL nL mc ms n index : Nat} {ret : Option FieldType} {hh : List (Nat × Nat × Nat × Nat)} {ws : List Cond} {rm : Room} {Pc : Array Value → State → Prop} {Qc : Array Value → State → Outcome → State → Prop} {free : Addr → Prop} {Ts : List Cond} {own C : String} {b : Addr} {As rest : List Value} {g : JFrame}
    (S : CallFix p m c cc nL s args Ts own) (hM : Met l y ws rm Pc Qc mc ms free) (cw : vx_CVW R s args own C index y bytes maxL ret hh ws rm mc ms n) (hp : PreV s H C b Pc As)
    (hg : g.method = m) (hn : As.length = n) (hsize : g.locals.size = nL) (hstack : g.stack = As.reverse ++ .ref b :: rest) (hW : 2 * g.monitorRoom + (rest.map fun v => v.category).sum ≤ 8) (hdg : decode cc g.pc = .ok (.invokevirtual index, 3)) (hf : cells + mc ≤ R.cells ∧ slots + ms ≤ R.slots) :
    va_Run p l e R s m args below meth c H locs cells slots mc ms g rest (Qc (Value.ref b :: As).toArray) free := by
  obtain ⟨⟨hrc, hrs, hfr, hlo, hws, hcw⟩, hcode, hini, hy, hlen, hl, hin, hse⟩ := cw
  have hK : Back l R p e below s args y 3 8 (PreOf R mc ms Pc) (PostOf Qc mc ms free) := va_backW (hh := hh) (bytes := bytes) (maxL := maxL) (ret := ret) hM hp.1 hrc hrs hfr hlo hws hcw (fun a' U hW => word_at hW (Or.inl (by first | rfl | simp [Cond.onTables, Cond.keeps, Cond.steady])) hini)
  obtain ⟨hx, hb, hml, ho, -⟩ := S
  obtain ⟨-, ⟨cellB, hcB, hoB, hclB⟩, hPc⟩ := hp
  intro T hT X
  obtain ⟨v, vm₁, ⟨U', l2, c2, s2⟩, hW₁, X', ⟨g', mk, t, L, e1, e2, hq, h1, hL, h2, h3⟩, st⟩ := vx_callVW X hx (C := C) (hh := hh) (bytes := bytes) (maxL := maxL) (ret := ret) ho hl hin hse hcode hy hK (by rw [hT]; exact hcB) hoB hclB hg (hsize.trans hml.symm) (argsL := As) (rest := rest) (fun sig h => hn.trans (hlen sig h)) hstack hW (by rw [hb]; exact hdg)
    (fun vm₁ hW₁ => ⟨hf.1, hf.2, hPc (T.setVm vm₁) hT hW₁⟩)
  dsimp only [Pt.U, Pt.locs, Pt.cells, Pt.slots] at X' e1 e2 h1 h2 h3 st
  subst h1; subst h2; subst h3
  exact ⟨v, (T.setVm vm₁).calling g' mk (Value.ref b :: As).toArray, t, U', L, hT, X', hL, e1, e2, hq, st⟩
section
variable {y : MethodName} {bytes cc : ByteArray} {maxL nL mc ms n index : Nat} {ret : Option FieldType} {ws : List Cond} {rm : Room} {Pc : Array Value → State → Prop} {Qc : Array Value → State → Outcome → State → Prop} {XC : String → State → State → Prop} {free : Addr → Prop} {Ts : List Cond} {own C : String} {b : Addr} {As rest : List Value} {g : JFrame}
theorem vx_runVX {hh : List (Nat × Nat × Nat × Nat)} (S : CallFix p m c cc nL s args Ts own) (hM : vx_Met l y ws rm Pc Qc XC mc ms free) (cw : vx_CVW R s args own C index y bytes maxL ret hh ws rm mc ms n) (hp : PreV s H C b Pc As)
    (hg : g.method = m) (hn : As.length = n) (hsize : g.locals.size = nL) (hstack : g.stack = As.reverse ++ .ref b :: rest) (hW : 2 * g.monitorRoom + (rest.map fun v => v.category).sum ≤ 8) (hdg : decode cc g.pc = .ok (.invokevirtual index, 3)) (hf : cells + mc ≤ R.cells ∧ slots + ms ≤ R.slots) :
    vx_Run p l e R s m args below meth c H locs cells slots mc ms g rest (Qc (Value.ref b :: As).toArray) XC free := by
  obtain ⟨⟨hrc, hrs, hfr, hlo, hws, hcw⟩, hcode, hini, hy, hlen, hl, hin, hse⟩ := cw
  have hK : vx_Back l R p e below s args y 3 8 (PreOf R mc ms Pc) (PostOf Qc mc ms free) (vx_Post XC mc ms free) := vx_backW (hh := hh) (bytes := bytes) (maxL := maxL) (ret := ret) hM hp.1 hrc hrs hfr hlo hws hcw (fun a' U hW => word_at hW (Or.inl (by first | rfl | simp [Cond.onTables, Cond.keeps, Cond.steady])) hini)
  obtain ⟨hx, hb, hml, ho, -⟩ := S
  obtain ⟨-, ⟨cellB, hcB, hoB, hclB⟩, hPc⟩ := hp
  intro T hT X
  rcases vx_callVX X hx (C := C) (hh := hh) (bytes := bytes) (maxL := maxL) (ret := ret) ho hl hin hse hcode hy hK (by rw [hT]; exact hcB) hoB hclB hg (hsize.trans hml.symm) (argsL := As) (rest := rest) (fun sig h => hn.trans (hlen sig h)) hstack hW (by rw [hb]; exact hdg)
    (fun vm₁ hW₁ => ⟨hf.1, hf.2, hPc (T.setVm vm₁) hT hW₁⟩) with ⟨v, vm₁, ⟨U', l2, c2, s2⟩, hW₁, X', ⟨g', mk, t, L, e1, e2, hq, h1, hL, h2, h3⟩, st⟩ | ⟨q, vm₁, ⟨U', l2, c2, s2⟩, hW₁, X', ⟨g', mk, t, L, E, ce, e1, e2, hq, hce, hcv, hcl, h1, hL, h2, h3⟩, st⟩
  · dsimp only [Pt.U, Pt.locs, Pt.cells, Pt.slots] at X' e1 e2 h1 h2 h3 st
    subst h1; subst h2; subst h3
    exact Or.inl ⟨v, (T.setVm vm₁).calling g' mk (Value.ref b :: As).toArray, t, U', L, hT, X', hL, e1, e2, hq, st⟩
  · dsimp only [Pt.U, Pt.locs, Pt.cells, Pt.slots] at X' e1 e2 h1 h2 h3 st hcl
    subst h1; subst h2; subst h3
    exact Or.inr ⟨q, (T.setVm vm₁).calling g' mk (Value.ref b :: As).toArray, t, U', L, E, ce, hT, X', hL, e1, e2, hq, hce, hcv, vx_cls hW₁ hcl, st⟩
theorem vx_runSX {hh : List (Nat × Nat × Nat × Nat)} (S : CallFix p m c cc nL s args Ts own) (hM : vx_Met l y ws rm Pc Qc XC mc ms free) (cw : vx_CSW R s args own index y bytes maxL ret hh ws rm mc ms n) (hp : PreS s H Pc As)
    (hg : g.method = m) (hn : As.length = n) (hsize : g.locals.size = nL) (hstack : g.stack = As.reverse ++ rest) (hW : 2 * g.monitorRoom + (rest.map fun v => v.category).sum ≤ 8) (hdg : decode cc g.pc = .ok (.invokestatic index, 3)) (hf : cells + mc ≤ R.cells ∧ slots + ms ≤ R.slots) :
    vx_Run p l e R s m args below meth c H locs cells slots mc ms g rest (Qc As.toArray) XC free := by
  obtain ⟨⟨hrc, hrs, hfr, hlo, hws, hcw⟩, hcode, hini, hy, hlen, hl, hstt⟩ := cw
  have hK : vx_Back l R p e below s args y 3 8 (PreOf R mc ms Pc) (PostOf Qc mc ms free) (vx_Post XC mc ms free) := vx_backW (hh := hh) (bytes := bytes) (maxL := maxL) (ret := ret) hM hp.1 hrc hrs hfr hlo hws hcw (fun a' U hW => word_at hW (Or.inl (by first | rfl | simp [Cond.onTables, Cond.keeps, Cond.steady])) hini)
  obtain ⟨hx, hb, hml, ho, -⟩ := S
  intro T hT X
  rcases vx_callSX X hx (hh := hh) (bytes := bytes) (maxL := maxL) (ret := ret) ho hl hstt hini hcode hy hK hg (hsize.trans hml.symm) (argsL := As) (rest := rest) (fun sig h => hn.trans (hlen sig h)) hstack hW (by rw [hb]; exact hdg)
    (fun vm₁ hW₁ => ⟨hf.1, hf.2, hp.2 (T.setVm vm₁) hT hW₁⟩) with ⟨v, vm₁, ⟨U', l2, c2, s2⟩, hW₁, X', ⟨g', mk, t, L, e1, e2, hq, h1, hL, h2, h3⟩, st⟩ | ⟨q, vm₁, ⟨U', l2, c2, s2⟩, hW₁, X', ⟨g', mk, t, L, E, ce, e1, e2, hq, hce, hcv, hcl, h1, hL, h2, h3⟩, st⟩
  · dsimp only [Pt.U, Pt.locs, Pt.cells, Pt.slots] at X' e1 e2 h1 h2 h3 st
    subst h1; subst h2; subst h3
    exact Or.inl ⟨v, (T.setVm vm₁).calling g' mk As.toArray, t, U', L, hT, X', hL, e1, e2, hq, st⟩
  · dsimp only [Pt.U, Pt.locs, Pt.cells, Pt.slots] at X' e1 e2 h1 h2 h3 st hcl
    subst h1; subst h2; subst h3
    exact Or.inr ⟨q, (T.setVm vm₁).calling g' mk As.toArray, t, U', L, E, ce, hT, X', hL, e1, e2, hq, hce, hcv, vx_cls hW₁ hcl, st⟩
end
end VXH
theorem vx_ofWH {l : Launch} {y : MethodName} {ws ws' : List Cond} {rm : Room} {Pc : Array Value → State → Prop} {Qc : Array Value → State → Outcome → State → Prop} {XC : String → State → State → Prop} {mc ms : Nat} {free : Addr → Prop} {cc : ByteArray} {maxL : Nat} {ret : Option FieldType} {hh : List (Nat × Nat × Nat × Nat)}
    (hy : plainName y.cls = true) (hw : ws = Cond.codeWith y cc maxL ret hh :: ws')
    (body : ∀ p e s m args below meth c s₁, BodyLoose p l y (headSpec ws rm) cc maxL ret e s m args below meth c s₁ → c.maxLocals = maxL → Pc args s →
      W p l e (headSpec ws rm).room s m args below meth c s.heap [] 0 0 (vx_MQ below Qc XC args s mc ms free) (entryFrame m args maxL)) : vx_Met l y ws rm Pc Qc XC mc ms free := by
  refine MetFree.of_bodyS (code := cc) (maxLocals := maxL) (ret := ret) hy ?_ ?_
  · intro args s m h hn
    obtain ⟨m9, meth, c, hn9, h1, h2, h3, h4, -, h5, h6, -⟩ := Cond.codeWith_spec (atoms_spec (ws := ws) h _ (by rw [hw]; exact List.mem_cons_self))
    cases hn.symm.trans hn9
    exact ⟨meth, c, h1, h2, h3, h4, h5, h6⟩
  · intro p e s m args below meth c s₁ B hml hP _
    have hh0 : s₁.heap = s.heap := by rw [B.state]; rfl
    obtain ⟨t, a1, o, b1, b2, b3⟩ := body p e s m args below meth c s₁ B hml hP s₁ hh0 (Stand.of_body B)
    exact ⟨t, o, a1, b1, b2, b3⟩
/-! ===== END ===== -/

/-! ===== BEGIN printed: names, fields, word lists, decode rows ===== -/
end
section
def RX0 : String := "SandcastleLeague$Shore"
def TX0 : u_T := fun k => match k with
  | 0 => ("SandcastleLeague$Shore", "sand", "[I", true)
  | 1 => ("SandcastleLeague$Shore", "firmness", "[I", true)
  | 2 => ("SandcastleLeague$Shore", "water", "[I", true)
  | 3 => ("SandcastleLeague$Shore", "owner", "[I", true)
  | 4 => ("SandcastleLeague$Shore", "plantedHeight", "[I", true)
  | 5 => ("SandcastleLeague$Shore", "points", "[I", true)
  | 6 => ("SandcastleLeague$Shore", "lostSand", "I", false)
  | 7 => ("SandcastleLeague$Shore", "slides", "I", false)
  | _ => ("SandcastleLeague$Shore", "fallenSticks", "I", false)
def tyX0 : Nat → FieldType := fun k => match k with
  | 0 => .array .int
  | 1 => .array .int
  | 2 => .array .int
  | 3 => .array .int
  | 4 => .array .int
  | 5 => .array .int
  | 6 => .int
  | 7 => .int
  | _ => .int
abbrev wsX00 : List Cond := u_ws RX0 TX0 9
theorem nmX0 : ∀ a, a < 9 → ∀ b, b < 9 → a ≠ b → (TX0 a).2.1 ≠ (TX0 b).2.1 := by decide +kernel
theorem tyX0_ok : ∀ k, k < 9 → parseFieldDescriptor (TX0 k).2.2.1 = some (tyX0 k) := by decide +kernel
abbrev cX0_init : ByteArray := prog_2_method_1_code
def yX0_init : MethodName := ⟨RX0, "<init>", "()V"⟩
abbrev cX0_begin : ByteArray := prog_2_method_2_code
def yX0_begin : MethodName := ⟨RX0, "begin", "()V"⟩
abbrev cX0_clearSticks : ByteArray := prog_2_method_3_code
def yX0_clearSticks : MethodName := ⟨RX0, "clearSticks", "()V"⟩
abbrev cX0_become : ByteArray := prog_2_method_4_code
def yX0_become : MethodName := ⟨RX0, "become", "(LSandcastleLeague$Shore;)V"⟩
abbrev cX0_takeSand : ByteArray := prog_2_method_5_code
def yX0_takeSand : MethodName := ⟨RX0, "takeSand", "(II)I"⟩
abbrev cX0_putSand : ByteArray := prog_2_method_6_code
def yX0_putSand : MethodName := ⟨RX0, "putSand", "(II)I"⟩
abbrev cX0_harden : ByteArray := prog_2_method_7_code
def yX0_harden : MethodName := ⟨RX0, "harden", "(I)I"⟩
abbrev cX0_putStick : ByteArray := prog_2_method_8_code
def yX0_putStick : MethodName := ⟨RX0, "putStick", "(II)V"⟩
abbrev cX0_letHourGoBy : ByteArray := prog_2_method_9_code
def yX0_letHourGoBy : MethodName := ⟨RX0, "letHourGoBy", "(I)V"⟩
abbrev cX0_findWater : ByteArray := prog_2_method_10_code
def yX0_findWater : MethodName := ⟨RX0, "findWater", "(I)V"⟩
abbrev cX0_sweepWater : ByteArray := prog_2_method_11_code
def yX0_sweepWater : MethodName := ⟨RX0, "sweepWater", "(I)Z"⟩
abbrev cX0_isOpenToSea : ByteArray := prog_2_method_12_code
def yX0_isOpenToSea : MethodName := ⟨RX0, "isOpenToSea", "(I)Z"⟩
abbrev cX0_washSandAway : ByteArray := prog_2_method_13_code
def yX0_washSandAway : MethodName := ⟨RX0, "washSandAway", "(I)V"⟩
abbrev cX0_letSandSlide : ByteArray := prog_2_method_14_code
def yX0_letSandSlide : MethodName := ⟨RX0, "letSandSlide", "()I"⟩
abbrev cX0_slideOnce : ByteArray := prog_2_method_15_code
def yX0_slideOnce : MethodName := ⟨RX0, "slideOnce", "()I"⟩
abbrev cX0_slidesTo : ByteArray := prog_2_method_16_code
def yX0_slidesTo : MethodName := ⟨RX0, "slidesTo", "(II)Z"⟩
abbrev cX0_lowestBeside : ByteArray := prog_2_method_17_code
def yX0_lowestBeside : MethodName := ⟨RX0, "lowestBeside", "(I)I"⟩
abbrev cX0_beside : ByteArray := prog_2_method_18_code
def yX0_beside : MethodName := ⟨RX0, "beside", "(II)I"⟩
abbrev cX0_judgeSticks : ByteArray := prog_2_method_19_code
def yX0_judgeSticks : MethodName := ⟨RX0, "judgeSticks", "()V"⟩
abbrev cX0_soften : ByteArray := prog_2_method_20_code
def yX0_soften : MethodName := ⟨RX0, "soften", "(I)V"⟩
abbrev cX0_height : ByteArray := prog_2_method_21_code
def yX0_height : MethodName := ⟨RX0, "height", "(I)I"⟩
abbrev cX0_isWet : ByteArray := prog_2_method_22_code
def yX0_isWet : MethodName := ⟨RX0, "isWet", "(I)Z"⟩
abbrev cX0_hasStick : ByteArray := prog_2_method_23_code
def yX0_hasStick : MethodName := ⟨RX0, "hasStick", "(I)Z"⟩
abbrev cX0_isFree : ByteArray := prog_2_method_24_code
def yX0_isFree : MethodName := ⟨RX0, "isFree", "(I)Z"⟩
abbrev cX0_tellCell : ByteArray := prog_2_method_25_code
def yX0_tellCell : MethodName := ⟨RX0, "tellCell", "(II)I"⟩
abbrev cX0_pointsOf : ByteArray := prog_2_method_26_code
def yX0_pointsOf : MethodName := ⟨RX0, "pointsOf", "(I)I"⟩
abbrev cX0_sticksOf : ByteArray := prog_2_method_27_code
def yX0_sticksOf : MethodName := ⟨RX0, "sticksOf", "(I)I"⟩
abbrev cX0_sandOfArea : ByteArray := prog_2_method_28_code
def yX0_sandOfArea : MethodName := ⟨RX0, "sandOfArea", "(I)I"⟩
abbrev cX0_waterOfArea : ByteArray := prog_2_method_29_code
def yX0_waterOfArea : MethodName := ⟨RX0, "waterOfArea", "(I)I"⟩
abbrev cX0_greatestHeightOfArea : ByteArray := prog_2_method_30_code
def yX0_greatestHeightOfArea : MethodName := ⟨RX0, "greatestHeightOfArea", "(I)I"⟩
abbrev cX0_allSand : ByteArray := prog_2_method_31_code
def yX0_allSand : MethodName := ⟨RX0, "allSand", "()I"⟩
abbrev cX0_allWater : ByteArray := prog_2_method_32_code
def yX0_allWater : MethodName := ⟨RX0, "allWater", "()I"⟩
abbrev cX0_allHeights : ByteArray := prog_2_method_33_code
def yX0_allHeights : MethodName := ⟨RX0, "allHeights", "()I"⟩
abbrev cX0_allSticks : ByteArray := prog_2_method_34_code
def yX0_allSticks : MethodName := ⟨RX0, "allSticks", "()I"⟩
abbrev cX0_sum : ByteArray := prog_2_method_35_code
def yX0_sum : MethodName := ⟨RX0, "sum", "([I)I"⟩
abbrev cX0_sumOfArea : ByteArray := prog_2_method_36_code
def yX0_sumOfArea : MethodName := ⟨RX0, "sumOfArea", "([II)I"⟩
def RX1 : String := "SandcastleLeague"
def TX1 : u_T := fun k => match k with
  | 0 => ("SandcastleLeague", "shore", "LSandcastleLeague$Shore;", true)
  | 1 => ("SandcastleLeague", "trial", "LSandcastleLeague$Shore;", true)
  | 2 => ("SandcastleLeague", "tides", "[I", true)
  | 3 => ("SandcastleLeague", "bucket", "[I", true)
  | 4 => ("SandcastleLeague", "strength", "[I", true)
  | 5 => ("SandcastleLeague", "leaguePoints", "[I", true)
  | 6 => ("SandcastleLeague", "teams", "I", false)
  | 7 => ("SandcastleLeague", "hour", "I", false)
  | _ => ("SandcastleLeague", "endedRounds", "I", false)
def tyX1 : Nat → FieldType := fun k => match k with
  | 0 => .object "SandcastleLeague$Shore"
  | 1 => .object "SandcastleLeague$Shore"
  | 2 => .array .int
  | 3 => .array .int
  | 4 => .array .int
  | 5 => .array .int
  | 6 => .int
  | 7 => .int
  | _ => .int
abbrev wsX10 : List Cond := u_ws RX1 TX1 9
theorem nmX1 : ∀ a, a < 9 → ∀ b, b < 9 → a ≠ b → (TX1 a).2.1 ≠ (TX1 b).2.1 := by decide +kernel
theorem tyX1_ok : ∀ k, k < 9 → parseFieldDescriptor (TX1 k).2.2.1 = some (tyX1 k) := by decide +kernel
abbrev cX1_init : ByteArray := prog_1_method_1_code
def yX1_init : MethodName := ⟨RX1, "<init>", "()V"⟩
abbrev cX1_addTeam : ByteArray := prog_1_method_2_code
def yX1_addTeam : MethodName := ⟨RX1, "addTeam", "()I"⟩
abbrev cX1_setTide : ByteArray := prog_1_method_3_code
def yX1_setTide : MethodName := ⟨RX1, "setTide", "(II)I"⟩
abbrev cX1_dig : ByteArray := prog_1_method_4_code
def yX1_dig : MethodName := ⟨RX1, "dig", "(IIII)I"⟩
abbrev cX1_pile : ByteArray := prog_1_method_5_code
def yX1_pile : MethodName := ⟨RX1, "pile", "(IIII)I"⟩
abbrev cX1_pack : ByteArray := prog_1_method_6_code
def yX1_pack : MethodName := ⟨RX1, "pack", "(III)I"⟩
abbrev cX1_plant : ByteArray := prog_1_method_7_code
def yX1_plant : MethodName := ⟨RX1, "plant", "(III)I"⟩
abbrev cX1_cell : ByteArray := prog_1_method_8_code
def yX1_cell : MethodName := ⟨RX1, "cell", "(III)I"⟩
abbrev cX1_team : ByteArray := prog_1_method_9_code
def yX1_team : MethodName := ⟨RX1, "team", "(II)I"⟩
abbrev cX1_count : ByteArray := prog_1_method_10_code
def yX1_count : MethodName := ⟨RX1, "count", "(I)I"⟩
abbrev cX1_pass : ByteArray := prog_1_method_11_code
def yX1_pass : MethodName := ⟨RX1, "pass", "(I)I"⟩
abbrev cX1_endRound : ByteArray := prog_1_method_12_code
def yX1_endRound : MethodName := ⟨RX1, "endRound", "()I"⟩
abbrev cX1_leader : ByteArray := prog_1_method_13_code
def yX1_leader : MethodName := ⟨RX1, "leader", "(I)I"⟩
abbrev cX1_flood : ByteArray := prog_1_method_14_code
def yX1_flood : MethodName := ⟨RX1, "flood", "(I)I"⟩
abbrev cX1_reach : ByteArray := prog_1_method_15_code
def yX1_reach : MethodName := ⟨RX1, "reach", "(II)I"⟩
abbrev cX1_foresee : ByteArray := prog_1_method_16_code
def yX1_foresee : MethodName := ⟨RX1, "foresee", "(III)I"⟩
abbrev cX1_advise : ByteArray := prog_1_method_17_code
def yX1_advise : MethodName := ⟨RX1, "advise", "(II)I"⟩
abbrev cX1_mean : ByteArray := prog_1_method_18_code
def yX1_mean : MethodName := ⟨RX1, "mean", "()D"⟩
abbrev cX1_digest : ByteArray := prog_1_method_19_code
def yX1_digest : MethodName := ⟨RX1, "digest", "()J"⟩
abbrev cX1_beginRound : ByteArray := prog_1_method_20_code
def yX1_beginRound : MethodName := ⟨RX1, "beginRound", "()V"⟩
abbrev cX1_letHoursGoBy : ByteArray := prog_1_method_21_code
def yX1_letHoursGoBy : MethodName := ⟨RX1, "letHoursGoBy", "(LSandcastleLeague$Shore;I)V"⟩
abbrev cX1_teamsWithFewerPoints : ByteArray := prog_1_method_22_code
def yX1_teamsWithFewerPoints : MethodName := ⟨RX1, "teamsWithFewerPoints", "(I)I"⟩
abbrev cX1_teamsAheadOf : ByteArray := prog_1_method_23_code
def yX1_teamsAheadOf : MethodName := ⟨RX1, "teamsAheadOf", "(I)I"⟩
abbrev cX1_isAhead : ByteArray := prog_1_method_24_code
def yX1_isAhead : MethodName := ⟨RX1, "isAhead", "(II)Z"⟩
abbrev cX1_isOnBeach : ByteArray := prog_1_method_25_code
def yX1_isOnBeach : MethodName := ⟨RX1, "isOnBeach", "(II)Z"⟩
abbrev cX1_cellAt : ByteArray := prog_1_method_26_code
def yX1_cellAt : MethodName := ⟨RX1, "cellAt", "(II)I"⟩
abbrev cX1_isInArea : ByteArray := prog_1_method_27_code
def yX1_isInArea : MethodName := ⟨RX1, "isInArea", "(II)Z"⟩
abbrev cX1_requireTeam : ByteArray := prog_1_method_28_code
def yX1_requireTeam : MethodName := ⟨RX1, "requireTeam", "(I)V"⟩
abbrev cX1_requireCell : ByteArray := prog_1_method_29_code
def yX1_requireCell : MethodName := ⟨RX1, "requireCell", "(II)V"⟩
abbrev cX1_requireWhat : ByteArray := prog_1_method_30_code
def yX1_requireWhat : MethodName := ⟨RX1, "requireWhat", "(II)V"⟩
abbrev cX1_requireArea : ByteArray := prog_1_method_31_code
def yX1_requireArea : MethodName := ⟨RX1, "requireArea", "(III)V"⟩
abbrev cX1_requireAmount : ByteArray := prog_1_method_32_code
def yX1_requireAmount : MethodName := ⟨RX1, "requireAmount", "(I)V"⟩
abbrev cX1_requireLevel : ByteArray := prog_1_method_33_code
def yX1_requireLevel : MethodName := ⟨RX1, "requireLevel", "(I)V"⟩
abbrev cX1_requireHours : ByteArray := prog_1_method_34_code
def yX1_requireHours : MethodName := ⟨RX1, "requireHours", "(II)V"⟩
abbrev cX1_requireStrength : ByteArray := prog_1_method_35_code
def yX1_requireStrength : MethodName := ⟨RX1, "requireStrength", "(I)V"⟩
def RX2 : String := "SandcastleLeagueModel"
def TX2 : u_T := fun k => match k with
  | 0 => ("SandcastleLeagueModel", "thrown", "I", false)
  | 1 => ("SandcastleLeagueModel", "hour", "I", false)
  | 2 => ("SandcastleLeagueModel", "teams", "I", false)
  | 3 => ("SandcastleLeagueModel", "ended", "I", false)
  | 4 => ("SandcastleLeagueModel", "lost", "I", false)
  | 5 => ("SandcastleLeagueModel", "slides", "I", false)
  | 6 => ("SandcastleLeagueModel", "fallen", "I", false)
  | 7 => ("SandcastleLeagueModel", "sand", "[I", false)
  | 8 => ("SandcastleLeagueModel", "firm", "[I", false)
  | 9 => ("SandcastleLeagueModel", "water", "[I", false)
  | 10 => ("SandcastleLeagueModel", "sticks", "[I", false)
  | 11 => ("SandcastleLeagueModel", "table", "[I", false)
  | 12 => ("SandcastleLeagueModel", "tides", "[I", true)
  | _ => ("SandcastleLeagueModel", "over", "[I", true)
def tyX2 : Nat → FieldType := fun k => match k with
  | 0 => .int
  | 1 => .int
  | 2 => .int
  | 3 => .int
  | 4 => .int
  | 5 => .int
  | 6 => .int
  | 7 => .array .int
  | 8 => .array .int
  | 9 => .array .int
  | 10 => .array .int
  | 11 => .array .int
  | 12 => .array .int
  | _ => .array .int
abbrev wsX20 : List Cond := u_ws RX2 TX2 14
theorem nmX2 : ∀ a, a < 14 → ∀ b, b < 14 → a ≠ b → (TX2 a).2.1 ≠ (TX2 b).2.1 := by decide +kernel
theorem tyX2_ok : ∀ k, k < 14 → parseFieldDescriptor (TX2 k).2.2.1 = some (tyX2 k) := by decide +kernel
abbrev cX2_init : ByteArray := prog_4_method_1_code
def yX2_init : MethodName := ⟨RX2, "<init>", "()V"⟩
abbrev cX2_fill : ByteArray := prog_4_method_2_code
def yX2_fill : MethodName := ⟨RX2, "fill", "([II)V"⟩
abbrev cX2_thrown : ByteArray := prog_4_method_3_code
def yX2_thrown : MethodName := ⟨RX2, "thrown", "()I"⟩
abbrev cX2_fail : ByteArray := prog_4_method_4_code
def yX2_fail : MethodName := ⟨RX2, "fail", "(I)I"⟩
abbrev cX2_isIn : ByteArray := prog_4_method_5_code
def yX2_isIn : MethodName := ⟨RX2, "isIn", "(III)Z"⟩
abbrev cX2_isTeam : ByteArray := prog_4_method_6_code
def yX2_isTeam : MethodName := ⟨RX2, "isTeam", "(I)Z"⟩
abbrev cX2_get : ByteArray := prog_4_method_7_code
def yX2_get : MethodName := ⟨RX2, "get", "(II)I"⟩
abbrev cX2_add : ByteArray := prog_4_method_8_code
def yX2_add : MethodName := ⟨RX2, "add", "(III)V"⟩
abbrev cX2_height : ByteArray := prog_4_method_9_code
def yX2_height : MethodName := ⟨RX2, "height", "(I)I"⟩
abbrev cX2_teamOf : ByteArray := prog_4_method_10_code
def yX2_teamOf : MethodName := ⟨RX2, "teamOf", "(I)I"⟩
abbrev cX2_beside : ByteArray := prog_4_method_11_code
def yX2_beside : MethodName := ⟨RX2, "beside", "(II)I"⟩
abbrev cX2_addTeam : ByteArray := prog_4_method_12_code
def yX2_addTeam : MethodName := ⟨RX2, "addTeam", "()I"⟩
abbrev cX2_setTide : ByteArray := prog_4_method_13_code
def yX2_setTide : MethodName := ⟨RX2, "setTide", "(II)I"⟩
abbrev cX2_deed : ByteArray := prog_4_method_14_code
def yX2_deed : MethodName := ⟨RX2, "deed", "(IIII)I"⟩
abbrev cX2_dig : ByteArray := prog_4_method_15_code
def yX2_dig : MethodName := ⟨RX2, "dig", "(IIII)I"⟩
abbrev cX2_pile : ByteArray := prog_4_method_16_code
def yX2_pile : MethodName := ⟨RX2, "pile", "(IIII)I"⟩
abbrev cX2_pack : ByteArray := prog_4_method_17_code
def yX2_pack : MethodName := ⟨RX2, "pack", "(III)I"⟩
abbrev cX2_sticksOf : ByteArray := prog_4_method_18_code
def yX2_sticksOf : MethodName := ⟨RX2, "sticksOf", "(I)I"⟩
abbrev cX2_plant : ByteArray := prog_4_method_19_code
def yX2_plant : MethodName := ⟨RX2, "plant", "(III)I"⟩
abbrev cX2_cellTold : ByteArray := prog_4_method_20_code
def yX2_cellTold : MethodName := ⟨RX2, "cellTold", "(II)I"⟩
abbrev cX2_cell : ByteArray := prog_4_method_21_code
def yX2_cell : MethodName := ⟨RX2, "cell", "(III)I"⟩
abbrev cX2_areaOf : ByteArray := prog_4_method_22_code
def yX2_areaOf : MethodName := ⟨RX2, "areaOf", "(II)I"⟩
abbrev cX2_teamTold : ByteArray := prog_4_method_23_code
def yX2_teamTold : MethodName := ⟨RX2, "teamTold", "(II)I"⟩
abbrev cX2_team : ByteArray := prog_4_method_24_code
def yX2_team : MethodName := ⟨RX2, "team", "(II)I"⟩
abbrev cX2_counted : ByteArray := prog_4_method_25_code
def yX2_counted : MethodName := ⟨RX2, "counted", "(I)I"⟩
abbrev cX2_count : ByteArray := prog_4_method_26_code
def yX2_count : MethodName := ⟨RX2, "count", "(I)I"⟩
abbrev cX2_findOver : ByteArray := prog_4_method_27_code
def yX2_findOver : MethodName := ⟨RX2, "findOver", "()V"⟩
abbrev cX2_slideAll : ByteArray := prog_4_method_28_code
def yX2_slideAll : MethodName := ⟨RX2, "slideAll", "()V"⟩
abbrev cX2_falls : ByteArray := prog_4_method_29_code
def yX2_falls : MethodName := ⟨RX2, "falls", "(II)Z"⟩
abbrev cX2_brings : ByteArray := prog_4_method_30_code
def yX2_brings : MethodName := ⟨RX2, "brings", "(I)I"⟩
abbrev cX2_hourOn : ByteArray := prog_4_method_31_code
def yX2_hourOn : MethodName := ⟨RX2, "hourOn", "()V"⟩
abbrev cX2_pass : ByteArray := prog_4_method_32_code
def yX2_pass : MethodName := ⟨RX2, "pass", "(I)I"⟩
abbrev cX2_endRound : ByteArray := prog_4_method_33_code
def yX2_endRound : MethodName := ⟨RX2, "endRound", "()I"⟩
abbrev cX2_isAhead : ByteArray := prog_4_method_34_code
def yX2_isAhead : MethodName := ⟨RX2, "isAhead", "(II)Z"⟩
abbrev cX2_leader : ByteArray := prog_4_method_35_code
def yX2_leader : MethodName := ⟨RX2, "leader", "(I)I"⟩
abbrev cX2_flood : ByteArray := prog_4_method_36_code
def yX2_flood : MethodName := ⟨RX2, "flood", "(I)I"⟩
abbrev cX2_reach : ByteArray := prog_4_method_37_code
def yX2_reach : MethodName := ⟨RX2, "reach", "(II)I"⟩
abbrev cX2_kept : ByteArray := prog_4_method_38_code
def yX2_kept : MethodName := ⟨RX2, "kept", "()[[I"⟩
abbrev cX2_bringBack : ByteArray := prog_4_method_39_code
def yX2_bringBack : MethodName := ⟨RX2, "bringBack", "([[I)V"⟩
abbrev cX2_foresee : ByteArray := prog_4_method_40_code
def yX2_foresee : MethodName := ⟨RX2, "foresee", "(III)I"⟩
abbrev cX2_advise : ByteArray := prog_4_method_41_code
def yX2_advise : MethodName := ⟨RX2, "advise", "(II)I"⟩
abbrev cX2_mean : ByteArray := prog_4_method_42_code
def yX2_mean : MethodName := ⟨RX2, "mean", "()D"⟩
abbrev cX2_digest : ByteArray := prog_4_method_43_code
def yX2_digest : MethodName := ⟨RX2, "digest", "()J"⟩
def RJx145de : String := "java/io/Serializable"
def TJx145de : u_T := fun k => match k with
  | _ => ("", "", "", false)
def tyJx145de : Nat → FieldType := fun k => match k with
  | _ => .int
abbrev wsJx145de0 : List Cond := u_ws RJx145de TJx145de 0
theorem nmJx145de : ∀ a, a < 0 → ∀ b, b < 0 → a ≠ b → (TJx145de a).2.1 ≠ (TJx145de b).2.1 := by decide +kernel
theorem tyJx145de_ok : ∀ k, k < 0 → parseFieldDescriptor (TJx145de k).2.2.1 = some (tyJx145de k) := by decide +kernel
def RJx8e188 : String := "java/lang/Cloneable"
def TJx8e188 : u_T := fun k => match k with
  | _ => ("", "", "", false)
def tyJx8e188 : Nat → FieldType := fun k => match k with
  | _ => .int
abbrev wsJx8e1880 : List Cond := u_ws RJx8e188 TJx8e188 0
theorem nmJx8e188 : ∀ a, a < 0 → ∀ b, b < 0 → a ≠ b → (TJx8e188 a).2.1 ≠ (TJx8e188 b).2.1 := by decide +kernel
theorem tyJx8e188_ok : ∀ k, k < 0 → parseFieldDescriptor (TJx8e188 k).2.2.1 = some (tyJx8e188 k) := by decide +kernel
def RJ9 : String := "java/lang/Math"
def TJ9 : u_T := fun k => match k with
  | _ => ("", "", "", false)
def tyJ9 : Nat → FieldType := fun k => match k with
  | _ => .int
abbrev wsJ90 : List Cond := u_ws RJ9 TJ9 0
theorem nmJ9 : ∀ a, a < 0 → ∀ b, b < 0 → a ≠ b → (TJ9 a).2.1 ≠ (TJ9 b).2.1 := by decide +kernel
theorem tyJ9_ok : ∀ k, k < 0 → parseFieldDescriptor (TJ9 k).2.2.1 = some (tyJ9 k) := by decide +kernel
abbrev cJ9_floorMod_7cf53 : ByteArray := prog_10_method_50_code
def yJ9_floorMod_7cf53 : MethodName := ⟨RJ9, "floorMod", "(II)I"⟩
abbrev cJ9_max_7cf53 : ByteArray := prog_10_method_65_code
def yJ9_max_7cf53 : MethodName := ⟨RJ9, "max", "(II)I"⟩
abbrev cJ9_min_7cf53 : ByteArray := prog_10_method_69_code
def yJ9_min_7cf53 : MethodName := ⟨RJ9, "min", "(II)I"⟩
def RJ0 : String := "java/lang/String"
def TJ0 : u_T := fun k => match k with
  | _ => ("", "", "", false)
def tyJ0 : Nat → FieldType := fun k => match k with
  | _ => .int
abbrev wsJ00 : List Cond := u_ws RJ0 TJ0 0
theorem nmJ0 : ∀ a, a < 0 → ∀ b, b < 0 → a ≠ b → (TJ0 a).2.1 ≠ (TJ0 b).2.1 := by decide +kernel
theorem tyJ0_ok : ∀ k, k < 0 → parseFieldDescriptor (TJ0 k).2.2.1 = some (tyJ0 k) := by decide +kernel
def RJ10 : String := "java/lang/System"
def TJ10 : u_T := fun k => match k with
  | _ => ("", "", "", false)
def tyJ10 : Nat → FieldType := fun k => match k with
  | _ => .int
abbrev wsJ100 : List Cond := u_ws RJ10 TJ10 0
theorem nmJ10 : ∀ a, a < 0 → ∀ b, b < 0 → a ≠ b → (TJ10 a).2.1 ≠ (TJ10 b).2.1 := by decide +kernel
theorem tyJ10_ok : ∀ k, k < 0 → parseFieldDescriptor (TJ10 k).2.2.1 = some (tyJ10 k) := by decide +kernel
def RJ7 : String := "java/util/Arrays"
def TJ7 : u_T := fun k => match k with
  | _ => ("", "", "", false)
def tyJ7 : Nat → FieldType := fun k => match k with
  | _ => .int
abbrev wsJ70 : List Cond := u_ws RJ7 TJ7 0
theorem nmJ7 : ∀ a, a < 0 → ∀ b, b < 0 → a ≠ b → (TJ7 a).2.1 ≠ (TJ7 b).2.1 := by decide +kernel
theorem tyJ7_ok : ∀ k, k < 0 → parseFieldDescriptor (TJ7 k).2.2.1 = some (tyJ7 k) := by decide +kernel
abbrev cJ7_fill_53178 : ByteArray := prog_15_method_103_code
def yJ7_fill_53178 : MethodName := ⟨RJ7, "fill", "([II)V"⟩
def RL : String := "SandcastleLeagueLaw"
abbrev cL_addTeam : ByteArray := method_3_code
def yL_addTeam : MethodName := ⟨RL, "addTeam", "(LSandcastleLeague;[J)I"⟩
abbrev cL_setTide : ByteArray := method_4_code
def yL_setTide : MethodName := ⟨RL, "setTide", "(LSandcastleLeague;II[J)I"⟩
abbrev cL_dig : ByteArray := method_5_code
def yL_dig : MethodName := ⟨RL, "dig", "(LSandcastleLeague;IIII[J)I"⟩
abbrev cL_pile : ByteArray := method_6_code
def yL_pile : MethodName := ⟨RL, "pile", "(LSandcastleLeague;IIII[J)I"⟩
abbrev cL_pack : ByteArray := method_7_code
def yL_pack : MethodName := ⟨RL, "pack", "(LSandcastleLeague;III[J)I"⟩
abbrev cL_plant : ByteArray := method_8_code
def yL_plant : MethodName := ⟨RL, "plant", "(LSandcastleLeague;III[J)I"⟩
abbrev cL_cell : ByteArray := method_9_code
def yL_cell : MethodName := ⟨RL, "cell", "(LSandcastleLeague;III[J)I"⟩
abbrev cL_team : ByteArray := method_10_code
def yL_team : MethodName := ⟨RL, "team", "(LSandcastleLeague;II[J)I"⟩
abbrev cL_count : ByteArray := method_11_code
def yL_count : MethodName := ⟨RL, "count", "(LSandcastleLeague;I[J)I"⟩
abbrev cL_pass : ByteArray := method_12_code
def yL_pass : MethodName := ⟨RL, "pass", "(LSandcastleLeague;I[J)I"⟩
abbrev cL_leader : ByteArray := method_13_code
def yL_leader : MethodName := ⟨RL, "leader", "(LSandcastleLeague;I[J)I"⟩
abbrev cL_flood : ByteArray := method_14_code
def yL_flood : MethodName := ⟨RL, "flood", "(LSandcastleLeague;I[J)I"⟩
abbrev cL_reach : ByteArray := method_15_code
def yL_reach : MethodName := ⟨RL, "reach", "(LSandcastleLeague;II[J)I"⟩
abbrev cL_foresee : ByteArray := method_16_code
def yL_foresee : MethodName := ⟨RL, "foresee", "(LSandcastleLeague;III[J)I"⟩
abbrev cL_advise : ByteArray := method_17_code
def yL_advise : MethodName := ⟨RL, "advise", "(LSandcastleLeague;II[J)I"⟩
abbrev cL_law : ByteArray := code
def yL_law : MethodName := ⟨RL, "law", "([I)Z"⟩
def wsX0_init : List Cond := .code yX0_init cX0_init 1 none :: ([.methodLink RX0 3 objectInit, .instanceMethod objectInit, .code objectInit ⟨#[0xb1]⟩ 1 none, .arrayClass .int, .fieldLink RX0 9 "SandcastleLeague$Shore" "sand" "[I", .fieldLink RX0 15 "SandcastleLeague$Shore" "firmness" "[I", .fieldLink RX0 18 "SandcastleLeague$Shore" "water" "[I", .fieldLink RX0 21 "SandcastleLeague$Shore" "owner" "[I", .fieldLink RX0 24 "SandcastleLeague$Shore" "plantedHeight" "[I", .fieldLink RX0 27 "SandcastleLeague$Shore" "points" "[I"] ++ wsX00)
def wsJ7_fill_53178 : List Cond := .code yJ7_fill_53178 cJ7_fill_53178 4 none :: ([])
def wsX0_clearSticks : List Cond := .code yX0_clearSticks cX0_clearSticks 1 none :: ([.fieldLink RX0 21 "SandcastleLeague$Shore" "owner" "[I", .fieldLink RX0 24 "SandcastleLeague$Shore" "plantedHeight" "[I", .fieldLink RX0 27 "SandcastleLeague$Shore" "points" "[I", .methodLink RX0 30 yJ7_fill_53178, .static yJ7_fill_53178, .initialized RJ7, .code yJ7_fill_53178 cJ7_fill_53178 4 none] ++ wsX00)
def wsX0_begin : List Cond := .code yX0_begin cX0_begin 1 none :: ([.fieldLink RX0 9 "SandcastleLeague$Shore" "sand" "[I", .fieldLink RX0 15 "SandcastleLeague$Shore" "firmness" "[I", .fieldLink RX0 18 "SandcastleLeague$Shore" "water" "[I", .fieldLink RX0 39 "SandcastleLeague$Shore" "lostSand" "I", .fieldLink RX0 43 "SandcastleLeague$Shore" "slides" "I", .fieldLink RX0 46 "SandcastleLeague$Shore" "fallenSticks" "I", .methodLink RX0 30 yJ7_fill_53178, .static yJ7_fill_53178, .initialized RJ7, .code yJ7_fill_53178 cJ7_fill_53178 4 none, .methodLink RX0 36 yX0_clearSticks, .instanceMethod yX0_clearSticks, .selects RX0 yX0_clearSticks yX0_clearSticks, .initialized RX0, .code yX0_clearSticks cX0_clearSticks 1 none, .fieldLink RX0 21 "SandcastleLeague$Shore" "owner" "[I", .fieldLink RX0 24 "SandcastleLeague$Shore" "plantedHeight" "[I", .fieldLink RX0 27 "SandcastleLeague$Shore" "points" "[I"] ++ wsX00)
def wsX0_become : List Cond := .code yX0_become cX0_become 2 none :: ([.fieldLink RX0 9 "SandcastleLeague$Shore" "sand" "[I", .methodLink RX0 49 arraycopyName, .native arraycopyName, .static arraycopyName, .initialized "java/lang/System", .fieldLink RX0 15 "SandcastleLeague$Shore" "firmness" "[I", .fieldLink RX0 18 "SandcastleLeague$Shore" "water" "[I", .fieldLink RX0 21 "SandcastleLeague$Shore" "owner" "[I", .fieldLink RX0 24 "SandcastleLeague$Shore" "plantedHeight" "[I", .fieldLink RX0 27 "SandcastleLeague$Shore" "points" "[I", .fieldLink RX0 39 "SandcastleLeague$Shore" "lostSand" "I", .fieldLink RX0 43 "SandcastleLeague$Shore" "slides" "I", .fieldLink RX0 46 "SandcastleLeague$Shore" "fallenSticks" "I"] ++ wsX00)
def wsX0_takeSand : List Cond := .code yX0_takeSand cX0_takeSand 4 (some .int) :: ([.fieldLink RX0 9 "SandcastleLeague$Shore" "sand" "[I", .methodLink RX0 55 Lib.Math.min.name, .static Lib.Math.min.name, .initialized "java/lang/Math", .code Lib.Math.min.name Lib.Math.min.code 2 (some .int), .fieldLink RX0 15 "SandcastleLeague$Shore" "firmness" "[I"] ++ wsX00)
def wsX0_soften : List Cond := .code yX0_soften cX0_soften 2 none :: ([.fieldLink RX0 15 "SandcastleLeague$Shore" "firmness" "[I"] ++ wsX00)
def wsX0_putSand : List Cond := .code yX0_putSand cX0_putSand 4 (some .int) :: ([.fieldLink RX0 9 "SandcastleLeague$Shore" "sand" "[I", .methodLink RX0 55 Lib.Math.min.name, .static Lib.Math.min.name, .initialized "java/lang/Math", .code Lib.Math.min.name Lib.Math.min.code 2 (some .int), .methodLink RX0 61 yX0_soften, .instanceMethod yX0_soften, .selects RX0 yX0_soften yX0_soften, .initialized RX0, .code yX0_soften cX0_soften 2 none, .fieldLink RX0 15 "SandcastleLeague$Shore" "firmness" "[I"] ++ wsX00)
def wsX0_isWet : List Cond := .code yX0_isWet cX0_isWet 2 (some .boolean) :: ([.fieldLink RX0 18 "SandcastleLeague$Shore" "water" "[I"] ++ wsX00)
def wsX0_harden : List Cond := .code yX0_harden cX0_harden 2 (some .int) :: ([.fieldLink RX0 9 "SandcastleLeague$Shore" "sand" "[I", .fieldLink RX0 15 "SandcastleLeague$Shore" "firmness" "[I", .methodLink RX0 65 yX0_isWet, .instanceMethod yX0_isWet, .selects RX0 yX0_isWet yX0_isWet, .initialized RX0, .code yX0_isWet cX0_isWet 2 (some .boolean), .fieldLink RX0 18 "SandcastleLeague$Shore" "water" "[I"] ++ wsX00)
def wsX0_height : List Cond := .code yX0_height cX0_height 2 (some .int) :: ([.fieldLink RX0 9 "SandcastleLeague$Shore" "sand" "[I"] ++ wsX00)
def wsX0_putStick : List Cond := .code yX0_putStick cX0_putStick 3 none :: ([.fieldLink RX0 21 "SandcastleLeague$Shore" "owner" "[I", .fieldLink RX0 24 "SandcastleLeague$Shore" "plantedHeight" "[I", .methodLink RX0 69 yX0_height, .instanceMethod yX0_height, .selects RX0 yX0_height yX0_height, .initialized RX0, .code yX0_height cX0_height 2 (some .int), .fieldLink RX0 9 "SandcastleLeague$Shore" "sand" "[I"] ++ wsX00)
def wsX0_beside : List Cond := .code yX0_beside cX0_beside 3 (some .int) :: ([])
def wsX0_isOpenToSea : List Cond := .code yX0_isOpenToSea cX0_isOpenToSea 4 (some .boolean) :: ([.methodLink RX0 92 yX0_beside, .static yX0_beside, .initialized RX0, .code yX0_beside cX0_beside 3 (some .int), .methodLink RX0 65 yX0_isWet, .instanceMethod yX0_isWet, .selects RX0 yX0_isWet yX0_isWet, .code yX0_isWet cX0_isWet 2 (some .boolean), .fieldLink RX0 18 "SandcastleLeague$Shore" "water" "[I"] ++ wsX00)
def wsX0_sweepWater : List Cond := .code yX0_sweepWater cX0_sweepWater 4 (some .boolean) :: ([.fieldLink RX0 18 "SandcastleLeague$Shore" "water" "[I", .methodLink RX0 65 yX0_isWet, .instanceMethod yX0_isWet, .selects RX0 yX0_isWet yX0_isWet, .initialized RX0, .code yX0_isWet cX0_isWet 2 (some .boolean), .methodLink RX0 69 yX0_height, .instanceMethod yX0_height, .selects RX0 yX0_height yX0_height, .code yX0_height cX0_height 2 (some .int), .fieldLink RX0 9 "SandcastleLeague$Shore" "sand" "[I", .methodLink RX0 89 yX0_isOpenToSea, .instanceMethod yX0_isOpenToSea, .selects RX0 yX0_isOpenToSea yX0_isOpenToSea, .code yX0_isOpenToSea cX0_isOpenToSea 4 (some .boolean), .methodLink RX0 92 yX0_beside, .static yX0_beside, .code yX0_beside cX0_beside 3 (some .int)] ++ wsX00)
def wsX0_findWater_r1 : List Cond := [Cond.fieldLink RX0 18 "SandcastleLeague$Shore" "water" "[I", Cond.methodLink RX0 30 yJ7_fill_53178, Cond.static yJ7_fill_53178, Cond.initialized RJ7, Cond.code yJ7_fill_53178 cJ7_fill_53178 4 none, Cond.methodLink RX0 86 yX0_sweepWater, Cond.instanceMethod yX0_sweepWater, Cond.selects RX0 yX0_sweepWater yX0_sweepWater, Cond.initialized RX0, Cond.code yX0_sweepWater cX0_sweepWater 4 (some .boolean), Cond.methodLink RX0 65 yX0_isWet, Cond.instanceMethod yX0_isWet, Cond.selects RX0 yX0_isWet yX0_isWet, Cond.code yX0_isWet cX0_isWet 2 (some .boolean), Cond.methodLink RX0 69 yX0_height, Cond.instanceMethod yX0_height, Cond.selects RX0 yX0_height yX0_height, Cond.code yX0_height cX0_height 2 (some .int), Cond.fieldLink RX0 9 "SandcastleLeague$Shore" "sand" "[I", Cond.methodLink RX0 89 yX0_isOpenToSea, Cond.instanceMethod yX0_isOpenToSea, Cond.selects RX0 yX0_isOpenToSea yX0_isOpenToSea, Cond.code yX0_isOpenToSea cX0_isOpenToSea 4 (some .boolean), Cond.methodLink RX0 92 yX0_beside]
def wsX0_findWater_r2 : List Cond := [Cond.static yX0_beside, Cond.code yX0_beside cX0_beside 3 (some .int)]
def wsX0_findWater : List Cond := .code yX0_findWater cX0_findWater 4 none :: ((wsX0_findWater_r1 ++ wsX0_findWater_r2) ++ wsX00)
def wsX0_washSandAway : List Cond := .code yX0_washSandAway cX0_washSandAway 4 none :: ([.fieldLink RX0 15 "SandcastleLeague$Shore" "firmness" "[I", .methodLink RX0 95 Lib.Math.max.name, .static Lib.Math.max.name, .initialized "java/lang/Math", .code Lib.Math.max.name Lib.Math.max.code 2 (some .int), .fieldLink RX0 9 "SandcastleLeague$Shore" "sand" "[I", .methodLink RX0 55 Lib.Math.min.name, .static Lib.Math.min.name, .code Lib.Math.min.name Lib.Math.min.code 2 (some .int), .fieldLink RX0 39 "SandcastleLeague$Shore" "lostSand" "I", .methodLink RX0 65 yX0_isWet, .instanceMethod yX0_isWet, .selects RX0 yX0_isWet yX0_isWet, .initialized RX0, .code yX0_isWet cX0_isWet 2 (some .boolean), .fieldLink RX0 18 "SandcastleLeague$Shore" "water" "[I", .methodLink RX0 69 yX0_height, .instanceMethod yX0_height, .selects RX0 yX0_height yX0_height, .code yX0_height cX0_height 2 (some .int), .methodLink RX0 61 yX0_soften, .instanceMethod yX0_soften, .selects RX0 yX0_soften yX0_soften, .code yX0_soften cX0_soften 2 none] ++ wsX00)
def wsX0_lowestBeside : List Cond := .code yX0_lowestBeside cX0_lowestBeside 5 (some .int) :: ([.methodLink RX0 92 yX0_beside, .static yX0_beside, .initialized RX0, .code yX0_beside cX0_beside 3 (some .int), .methodLink RX0 69 yX0_height, .instanceMethod yX0_height, .selects RX0 yX0_height yX0_height, .code yX0_height cX0_height 2 (some .int), .fieldLink RX0 9 "SandcastleLeague$Shore" "sand" "[I"] ++ wsX00)
def wsX0_slidesTo : List Cond := .code yX0_slidesTo cX0_slidesTo 3 (some .boolean) :: ([.fieldLink RX0 9 "SandcastleLeague$Shore" "sand" "[I", .fieldLink RX0 15 "SandcastleLeague$Shore" "firmness" "[I", .methodLink RX0 69 yX0_height, .instanceMethod yX0_height, .selects RX0 yX0_height yX0_height, .initialized RX0, .code yX0_height cX0_height 2 (some .int)] ++ wsX00)
def wsX0_slideOnce : List Cond := .code yX0_slideOnce cX0_slideOnce 4 (some .int) :: ([.fieldLink RX0 9 "SandcastleLeague$Shore" "sand" "[I", .methodLink RX0 101 yX0_lowestBeside, .instanceMethod yX0_lowestBeside, .selects RX0 yX0_lowestBeside yX0_lowestBeside, .initialized RX0, .code yX0_lowestBeside cX0_lowestBeside 5 (some .int), .methodLink RX0 92 yX0_beside, .static yX0_beside, .code yX0_beside cX0_beside 3 (some .int), .methodLink RX0 69 yX0_height, .instanceMethod yX0_height, .selects RX0 yX0_height yX0_height, .code yX0_height cX0_height 2 (some .int), .methodLink RX0 104 yX0_slidesTo, .instanceMethod yX0_slidesTo, .selects RX0 yX0_slidesTo yX0_slidesTo, .code yX0_slidesTo cX0_slidesTo 3 (some .boolean), .fieldLink RX0 15 "SandcastleLeague$Shore" "firmness" "[I"] ++ wsX00)
def wsX0_letSandSlide : List Cond := .code yX0_letSandSlide cX0_letSandSlide 4 (some .int) :: ([.methodLink RX0 98 yX0_slideOnce, .instanceMethod yX0_slideOnce, .selects RX0 yX0_slideOnce yX0_slideOnce, .initialized RX0, .code yX0_slideOnce cX0_slideOnce 4 (some .int), .fieldLink RX0 9 "SandcastleLeague$Shore" "sand" "[I", .methodLink RX0 101 yX0_lowestBeside, .instanceMethod yX0_lowestBeside, .selects RX0 yX0_lowestBeside yX0_lowestBeside, .code yX0_lowestBeside cX0_lowestBeside 5 (some .int), .methodLink RX0 92 yX0_beside, .static yX0_beside, .code yX0_beside cX0_beside 3 (some .int), .methodLink RX0 69 yX0_height, .instanceMethod yX0_height, .selects RX0 yX0_height yX0_height, .code yX0_height cX0_height 2 (some .int), .methodLink RX0 104 yX0_slidesTo, .instanceMethod yX0_slidesTo, .selects RX0 yX0_slidesTo yX0_slidesTo, .code yX0_slidesTo cX0_slidesTo 3 (some .boolean), .fieldLink RX0 15 "SandcastleLeague$Shore" "firmness" "[I"] ++ wsX00)
def wsX0_judgeSticks : List Cond := .code yX0_judgeSticks cX0_judgeSticks 3 none :: ([.fieldLink RX0 21 "SandcastleLeague$Shore" "owner" "[I", .fieldLink RX0 24 "SandcastleLeague$Shore" "plantedHeight" "[I", .fieldLink RX0 46 "SandcastleLeague$Shore" "fallenSticks" "I", .fieldLink RX0 27 "SandcastleLeague$Shore" "points" "[I", .fieldLink RX0 9 "SandcastleLeague$Shore" "sand" "[I", .methodLink RX0 65 yX0_isWet, .instanceMethod yX0_isWet, .selects RX0 yX0_isWet yX0_isWet, .initialized RX0, .code yX0_isWet cX0_isWet 2 (some .boolean), .fieldLink RX0 18 "SandcastleLeague$Shore" "water" "[I", .methodLink RX0 69 yX0_height, .instanceMethod yX0_height, .selects RX0 yX0_height yX0_height, .code yX0_height cX0_height 2 (some .int)] ++ wsX00)
def wsX0_letHourGoBy_r1 : List Cond := [Cond.fieldLink RX0 43 "SandcastleLeague$Shore" "slides" "I", Cond.methodLink RX0 73 yX0_findWater, Cond.instanceMethod yX0_findWater, Cond.selects RX0 yX0_findWater yX0_findWater, Cond.initialized RX0, Cond.code yX0_findWater cX0_findWater 4 none, Cond.fieldLink RX0 18 "SandcastleLeague$Shore" "water" "[I", Cond.methodLink RX0 30 yJ7_fill_53178, Cond.static yJ7_fill_53178, Cond.initialized RJ7, Cond.code yJ7_fill_53178 cJ7_fill_53178 4 none, Cond.methodLink RX0 86 yX0_sweepWater, Cond.instanceMethod yX0_sweepWater, Cond.selects RX0 yX0_sweepWater yX0_sweepWater, Cond.code yX0_sweepWater cX0_sweepWater 4 (some .boolean), Cond.methodLink RX0 65 yX0_isWet, Cond.instanceMethod yX0_isWet, Cond.selects RX0 yX0_isWet yX0_isWet, Cond.code yX0_isWet cX0_isWet 2 (some .boolean), Cond.methodLink RX0 69 yX0_height, Cond.instanceMethod yX0_height, Cond.selects RX0 yX0_height yX0_height, Cond.code yX0_height cX0_height 2 (some .int), Cond.fieldLink RX0 9 "SandcastleLeague$Shore" "sand" "[I"]
def wsX0_letHourGoBy_r2 : List Cond := [Cond.methodLink RX0 89 yX0_isOpenToSea, Cond.instanceMethod yX0_isOpenToSea, Cond.selects RX0 yX0_isOpenToSea yX0_isOpenToSea, Cond.code yX0_isOpenToSea cX0_isOpenToSea 4 (some .boolean), Cond.methodLink RX0 92 yX0_beside, Cond.static yX0_beside, Cond.code yX0_beside cX0_beside 3 (some .int), Cond.methodLink RX0 76 yX0_washSandAway, Cond.instanceMethod yX0_washSandAway, Cond.selects RX0 yX0_washSandAway yX0_washSandAway, Cond.code yX0_washSandAway cX0_washSandAway 4 none, Cond.fieldLink RX0 15 "SandcastleLeague$Shore" "firmness" "[I", Cond.methodLink RX0 95 Lib.Math.max.name, Cond.static Lib.Math.max.name, Cond.initialized "java/lang/Math", Cond.code Lib.Math.max.name Lib.Math.max.code 2 (some .int), Cond.methodLink RX0 55 Lib.Math.min.name, Cond.static Lib.Math.min.name, Cond.code Lib.Math.min.name Lib.Math.min.code 2 (some .int), Cond.fieldLink RX0 39 "SandcastleLeague$Shore" "lostSand" "I", Cond.methodLink RX0 61 yX0_soften, Cond.instanceMethod yX0_soften, Cond.selects RX0 yX0_soften yX0_soften, Cond.code yX0_soften cX0_soften 2 none]
def wsX0_letHourGoBy_r3 : List Cond := [Cond.methodLink RX0 79 yX0_letSandSlide, Cond.instanceMethod yX0_letSandSlide, Cond.selects RX0 yX0_letSandSlide yX0_letSandSlide, Cond.code yX0_letSandSlide cX0_letSandSlide 4 (some .int), Cond.methodLink RX0 98 yX0_slideOnce, Cond.instanceMethod yX0_slideOnce, Cond.selects RX0 yX0_slideOnce yX0_slideOnce, Cond.code yX0_slideOnce cX0_slideOnce 4 (some .int), Cond.methodLink RX0 101 yX0_lowestBeside, Cond.instanceMethod yX0_lowestBeside, Cond.selects RX0 yX0_lowestBeside yX0_lowestBeside, Cond.code yX0_lowestBeside cX0_lowestBeside 5 (some .int), Cond.methodLink RX0 104 yX0_slidesTo, Cond.instanceMethod yX0_slidesTo, Cond.selects RX0 yX0_slidesTo yX0_slidesTo, Cond.code yX0_slidesTo cX0_slidesTo 3 (some .boolean), Cond.methodLink RX0 83 yX0_judgeSticks, Cond.instanceMethod yX0_judgeSticks, Cond.selects RX0 yX0_judgeSticks yX0_judgeSticks, Cond.code yX0_judgeSticks cX0_judgeSticks 3 none, Cond.fieldLink RX0 21 "SandcastleLeague$Shore" "owner" "[I", Cond.fieldLink RX0 24 "SandcastleLeague$Shore" "plantedHeight" "[I", Cond.fieldLink RX0 46 "SandcastleLeague$Shore" "fallenSticks" "I", Cond.fieldLink RX0 27 "SandcastleLeague$Shore" "points" "[I"]
def wsX0_letHourGoBy : List Cond := .code yX0_letHourGoBy cX0_letHourGoBy 2 none :: ((wsX0_letHourGoBy_r1 ++ (wsX0_letHourGoBy_r2 ++ wsX0_letHourGoBy_r3)) ++ wsX00)
def wsX0_hasStick : List Cond := .code yX0_hasStick cX0_hasStick 2 (some .boolean) :: ([.fieldLink RX0 21 "SandcastleLeague$Shore" "owner" "[I"] ++ wsX00)
def wsX0_isFree : List Cond := .code yX0_isFree cX0_isFree 2 (some .boolean) :: ([.methodLink RX0 108 yX0_hasStick, .instanceMethod yX0_hasStick, .selects RX0 yX0_hasStick yX0_hasStick, .initialized RX0, .code yX0_hasStick cX0_hasStick 2 (some .boolean), .fieldLink RX0 21 "SandcastleLeague$Shore" "owner" "[I", .methodLink RX0 65 yX0_isWet, .instanceMethod yX0_isWet, .selects RX0 yX0_isWet yX0_isWet, .code yX0_isWet cX0_isWet 2 (some .boolean), .fieldLink RX0 18 "SandcastleLeague$Shore" "water" "[I"] ++ wsX00)
def wsX0_tellCell : List Cond := .code yX0_tellCell cX0_tellCell 3 (some .int) :: ([.fieldLink RX0 9 "SandcastleLeague$Shore" "sand" "[I", .fieldLink RX0 15 "SandcastleLeague$Shore" "firmness" "[I", .fieldLink RX0 18 "SandcastleLeague$Shore" "water" "[I", .fieldLink RX0 24 "SandcastleLeague$Shore" "plantedHeight" "[I", .methodLink RX0 69 yX0_height, .instanceMethod yX0_height, .selects RX0 yX0_height yX0_height, .initialized RX0, .code yX0_height cX0_height 2 (some .int), .methodLink RX0 108 yX0_hasStick, .instanceMethod yX0_hasStick, .selects RX0 yX0_hasStick yX0_hasStick, .code yX0_hasStick cX0_hasStick 2 (some .boolean), .fieldLink RX0 21 "SandcastleLeague$Shore" "owner" "[I"] ++ wsX00)
def wsX0_pointsOf : List Cond := .code yX0_pointsOf cX0_pointsOf 2 (some .int) :: ([.fieldLink RX0 27 "SandcastleLeague$Shore" "points" "[I"] ++ wsX00)
def wsX0_sticksOf : List Cond := .code yX0_sticksOf cX0_sticksOf 4 (some .int) :: ([.fieldLink RX0 21 "SandcastleLeague$Shore" "owner" "[I"] ++ wsX00)
def wsX1_isInArea : List Cond := .code yX1_isInArea cX1_isInArea 2 (some .boolean) :: ([])
def wsX0_sumOfArea : List Cond := .code yX0_sumOfArea cX0_sumOfArea 4 (some .int) :: ([.static yX1_isInArea, .initialized RX1, .code yX1_isInArea cX1_isInArea 2 (some .boolean)])
def wsX0_sandOfArea : List Cond := .code yX0_sandOfArea cX0_sandOfArea 2 (some .int) :: ([.fieldLink RX0 9 "SandcastleLeague$Shore" "sand" "[I", .methodLink RX0 111 yX0_sumOfArea, .static yX0_sumOfArea, .initialized RX0, .code yX0_sumOfArea cX0_sumOfArea 4 (some .int), .static yX1_isInArea, .initialized RX1, .code yX1_isInArea cX1_isInArea 2 (some .boolean)] ++ wsX00)
def wsX0_waterOfArea : List Cond := .code yX0_waterOfArea cX0_waterOfArea 2 (some .int) :: ([.fieldLink RX0 18 "SandcastleLeague$Shore" "water" "[I", .methodLink RX0 111 yX0_sumOfArea, .static yX0_sumOfArea, .initialized RX0, .code yX0_sumOfArea cX0_sumOfArea 4 (some .int), .static yX1_isInArea, .initialized RX1, .code yX1_isInArea cX1_isInArea 2 (some .boolean)] ++ wsX00)
def wsX0_greatestHeightOfArea : List Cond := .code yX0_greatestHeightOfArea cX0_greatestHeightOfArea 4 (some .int) :: ([.methodLink RX0 95 Lib.Math.max.name, .static Lib.Math.max.name, .initialized "java/lang/Math", .code Lib.Math.max.name Lib.Math.max.code 2 (some .int), .static yX1_isInArea, .initialized RX1, .code yX1_isInArea cX1_isInArea 2 (some .boolean), .methodLink RX0 69 yX0_height, .instanceMethod yX0_height, .selects RX0 yX0_height yX0_height, .initialized RX0, .code yX0_height cX0_height 2 (some .int), .fieldLink RX0 9 "SandcastleLeague$Shore" "sand" "[I"] ++ wsX00)
def wsX0_sum : List Cond := .code yX0_sum cX0_sum 6 (some .int) :: ([])
def wsX0_allSand : List Cond := .code yX0_allSand cX0_allSand 1 (some .int) :: ([.fieldLink RX0 9 "SandcastleLeague$Shore" "sand" "[I", .methodLink RX0 118 yX0_sum, .static yX0_sum, .initialized RX0, .code yX0_sum cX0_sum 6 (some .int)] ++ wsX00)
def wsX0_allWater : List Cond := .code yX0_allWater cX0_allWater 1 (some .int) :: ([.fieldLink RX0 18 "SandcastleLeague$Shore" "water" "[I", .methodLink RX0 118 yX0_sum, .static yX0_sum, .initialized RX0, .code yX0_sum cX0_sum 6 (some .int)] ++ wsX00)
def wsX0_allHeights : List Cond := .code yX0_allHeights cX0_allHeights 3 (some .int) :: ([.methodLink RX0 69 yX0_height, .instanceMethod yX0_height, .selects RX0 yX0_height yX0_height, .initialized RX0, .code yX0_height cX0_height 2 (some .int), .fieldLink RX0 9 "SandcastleLeague$Shore" "sand" "[I"] ++ wsX00)
def wsX0_allSticks : List Cond := .code yX0_allSticks cX0_allSticks 3 (some .int) :: ([.methodLink RX0 108 yX0_hasStick, .instanceMethod yX0_hasStick, .selects RX0 yX0_hasStick yX0_hasStick, .initialized RX0, .code yX0_hasStick cX0_hasStick 2 (some .boolean), .fieldLink RX0 21 "SandcastleLeague$Shore" "owner" "[I"] ++ wsX00)
def wsX1_beginRound_r1 : List Cond := [Cond.fieldLink RX1 10 "SandcastleLeague" "shore" "LSandcastleLeague$Shore;", Cond.fieldLink RX1 31 "SandcastleLeague" "bucket" "[I", Cond.fieldLink RX1 34 "SandcastleLeague" "strength" "[I", Cond.methodLink RX1 209 yX0_begin, Cond.instanceMethod yX0_begin, Cond.selects RX0 yX0_begin yX0_begin, Cond.initialized RX0, Cond.code yX0_begin cX0_begin 1 none, Cond.fieldLink RX0 9 "SandcastleLeague$Shore" "sand" "[I", Cond.fieldLink RX0 15 "SandcastleLeague$Shore" "firmness" "[I", Cond.fieldLink RX0 18 "SandcastleLeague$Shore" "water" "[I", Cond.fieldLink RX0 39 "SandcastleLeague$Shore" "lostSand" "I", Cond.fieldLink RX0 43 "SandcastleLeague$Shore" "slides" "I", Cond.fieldLink RX0 46 "SandcastleLeague$Shore" "fallenSticks" "I", Cond.methodLink RX0 30 yJ7_fill_53178, Cond.static yJ7_fill_53178, Cond.initialized RJ7, Cond.code yJ7_fill_53178 cJ7_fill_53178 4 none, Cond.methodLink RX0 36 yX0_clearSticks, Cond.instanceMethod yX0_clearSticks, Cond.selects RX0 yX0_clearSticks yX0_clearSticks, Cond.code yX0_clearSticks cX0_clearSticks 1 none, Cond.fieldLink RX0 21 "SandcastleLeague$Shore" "owner" "[I", Cond.fieldLink RX0 24 "SandcastleLeague$Shore" "plantedHeight" "[I"]
def wsX1_beginRound_r2 : List Cond := [Cond.fieldLink RX0 27 "SandcastleLeague$Shore" "points" "[I", Cond.methodLink RX1 163 yJ7_fill_53178]
def wsX1_beginRound : List Cond := .code yX1_beginRound cX1_beginRound 1 none :: ((wsX1_beginRound_r1 ++ wsX1_beginRound_r2) ++ wsX10 ++ wsX00)
def wsX1_init_r1 : List Cond := [Cond.methodLink RX1 1 objectInit, Cond.instanceMethod objectInit, Cond.code objectInit ⟨#[0xb1]⟩ 1 none, Cond.classLink RX1 7 RX0, Cond.instantiable RX0 9, Cond.initialized RX0, Cond.fieldLink RX1 10 "SandcastleLeague" "shore" "LSandcastleLeague$Shore;", Cond.fieldLink RX1 16 "SandcastleLeague" "trial" "LSandcastleLeague$Shore;", Cond.fieldLink RX1 19 "SandcastleLeague" "FIRST_TIDES" "[I", Cond.methodLink RX1 23 ⟨"[I", "clone", "()Ljava/lang/Object;"⟩, Cond.sameMethod "[I" "java/lang/Object" "clone" "()Ljava/lang/Object;", Cond.native ⟨"java/lang/Object", "clone", "()Ljava/lang/Object;"⟩, Cond.instanceMethod ⟨"java/lang/Object", "clone", "()Ljava/lang/Object;"⟩, Cond.selects "[I" ⟨"[I", "clone", "()Ljava/lang/Object;"⟩ ⟨"java/lang/Object", "clone", "()Ljava/lang/Object;"⟩, Cond.classLink RX1 24 "[I", Cond.fieldLink RX1 28 "SandcastleLeague" "tides" "[I", Cond.arrayClass .int, Cond.fieldLink RX1 31 "SandcastleLeague" "bucket" "[I", Cond.fieldLink RX1 34 "SandcastleLeague" "strength" "[I", Cond.fieldLink RX1 37 "SandcastleLeague" "leaguePoints" "[I", Cond.instanceMethod yX0_init, Cond.code yX0_init cX0_init 1 none, Cond.methodLink RX0 3 objectInit, Cond.fieldLink RX0 9 "SandcastleLeague$Shore" "sand" "[I"]
def wsX1_init_r2 : List Cond := [Cond.fieldLink RX0 15 "SandcastleLeague$Shore" "firmness" "[I", Cond.fieldLink RX0 18 "SandcastleLeague$Shore" "water" "[I", Cond.fieldLink RX0 21 "SandcastleLeague$Shore" "owner" "[I", Cond.fieldLink RX0 24 "SandcastleLeague$Shore" "plantedHeight" "[I", Cond.fieldLink RX0 27 "SandcastleLeague$Shore" "points" "[I", Cond.methodLink RX1 40 yX1_beginRound, Cond.instanceMethod yX1_beginRound, Cond.selects RX1 yX1_beginRound yX1_beginRound, Cond.initialized RX1, Cond.code yX1_beginRound cX1_beginRound 1 none, Cond.methodLink RX1 209 yX0_begin, Cond.instanceMethod yX0_begin, Cond.selects RX0 yX0_begin yX0_begin, Cond.code yX0_begin cX0_begin 1 none, Cond.fieldLink RX0 39 "SandcastleLeague$Shore" "lostSand" "I", Cond.fieldLink RX0 43 "SandcastleLeague$Shore" "slides" "I", Cond.fieldLink RX0 46 "SandcastleLeague$Shore" "fallenSticks" "I", Cond.methodLink RX0 30 yJ7_fill_53178, Cond.static yJ7_fill_53178, Cond.initialized RJ7, Cond.code yJ7_fill_53178 cJ7_fill_53178 4 none, Cond.methodLink RX0 36 yX0_clearSticks, Cond.instanceMethod yX0_clearSticks, Cond.selects RX0 yX0_clearSticks yX0_clearSticks]
def wsX1_init_r3 : List Cond := [Cond.code yX0_clearSticks cX0_clearSticks 1 none, Cond.methodLink RX1 163 yJ7_fill_53178]
def wsX1_init : List Cond := .code yX1_init cX1_init 1 none :: ((wsX1_init_r1 ++ (wsX1_init_r2 ++ wsX1_init_r3)) ++ wsX00 ++ wsX10)
def wsX1_addTeam : List Cond := .code yX1_addTeam cX1_addTeam 1 (some .int) :: ([.classLink RX1 47 "java/lang/IllegalStateException", .initialized "java/lang/IllegalStateException", .fieldLink RX1 43 "SandcastleLeague" "teams" "I"] ++ wsX10 ++ (vx_atS RX1 51 "java/lang/IllegalStateException" ["java/lang/RuntimeException", "java/lang/Exception"]).filter goodWord)
def wsX1_requireLevel : List Cond := .code yX1_requireLevel cX1_requireLevel 1 none :: ([.classLink RX1 230 "java/lang/IllegalArgumentException", .initialized "java/lang/IllegalArgumentException"] ++ (vx_atS RX1 234 "java/lang/IllegalArgumentException" ["java/lang/RuntimeException", "java/lang/Exception"]).filter goodWord)
def wsX1_setTide : List Cond := .code yX1_setTide cX1_setTide 4 (some .int) :: ([.classLink RX1 54 "java/lang/IndexOutOfBoundsException", .initialized "java/lang/IndexOutOfBoundsException", .fieldLink RX1 28 "SandcastleLeague" "tides" "[I", .methodLink RX1 59 yX1_requireLevel, .static yX1_requireLevel, .initialized RX1, .code yX1_requireLevel cX1_requireLevel 1 none, .classLink RX1 230 "java/lang/IllegalArgumentException", .initialized "java/lang/IllegalArgumentException"] ++ wsX10 ++ (vx_atS RX1 58 "java/lang/IndexOutOfBoundsException" ["java/lang/RuntimeException", "java/lang/Exception"]).filter goodWord ++ (vx_atS RX1 234 "java/lang/IllegalArgumentException" ["java/lang/RuntimeException", "java/lang/Exception"]).filter goodWord)
def wsX1_requireTeam : List Cond := .code yX1_requireTeam cX1_requireTeam 2 none :: ([.classLink RX1 54 "java/lang/IndexOutOfBoundsException", .initialized "java/lang/IndexOutOfBoundsException", .fieldLink RX1 43 "SandcastleLeague" "teams" "I"] ++ wsX10 ++ (vx_atS RX1 58 "java/lang/IndexOutOfBoundsException" ["java/lang/RuntimeException", "java/lang/Exception"]).filter goodWord)
def wsX1_isOnBeach : List Cond := .code yX1_isOnBeach cX1_isOnBeach 2 (some .boolean) :: ([])
def wsX1_cellAt : List Cond := .code yX1_cellAt cX1_cellAt 2 (some .int) :: ([])
def wsX1_requireArea : List Cond := .code yX1_requireArea cX1_requireArea 3 none :: ([.classLink RX1 230 "java/lang/IllegalArgumentException", .initialized "java/lang/IllegalArgumentException", .methodLink RX1 223 yX1_isOnBeach, .static yX1_isOnBeach, .initialized RX1, .code yX1_isOnBeach cX1_isOnBeach 2 (some .boolean), .methodLink RX1 76 yX1_cellAt, .static yX1_cellAt, .code yX1_cellAt cX1_cellAt 2 (some .int), .methodLink RX1 190 yX1_isInArea, .static yX1_isInArea, .code yX1_isInArea cX1_isInArea 2 (some .boolean)] ++ (vx_atS RX1 234 "java/lang/IllegalArgumentException" ["java/lang/RuntimeException", "java/lang/Exception"]).filter goodWord)
def wsX1_requireAmount : List Cond := .code yX1_requireAmount cX1_requireAmount 1 none :: ([.classLink RX1 230 "java/lang/IllegalArgumentException", .initialized "java/lang/IllegalArgumentException"] ++ (vx_atS RX1 234 "java/lang/IllegalArgumentException" ["java/lang/RuntimeException", "java/lang/Exception"]).filter goodWord)
def wsX1_requireStrength : List Cond := .code yX1_requireStrength cX1_requireStrength 2 none :: ([.classLink RX1 47 "java/lang/IllegalStateException", .initialized "java/lang/IllegalStateException", .fieldLink RX1 34 "SandcastleLeague" "strength" "[I"] ++ wsX10 ++ (vx_atS RX1 51 "java/lang/IllegalStateException" ["java/lang/RuntimeException", "java/lang/Exception"]).filter goodWord)
def wsX1_dig_r1 : List Cond := [Cond.fieldLink RX1 34 "SandcastleLeague" "strength" "[I", Cond.fieldLink RX1 10 "SandcastleLeague" "shore" "LSandcastleLeague$Shore;", Cond.fieldLink RX1 31 "SandcastleLeague" "bucket" "[I", Cond.methodLink RX1 80 Lib.Math.min.name, Cond.static Lib.Math.min.name, Cond.initialized "java/lang/Math", Cond.code Lib.Math.min.name Lib.Math.min.code 2 (some .int), Cond.methodLink RX1 63 yX1_requireTeam, Cond.instanceMethod yX1_requireTeam, Cond.selects RX1 yX1_requireTeam yX1_requireTeam, Cond.initialized RX1, Cond.code yX1_requireTeam cX1_requireTeam 2 none, Cond.classLink RX1 54 "java/lang/IndexOutOfBoundsException", Cond.initialized "java/lang/IndexOutOfBoundsException", Cond.fieldLink RX1 43 "SandcastleLeague" "teams" "I", Cond.methodLink RX1 66 yX1_requireArea, Cond.static yX1_requireArea, Cond.code yX1_requireArea cX1_requireArea 3 none, Cond.classLink RX1 230 "java/lang/IllegalArgumentException", Cond.initialized "java/lang/IllegalArgumentException", Cond.methodLink RX1 223 yX1_isOnBeach, Cond.static yX1_isOnBeach, Cond.code yX1_isOnBeach cX1_isOnBeach 2 (some .boolean), Cond.methodLink RX1 76 yX1_cellAt]
def wsX1_dig_r2 : List Cond := [Cond.static yX1_cellAt, Cond.code yX1_cellAt cX1_cellAt 2 (some .int), Cond.methodLink RX1 190 yX1_isInArea, Cond.static yX1_isInArea, Cond.code yX1_isInArea cX1_isInArea 2 (some .boolean), Cond.methodLink RX1 70 yX1_requireAmount, Cond.static yX1_requireAmount, Cond.code yX1_requireAmount cX1_requireAmount 1 none, Cond.methodLink RX1 73 yX1_requireStrength, Cond.instanceMethod yX1_requireStrength, Cond.selects RX1 yX1_requireStrength yX1_requireStrength, Cond.code yX1_requireStrength cX1_requireStrength 2 none, Cond.classLink RX1 47 "java/lang/IllegalStateException", Cond.initialized "java/lang/IllegalStateException", Cond.methodLink RX1 85 yX0_takeSand, Cond.instanceMethod yX0_takeSand, Cond.selects RX0 yX0_takeSand yX0_takeSand, Cond.initialized RX0, Cond.code yX0_takeSand cX0_takeSand 4 (some .int), Cond.fieldLink RX0 9 "SandcastleLeague$Shore" "sand" "[I", Cond.methodLink RX0 55 Lib.Math.min.name, Cond.fieldLink RX0 15 "SandcastleLeague$Shore" "firmness" "[I"]
def wsX1_dig : List Cond := .code yX1_dig cX1_dig 6 (some .int) :: ((wsX1_dig_r1 ++ wsX1_dig_r2) ++ wsX10 ++ wsX00 ++ (vx_atS RX1 58 "java/lang/IndexOutOfBoundsException" ["java/lang/RuntimeException", "java/lang/Exception"]).filter goodWord ++ (vx_atS RX1 234 "java/lang/IllegalArgumentException" ["java/lang/RuntimeException", "java/lang/Exception"]).filter goodWord ++ (vx_atS RX1 51 "java/lang/IllegalStateException" ["java/lang/RuntimeException", "java/lang/Exception"]).filter goodWord)
def wsX1_pile_r1 : List Cond := [Cond.fieldLink RX1 34 "SandcastleLeague" "strength" "[I", Cond.fieldLink RX1 10 "SandcastleLeague" "shore" "LSandcastleLeague$Shore;", Cond.fieldLink RX1 31 "SandcastleLeague" "bucket" "[I", Cond.methodLink RX1 80 Lib.Math.min.name, Cond.static Lib.Math.min.name, Cond.initialized "java/lang/Math", Cond.code Lib.Math.min.name Lib.Math.min.code 2 (some .int), Cond.methodLink RX1 63 yX1_requireTeam, Cond.instanceMethod yX1_requireTeam, Cond.selects RX1 yX1_requireTeam yX1_requireTeam, Cond.initialized RX1, Cond.code yX1_requireTeam cX1_requireTeam 2 none, Cond.classLink RX1 54 "java/lang/IndexOutOfBoundsException", Cond.initialized "java/lang/IndexOutOfBoundsException", Cond.fieldLink RX1 43 "SandcastleLeague" "teams" "I", Cond.methodLink RX1 66 yX1_requireArea, Cond.static yX1_requireArea, Cond.code yX1_requireArea cX1_requireArea 3 none, Cond.classLink RX1 230 "java/lang/IllegalArgumentException", Cond.initialized "java/lang/IllegalArgumentException", Cond.methodLink RX1 223 yX1_isOnBeach, Cond.static yX1_isOnBeach, Cond.code yX1_isOnBeach cX1_isOnBeach 2 (some .boolean), Cond.methodLink RX1 76 yX1_cellAt]
def wsX1_pile_r2 : List Cond := [Cond.static yX1_cellAt, Cond.code yX1_cellAt cX1_cellAt 2 (some .int), Cond.methodLink RX1 190 yX1_isInArea, Cond.static yX1_isInArea, Cond.code yX1_isInArea cX1_isInArea 2 (some .boolean), Cond.methodLink RX1 70 yX1_requireAmount, Cond.static yX1_requireAmount, Cond.code yX1_requireAmount cX1_requireAmount 1 none, Cond.methodLink RX1 73 yX1_requireStrength, Cond.instanceMethod yX1_requireStrength, Cond.selects RX1 yX1_requireStrength yX1_requireStrength, Cond.code yX1_requireStrength cX1_requireStrength 2 none, Cond.classLink RX1 47 "java/lang/IllegalStateException", Cond.initialized "java/lang/IllegalStateException", Cond.methodLink RX1 88 yX0_putSand, Cond.instanceMethod yX0_putSand, Cond.selects RX0 yX0_putSand yX0_putSand, Cond.initialized RX0, Cond.code yX0_putSand cX0_putSand 4 (some .int), Cond.fieldLink RX0 9 "SandcastleLeague$Shore" "sand" "[I", Cond.methodLink RX0 55 Lib.Math.min.name, Cond.methodLink RX0 61 yX0_soften, Cond.instanceMethod yX0_soften, Cond.selects RX0 yX0_soften yX0_soften]
def wsX1_pile_r3 : List Cond := [Cond.code yX0_soften cX0_soften 2 none, Cond.fieldLink RX0 15 "SandcastleLeague$Shore" "firmness" "[I"]
def wsX1_pile : List Cond := .code yX1_pile cX1_pile 6 (some .int) :: ((wsX1_pile_r1 ++ (wsX1_pile_r2 ++ wsX1_pile_r3)) ++ wsX10 ++ wsX00 ++ (vx_atS RX1 58 "java/lang/IndexOutOfBoundsException" ["java/lang/RuntimeException", "java/lang/Exception"]).filter goodWord ++ (vx_atS RX1 234 "java/lang/IllegalArgumentException" ["java/lang/RuntimeException", "java/lang/Exception"]).filter goodWord ++ (vx_atS RX1 51 "java/lang/IllegalStateException" ["java/lang/RuntimeException", "java/lang/Exception"]).filter goodWord)
def wsX1_pack_r1 : List Cond := [Cond.fieldLink RX1 34 "SandcastleLeague" "strength" "[I", Cond.fieldLink RX1 10 "SandcastleLeague" "shore" "LSandcastleLeague$Shore;", Cond.methodLink RX1 63 yX1_requireTeam, Cond.instanceMethod yX1_requireTeam, Cond.selects RX1 yX1_requireTeam yX1_requireTeam, Cond.initialized RX1, Cond.code yX1_requireTeam cX1_requireTeam 2 none, Cond.classLink RX1 54 "java/lang/IndexOutOfBoundsException", Cond.initialized "java/lang/IndexOutOfBoundsException", Cond.fieldLink RX1 43 "SandcastleLeague" "teams" "I", Cond.methodLink RX1 66 yX1_requireArea, Cond.static yX1_requireArea, Cond.code yX1_requireArea cX1_requireArea 3 none, Cond.classLink RX1 230 "java/lang/IllegalArgumentException", Cond.initialized "java/lang/IllegalArgumentException", Cond.methodLink RX1 223 yX1_isOnBeach, Cond.static yX1_isOnBeach, Cond.code yX1_isOnBeach cX1_isOnBeach 2 (some .boolean), Cond.methodLink RX1 76 yX1_cellAt, Cond.static yX1_cellAt, Cond.code yX1_cellAt cX1_cellAt 2 (some .int), Cond.methodLink RX1 190 yX1_isInArea, Cond.static yX1_isInArea, Cond.code yX1_isInArea cX1_isInArea 2 (some .boolean)]
def wsX1_pack_r2 : List Cond := [Cond.methodLink RX1 73 yX1_requireStrength, Cond.instanceMethod yX1_requireStrength, Cond.selects RX1 yX1_requireStrength yX1_requireStrength, Cond.code yX1_requireStrength cX1_requireStrength 2 none, Cond.classLink RX1 47 "java/lang/IllegalStateException", Cond.initialized "java/lang/IllegalStateException", Cond.methodLink RX1 91 yX0_harden, Cond.instanceMethod yX0_harden, Cond.selects RX0 yX0_harden yX0_harden, Cond.initialized RX0, Cond.code yX0_harden cX0_harden 2 (some .int), Cond.fieldLink RX0 9 "SandcastleLeague$Shore" "sand" "[I", Cond.fieldLink RX0 15 "SandcastleLeague$Shore" "firmness" "[I", Cond.methodLink RX0 65 yX0_isWet, Cond.instanceMethod yX0_isWet, Cond.selects RX0 yX0_isWet yX0_isWet, Cond.code yX0_isWet cX0_isWet 2 (some .boolean), Cond.fieldLink RX0 18 "SandcastleLeague$Shore" "water" "[I"]
def wsX1_pack : List Cond := .code yX1_pack cX1_pack 4 (some .int) :: ((wsX1_pack_r1 ++ wsX1_pack_r2) ++ wsX10 ++ wsX00 ++ (vx_atS RX1 58 "java/lang/IndexOutOfBoundsException" ["java/lang/RuntimeException", "java/lang/Exception"]).filter goodWord ++ (vx_atS RX1 234 "java/lang/IllegalArgumentException" ["java/lang/RuntimeException", "java/lang/Exception"]).filter goodWord ++ (vx_atS RX1 51 "java/lang/IllegalStateException" ["java/lang/RuntimeException", "java/lang/Exception"]).filter goodWord)
def wsX1_plant_r1 : List Cond := [Cond.classLink RX1 47 "java/lang/IllegalStateException", Cond.initialized "java/lang/IllegalStateException", Cond.fieldLink RX1 10 "SandcastleLeague" "shore" "LSandcastleLeague$Shore;", Cond.fieldLink RX1 34 "SandcastleLeague" "strength" "[I", Cond.methodLink RX1 63 yX1_requireTeam, Cond.instanceMethod yX1_requireTeam, Cond.selects RX1 yX1_requireTeam yX1_requireTeam, Cond.initialized RX1, Cond.code yX1_requireTeam cX1_requireTeam 2 none, Cond.classLink RX1 54 "java/lang/IndexOutOfBoundsException", Cond.initialized "java/lang/IndexOutOfBoundsException", Cond.fieldLink RX1 43 "SandcastleLeague" "teams" "I", Cond.methodLink RX1 66 yX1_requireArea, Cond.static yX1_requireArea, Cond.code yX1_requireArea cX1_requireArea 3 none, Cond.classLink RX1 230 "java/lang/IllegalArgumentException", Cond.initialized "java/lang/IllegalArgumentException", Cond.methodLink RX1 223 yX1_isOnBeach, Cond.static yX1_isOnBeach, Cond.code yX1_isOnBeach cX1_isOnBeach 2 (some .boolean), Cond.methodLink RX1 76 yX1_cellAt, Cond.static yX1_cellAt, Cond.code yX1_cellAt cX1_cellAt 2 (some .int), Cond.methodLink RX1 190 yX1_isInArea]
def wsX1_plant_r2 : List Cond := [Cond.static yX1_isInArea, Cond.code yX1_isInArea cX1_isInArea 2 (some .boolean), Cond.methodLink RX1 73 yX1_requireStrength, Cond.instanceMethod yX1_requireStrength, Cond.selects RX1 yX1_requireStrength yX1_requireStrength, Cond.code yX1_requireStrength cX1_requireStrength 2 none, Cond.methodLink RX1 95 yX0_sticksOf, Cond.instanceMethod yX0_sticksOf, Cond.selects RX0 yX0_sticksOf yX0_sticksOf, Cond.initialized RX0, Cond.code yX0_sticksOf cX0_sticksOf 4 (some .int), Cond.fieldLink RX0 21 "SandcastleLeague$Shore" "owner" "[I", Cond.methodLink RX1 100 yX0_isFree, Cond.instanceMethod yX0_isFree, Cond.selects RX0 yX0_isFree yX0_isFree, Cond.code yX0_isFree cX0_isFree 2 (some .boolean), Cond.methodLink RX0 108 yX0_hasStick, Cond.instanceMethod yX0_hasStick, Cond.selects RX0 yX0_hasStick yX0_hasStick, Cond.code yX0_hasStick cX0_hasStick 2 (some .boolean), Cond.methodLink RX0 65 yX0_isWet, Cond.instanceMethod yX0_isWet, Cond.selects RX0 yX0_isWet yX0_isWet, Cond.code yX0_isWet cX0_isWet 2 (some .boolean)]
def wsX1_plant_r3 : List Cond := [Cond.fieldLink RX0 18 "SandcastleLeague$Shore" "water" "[I", Cond.methodLink RX1 106 yX0_putStick, Cond.instanceMethod yX0_putStick, Cond.selects RX0 yX0_putStick yX0_putStick, Cond.code yX0_putStick cX0_putStick 3 none, Cond.fieldLink RX0 24 "SandcastleLeague$Shore" "plantedHeight" "[I", Cond.methodLink RX0 69 yX0_height, Cond.instanceMethod yX0_height, Cond.selects RX0 yX0_height yX0_height, Cond.code yX0_height cX0_height 2 (some .int), Cond.fieldLink RX0 9 "SandcastleLeague$Shore" "sand" "[I"]
def wsX1_plant : List Cond := .code yX1_plant cX1_plant 4 (some .int) :: ((wsX1_plant_r1 ++ (wsX1_plant_r2 ++ wsX1_plant_r3)) ++ wsX10 ++ wsX00 ++ (vx_atS RX1 51 "java/lang/IllegalStateException" ["java/lang/RuntimeException", "java/lang/Exception"]).filter goodWord ++ (vx_atS RX1 58 "java/lang/IndexOutOfBoundsException" ["java/lang/RuntimeException", "java/lang/Exception"]).filter goodWord ++ (vx_atS RX1 234 "java/lang/IllegalArgumentException" ["java/lang/RuntimeException", "java/lang/Exception"]).filter goodWord)
def wsX1_requireCell : List Cond := .code yX1_requireCell cX1_requireCell 2 none :: ([.classLink RX1 54 "java/lang/IndexOutOfBoundsException", .initialized "java/lang/IndexOutOfBoundsException", .methodLink RX1 223 yX1_isOnBeach, .static yX1_isOnBeach, .initialized RX1, .code yX1_isOnBeach cX1_isOnBeach 2 (some .boolean)] ++ (vx_atS RX1 58 "java/lang/IndexOutOfBoundsException" ["java/lang/RuntimeException", "java/lang/Exception"]).filter goodWord)
def wsX1_requireWhat : List Cond := .code yX1_requireWhat cX1_requireWhat 2 none :: ([.classLink RX1 54 "java/lang/IndexOutOfBoundsException", .initialized "java/lang/IndexOutOfBoundsException"] ++ (vx_atS RX1 58 "java/lang/IndexOutOfBoundsException" ["java/lang/RuntimeException", "java/lang/Exception"]).filter goodWord)
def wsX1_cell_r1 : List Cond := [Cond.fieldLink RX1 10 "SandcastleLeague" "shore" "LSandcastleLeague$Shore;", Cond.methodLink RX1 110 yX1_requireCell, Cond.static yX1_requireCell, Cond.initialized RX1, Cond.code yX1_requireCell cX1_requireCell 2 none, Cond.classLink RX1 54 "java/lang/IndexOutOfBoundsException", Cond.initialized "java/lang/IndexOutOfBoundsException", Cond.methodLink RX1 223 yX1_isOnBeach, Cond.static yX1_isOnBeach, Cond.code yX1_isOnBeach cX1_isOnBeach 2 (some .boolean), Cond.methodLink RX1 113 yX1_requireWhat, Cond.static yX1_requireWhat, Cond.code yX1_requireWhat cX1_requireWhat 2 none, Cond.methodLink RX1 76 yX1_cellAt, Cond.static yX1_cellAt, Cond.code yX1_cellAt cX1_cellAt 2 (some .int), Cond.methodLink RX1 116 yX0_tellCell, Cond.instanceMethod yX0_tellCell, Cond.selects RX0 yX0_tellCell yX0_tellCell, Cond.initialized RX0, Cond.code yX0_tellCell cX0_tellCell 3 (some .int), Cond.fieldLink RX0 9 "SandcastleLeague$Shore" "sand" "[I", Cond.fieldLink RX0 15 "SandcastleLeague$Shore" "firmness" "[I", Cond.fieldLink RX0 18 "SandcastleLeague$Shore" "water" "[I"]
def wsX1_cell_r2 : List Cond := [Cond.fieldLink RX0 24 "SandcastleLeague$Shore" "plantedHeight" "[I", Cond.methodLink RX0 69 yX0_height, Cond.instanceMethod yX0_height, Cond.selects RX0 yX0_height yX0_height, Cond.code yX0_height cX0_height 2 (some .int), Cond.methodLink RX0 108 yX0_hasStick, Cond.instanceMethod yX0_hasStick, Cond.selects RX0 yX0_hasStick yX0_hasStick, Cond.code yX0_hasStick cX0_hasStick 2 (some .boolean), Cond.fieldLink RX0 21 "SandcastleLeague$Shore" "owner" "[I"]
def wsX1_cell : List Cond := .code yX1_cell cX1_cell 4 (some .int) :: ((wsX1_cell_r1 ++ wsX1_cell_r2) ++ wsX10 ++ wsX00 ++ (vx_atS RX1 58 "java/lang/IndexOutOfBoundsException" ["java/lang/RuntimeException", "java/lang/Exception"]).filter goodWord)
def wsX1_team_r1 : List Cond := [Cond.fieldLink RX1 31 "SandcastleLeague" "bucket" "[I", Cond.fieldLink RX1 34 "SandcastleLeague" "strength" "[I", Cond.fieldLink RX1 10 "SandcastleLeague" "shore" "LSandcastleLeague$Shore;", Cond.fieldLink RX1 37 "SandcastleLeague" "leaguePoints" "[I", Cond.methodLink RX1 63 yX1_requireTeam, Cond.instanceMethod yX1_requireTeam, Cond.selects RX1 yX1_requireTeam yX1_requireTeam, Cond.initialized RX1, Cond.code yX1_requireTeam cX1_requireTeam 2 none, Cond.classLink RX1 54 "java/lang/IndexOutOfBoundsException", Cond.initialized "java/lang/IndexOutOfBoundsException", Cond.fieldLink RX1 43 "SandcastleLeague" "teams" "I", Cond.methodLink RX1 113 yX1_requireWhat, Cond.static yX1_requireWhat, Cond.code yX1_requireWhat cX1_requireWhat 2 none, Cond.methodLink RX1 119 yX0_pointsOf, Cond.instanceMethod yX0_pointsOf, Cond.selects RX0 yX0_pointsOf yX0_pointsOf, Cond.initialized RX0, Cond.code yX0_pointsOf cX0_pointsOf 2 (some .int), Cond.fieldLink RX0 27 "SandcastleLeague$Shore" "points" "[I", Cond.methodLink RX1 95 yX0_sticksOf, Cond.instanceMethod yX0_sticksOf, Cond.selects RX0 yX0_sticksOf yX0_sticksOf]
def wsX1_team_r2 : List Cond := [Cond.code yX0_sticksOf cX0_sticksOf 4 (some .int), Cond.fieldLink RX0 21 "SandcastleLeague$Shore" "owner" "[I", Cond.methodLink RX1 122 yX0_sandOfArea, Cond.instanceMethod yX0_sandOfArea, Cond.selects RX0 yX0_sandOfArea yX0_sandOfArea, Cond.code yX0_sandOfArea cX0_sandOfArea 2 (some .int), Cond.fieldLink RX0 9 "SandcastleLeague$Shore" "sand" "[I", Cond.methodLink RX0 111 yX0_sumOfArea, Cond.static yX0_sumOfArea, Cond.code yX0_sumOfArea cX0_sumOfArea 4 (some .int), Cond.static yX1_isInArea, Cond.code yX1_isInArea cX1_isInArea 2 (some .boolean), Cond.methodLink RX1 125 yX0_greatestHeightOfArea, Cond.instanceMethod yX0_greatestHeightOfArea, Cond.selects RX0 yX0_greatestHeightOfArea yX0_greatestHeightOfArea, Cond.code yX0_greatestHeightOfArea cX0_greatestHeightOfArea 4 (some .int), Cond.methodLink RX0 95 Lib.Math.max.name, Cond.static Lib.Math.max.name, Cond.initialized "java/lang/Math", Cond.code Lib.Math.max.name Lib.Math.max.code 2 (some .int), Cond.methodLink RX0 69 yX0_height, Cond.instanceMethod yX0_height, Cond.selects RX0 yX0_height yX0_height, Cond.code yX0_height cX0_height 2 (some .int)]
def wsX1_team_r3 : List Cond := [Cond.methodLink RX1 128 yX0_waterOfArea, Cond.instanceMethod yX0_waterOfArea, Cond.selects RX0 yX0_waterOfArea yX0_waterOfArea, Cond.code yX0_waterOfArea cX0_waterOfArea 2 (some .int), Cond.fieldLink RX0 18 "SandcastleLeague$Shore" "water" "[I"]
def wsX1_team : List Cond := .code yX1_team cX1_team 3 (some .int) :: ((wsX1_team_r1 ++ (wsX1_team_r2 ++ wsX1_team_r3)) ++ wsX10 ++ wsX00 ++ (vx_atS RX1 58 "java/lang/IndexOutOfBoundsException" ["java/lang/RuntimeException", "java/lang/Exception"]).filter goodWord)
def wsX1_count_r1 : List Cond := [Cond.fieldLink RX1 131 "SandcastleLeague" "hour" "I", Cond.fieldLink RX1 43 "SandcastleLeague" "teams" "I", Cond.fieldLink RX1 10 "SandcastleLeague" "shore" "LSandcastleLeague$Shore;", Cond.fieldLink RX1 153 "SandcastleLeague" "endedRounds" "I", Cond.methodLink RX1 113 yX1_requireWhat, Cond.static yX1_requireWhat, Cond.initialized RX1, Cond.code yX1_requireWhat cX1_requireWhat 2 none, Cond.classLink RX1 54 "java/lang/IndexOutOfBoundsException", Cond.initialized "java/lang/IndexOutOfBoundsException", Cond.methodLink RX1 134 yX0_allWater, Cond.instanceMethod yX0_allWater, Cond.selects RX0 yX0_allWater yX0_allWater, Cond.initialized RX0, Cond.code yX0_allWater cX0_allWater 1 (some .int), Cond.fieldLink RX0 18 "SandcastleLeague$Shore" "water" "[I", Cond.methodLink RX0 118 yX0_sum, Cond.static yX0_sum, Cond.code yX0_sum cX0_sum 6 (some .int), Cond.methodLink RX1 138 yX0_allSand, Cond.instanceMethod yX0_allSand, Cond.selects RX0 yX0_allSand yX0_allSand, Cond.code yX0_allSand cX0_allSand 1 (some .int), Cond.fieldLink RX0 9 "SandcastleLeague$Shore" "sand" "[I"]
def wsX1_count_r2 : List Cond := [Cond.methodLink RX1 147 yX0_allSticks, Cond.instanceMethod yX0_allSticks, Cond.selects RX0 yX0_allSticks yX0_allSticks, Cond.code yX0_allSticks cX0_allSticks 3 (some .int), Cond.methodLink RX0 108 yX0_hasStick, Cond.instanceMethod yX0_hasStick, Cond.selects RX0 yX0_hasStick yX0_hasStick, Cond.code yX0_hasStick cX0_hasStick 2 (some .boolean), Cond.fieldLink RX0 21 "SandcastleLeague$Shore" "owner" "[I"]
def wsX1_count : List Cond := .code yX1_count cX1_count 2 (some .int) :: ((wsX1_count_r1 ++ wsX1_count_r2) ++ wsX10 ++ wsX00 ++ (vx_atS RX1 58 "java/lang/IndexOutOfBoundsException" ["java/lang/RuntimeException", "java/lang/Exception"]).filter goodWord)
def wsX1_requireHours : List Cond := .code yX1_requireHours cX1_requireHours 2 none :: ([.classLink RX1 230 "java/lang/IllegalArgumentException", .initialized "java/lang/IllegalArgumentException"] ++ (vx_atS RX1 234 "java/lang/IllegalArgumentException" ["java/lang/RuntimeException", "java/lang/Exception"]).filter goodWord)
def wsJ9_floorMod_7cf53 : List Cond := .code yJ9_floorMod_7cf53 cJ9_floorMod_7cf53 3 (some .int) :: ([])
def wsX1_letHoursGoBy_r1 : List Cond := [Cond.fieldLink RX1 28 "SandcastleLeague" "tides" "[I", Cond.fieldLink RX1 131 "SandcastleLeague" "hour" "I", Cond.methodLink RX1 212 yJ9_floorMod_7cf53, Cond.static yJ9_floorMod_7cf53, Cond.initialized RJ9, Cond.code yJ9_floorMod_7cf53 cJ9_floorMod_7cf53 3 (some .int), Cond.methodLink RX1 215 yX0_letHourGoBy, Cond.instanceMethod yX0_letHourGoBy, Cond.selects RX0 yX0_letHourGoBy yX0_letHourGoBy, Cond.initialized RX0, Cond.code yX0_letHourGoBy cX0_letHourGoBy 2 none, Cond.fieldLink RX0 43 "SandcastleLeague$Shore" "slides" "I", Cond.methodLink RX0 73 yX0_findWater, Cond.instanceMethod yX0_findWater, Cond.selects RX0 yX0_findWater yX0_findWater, Cond.code yX0_findWater cX0_findWater 4 none, Cond.fieldLink RX0 18 "SandcastleLeague$Shore" "water" "[I", Cond.methodLink RX0 30 yJ7_fill_53178, Cond.static yJ7_fill_53178, Cond.initialized RJ7, Cond.code yJ7_fill_53178 cJ7_fill_53178 4 none, Cond.methodLink RX0 86 yX0_sweepWater, Cond.instanceMethod yX0_sweepWater, Cond.selects RX0 yX0_sweepWater yX0_sweepWater]
def wsX1_letHoursGoBy_r2 : List Cond := [Cond.code yX0_sweepWater cX0_sweepWater 4 (some .boolean), Cond.methodLink RX0 65 yX0_isWet, Cond.instanceMethod yX0_isWet, Cond.selects RX0 yX0_isWet yX0_isWet, Cond.code yX0_isWet cX0_isWet 2 (some .boolean), Cond.methodLink RX0 69 yX0_height, Cond.instanceMethod yX0_height, Cond.selects RX0 yX0_height yX0_height, Cond.code yX0_height cX0_height 2 (some .int), Cond.fieldLink RX0 9 "SandcastleLeague$Shore" "sand" "[I", Cond.methodLink RX0 89 yX0_isOpenToSea, Cond.instanceMethod yX0_isOpenToSea, Cond.selects RX0 yX0_isOpenToSea yX0_isOpenToSea, Cond.code yX0_isOpenToSea cX0_isOpenToSea 4 (some .boolean), Cond.methodLink RX0 92 yX0_beside, Cond.static yX0_beside, Cond.code yX0_beside cX0_beside 3 (some .int), Cond.methodLink RX0 76 yX0_washSandAway, Cond.instanceMethod yX0_washSandAway, Cond.selects RX0 yX0_washSandAway yX0_washSandAway, Cond.code yX0_washSandAway cX0_washSandAway 4 none, Cond.fieldLink RX0 15 "SandcastleLeague$Shore" "firmness" "[I", Cond.methodLink RX0 95 Lib.Math.max.name, Cond.static Lib.Math.max.name]
def wsX1_letHoursGoBy_r3 : List Cond := [Cond.initialized "java/lang/Math", Cond.code Lib.Math.max.name Lib.Math.max.code 2 (some .int), Cond.methodLink RX0 55 Lib.Math.min.name, Cond.static Lib.Math.min.name, Cond.code Lib.Math.min.name Lib.Math.min.code 2 (some .int), Cond.fieldLink RX0 39 "SandcastleLeague$Shore" "lostSand" "I", Cond.methodLink RX0 61 yX0_soften, Cond.instanceMethod yX0_soften, Cond.selects RX0 yX0_soften yX0_soften, Cond.code yX0_soften cX0_soften 2 none, Cond.methodLink RX0 79 yX0_letSandSlide, Cond.instanceMethod yX0_letSandSlide, Cond.selects RX0 yX0_letSandSlide yX0_letSandSlide, Cond.code yX0_letSandSlide cX0_letSandSlide 4 (some .int), Cond.methodLink RX0 98 yX0_slideOnce, Cond.instanceMethod yX0_slideOnce, Cond.selects RX0 yX0_slideOnce yX0_slideOnce, Cond.code yX0_slideOnce cX0_slideOnce 4 (some .int), Cond.methodLink RX0 101 yX0_lowestBeside, Cond.instanceMethod yX0_lowestBeside, Cond.selects RX0 yX0_lowestBeside yX0_lowestBeside, Cond.code yX0_lowestBeside cX0_lowestBeside 5 (some .int), Cond.methodLink RX0 104 yX0_slidesTo, Cond.instanceMethod yX0_slidesTo]
def wsX1_letHoursGoBy_r4 : List Cond := [Cond.selects RX0 yX0_slidesTo yX0_slidesTo, Cond.code yX0_slidesTo cX0_slidesTo 3 (some .boolean), Cond.methodLink RX0 83 yX0_judgeSticks, Cond.instanceMethod yX0_judgeSticks, Cond.selects RX0 yX0_judgeSticks yX0_judgeSticks, Cond.code yX0_judgeSticks cX0_judgeSticks 3 none, Cond.fieldLink RX0 21 "SandcastleLeague$Shore" "owner" "[I", Cond.fieldLink RX0 24 "SandcastleLeague$Shore" "plantedHeight" "[I", Cond.fieldLink RX0 46 "SandcastleLeague$Shore" "fallenSticks" "I", Cond.fieldLink RX0 27 "SandcastleLeague$Shore" "points" "[I"]
def wsX1_letHoursGoBy : List Cond := .code yX1_letHoursGoBy cX1_letHoursGoBy 4 none :: ((wsX1_letHoursGoBy_r1 ++ (wsX1_letHoursGoBy_r2 ++ (wsX1_letHoursGoBy_r3 ++ wsX1_letHoursGoBy_r4))) ++ wsX10 ++ wsX00)
def wsX1_pass_r1 : List Cond := [Cond.fieldLink RX1 10 "SandcastleLeague" "shore" "LSandcastleLeague$Shore;", Cond.fieldLink RX1 131 "SandcastleLeague" "hour" "I", Cond.fieldLink RX1 34 "SandcastleLeague" "strength" "[I", Cond.methodLink RX1 156 yX1_requireHours, Cond.static yX1_requireHours, Cond.initialized RX1, Cond.code yX1_requireHours cX1_requireHours 2 none, Cond.classLink RX1 230 "java/lang/IllegalArgumentException", Cond.initialized "java/lang/IllegalArgumentException", Cond.methodLink RX1 159 yX1_letHoursGoBy, Cond.instanceMethod yX1_letHoursGoBy, Cond.selects RX1 yX1_letHoursGoBy yX1_letHoursGoBy, Cond.code yX1_letHoursGoBy cX1_letHoursGoBy 4 none, Cond.fieldLink RX1 28 "SandcastleLeague" "tides" "[I", Cond.methodLink RX1 212 yJ9_floorMod_7cf53, Cond.static yJ9_floorMod_7cf53, Cond.initialized RJ9, Cond.code yJ9_floorMod_7cf53 cJ9_floorMod_7cf53 3 (some .int), Cond.methodLink RX1 215 yX0_letHourGoBy, Cond.instanceMethod yX0_letHourGoBy, Cond.selects RX0 yX0_letHourGoBy yX0_letHourGoBy, Cond.initialized RX0, Cond.code yX0_letHourGoBy cX0_letHourGoBy 2 none, Cond.fieldLink RX0 43 "SandcastleLeague$Shore" "slides" "I"]
def wsX1_pass_r2 : List Cond := [Cond.methodLink RX0 73 yX0_findWater, Cond.instanceMethod yX0_findWater, Cond.selects RX0 yX0_findWater yX0_findWater, Cond.code yX0_findWater cX0_findWater 4 none, Cond.fieldLink RX0 18 "SandcastleLeague$Shore" "water" "[I", Cond.methodLink RX0 30 yJ7_fill_53178, Cond.static yJ7_fill_53178, Cond.initialized RJ7, Cond.code yJ7_fill_53178 cJ7_fill_53178 4 none, Cond.methodLink RX0 86 yX0_sweepWater, Cond.instanceMethod yX0_sweepWater, Cond.selects RX0 yX0_sweepWater yX0_sweepWater, Cond.code yX0_sweepWater cX0_sweepWater 4 (some .boolean), Cond.methodLink RX0 65 yX0_isWet, Cond.instanceMethod yX0_isWet, Cond.selects RX0 yX0_isWet yX0_isWet, Cond.code yX0_isWet cX0_isWet 2 (some .boolean), Cond.methodLink RX0 69 yX0_height, Cond.instanceMethod yX0_height, Cond.selects RX0 yX0_height yX0_height, Cond.code yX0_height cX0_height 2 (some .int), Cond.fieldLink RX0 9 "SandcastleLeague$Shore" "sand" "[I", Cond.methodLink RX0 89 yX0_isOpenToSea, Cond.instanceMethod yX0_isOpenToSea]
def wsX1_pass_r3 : List Cond := [Cond.selects RX0 yX0_isOpenToSea yX0_isOpenToSea, Cond.code yX0_isOpenToSea cX0_isOpenToSea 4 (some .boolean), Cond.methodLink RX0 92 yX0_beside, Cond.static yX0_beside, Cond.code yX0_beside cX0_beside 3 (some .int), Cond.methodLink RX0 76 yX0_washSandAway, Cond.instanceMethod yX0_washSandAway, Cond.selects RX0 yX0_washSandAway yX0_washSandAway, Cond.code yX0_washSandAway cX0_washSandAway 4 none, Cond.fieldLink RX0 15 "SandcastleLeague$Shore" "firmness" "[I", Cond.methodLink RX0 95 Lib.Math.max.name, Cond.static Lib.Math.max.name, Cond.initialized "java/lang/Math", Cond.code Lib.Math.max.name Lib.Math.max.code 2 (some .int), Cond.methodLink RX0 55 Lib.Math.min.name, Cond.static Lib.Math.min.name, Cond.code Lib.Math.min.name Lib.Math.min.code 2 (some .int), Cond.fieldLink RX0 39 "SandcastleLeague$Shore" "lostSand" "I", Cond.methodLink RX0 61 yX0_soften, Cond.instanceMethod yX0_soften, Cond.selects RX0 yX0_soften yX0_soften, Cond.code yX0_soften cX0_soften 2 none, Cond.methodLink RX0 79 yX0_letSandSlide, Cond.instanceMethod yX0_letSandSlide]
def wsX1_pass_r4 : List Cond := [Cond.selects RX0 yX0_letSandSlide yX0_letSandSlide, Cond.code yX0_letSandSlide cX0_letSandSlide 4 (some .int), Cond.methodLink RX0 98 yX0_slideOnce, Cond.instanceMethod yX0_slideOnce, Cond.selects RX0 yX0_slideOnce yX0_slideOnce, Cond.code yX0_slideOnce cX0_slideOnce 4 (some .int), Cond.methodLink RX0 101 yX0_lowestBeside, Cond.instanceMethod yX0_lowestBeside, Cond.selects RX0 yX0_lowestBeside yX0_lowestBeside, Cond.code yX0_lowestBeside cX0_lowestBeside 5 (some .int), Cond.methodLink RX0 104 yX0_slidesTo, Cond.instanceMethod yX0_slidesTo, Cond.selects RX0 yX0_slidesTo yX0_slidesTo, Cond.code yX0_slidesTo cX0_slidesTo 3 (some .boolean), Cond.methodLink RX0 83 yX0_judgeSticks, Cond.instanceMethod yX0_judgeSticks, Cond.selects RX0 yX0_judgeSticks yX0_judgeSticks, Cond.code yX0_judgeSticks cX0_judgeSticks 3 none, Cond.fieldLink RX0 21 "SandcastleLeague$Shore" "owner" "[I", Cond.fieldLink RX0 24 "SandcastleLeague$Shore" "plantedHeight" "[I", Cond.fieldLink RX0 46 "SandcastleLeague$Shore" "fallenSticks" "I", Cond.fieldLink RX0 27 "SandcastleLeague$Shore" "points" "[I", Cond.methodLink RX1 163 yJ7_fill_53178]
def wsX1_pass : List Cond := .code yX1_pass cX1_pass 3 (some .int) :: ((wsX1_pass_r1 ++ (wsX1_pass_r2 ++ (wsX1_pass_r3 ++ wsX1_pass_r4))) ++ wsX10 ++ wsX00 ++ (vx_atS RX1 234 "java/lang/IllegalArgumentException" ["java/lang/RuntimeException", "java/lang/Exception"]).filter goodWord)
def wsX1_teamsWithFewerPoints : List Cond := .code yX1_teamsWithFewerPoints cX1_teamsWithFewerPoints 4 (some .int) :: ([.fieldLink RX1 43 "SandcastleLeague" "teams" "I", .fieldLink RX1 10 "SandcastleLeague" "shore" "LSandcastleLeague$Shore;", .methodLink RX1 119 yX0_pointsOf, .instanceMethod yX0_pointsOf, .selects RX0 yX0_pointsOf yX0_pointsOf, .initialized RX0, .code yX0_pointsOf cX0_pointsOf 2 (some .int), .fieldLink RX0 27 "SandcastleLeague$Shore" "points" "[I"] ++ wsX10 ++ wsX00)
def wsX1_endRound_r1 : List Cond := [Cond.fieldLink RX1 43 "SandcastleLeague" "teams" "I", Cond.fieldLink RX1 37 "SandcastleLeague" "leaguePoints" "[I", Cond.fieldLink RX1 153 "SandcastleLeague" "endedRounds" "I", Cond.methodLink RX1 169 yX1_teamsWithFewerPoints, Cond.instanceMethod yX1_teamsWithFewerPoints, Cond.selects RX1 yX1_teamsWithFewerPoints yX1_teamsWithFewerPoints, Cond.initialized RX1, Cond.code yX1_teamsWithFewerPoints cX1_teamsWithFewerPoints 4 (some .int), Cond.fieldLink RX1 10 "SandcastleLeague" "shore" "LSandcastleLeague$Shore;", Cond.methodLink RX1 119 yX0_pointsOf, Cond.instanceMethod yX0_pointsOf, Cond.selects RX0 yX0_pointsOf yX0_pointsOf, Cond.initialized RX0, Cond.code yX0_pointsOf cX0_pointsOf 2 (some .int), Cond.fieldLink RX0 27 "SandcastleLeague$Shore" "points" "[I", Cond.methodLink RX1 40 yX1_beginRound, Cond.instanceMethod yX1_beginRound, Cond.selects RX1 yX1_beginRound yX1_beginRound, Cond.code yX1_beginRound cX1_beginRound 1 none, Cond.fieldLink RX1 31 "SandcastleLeague" "bucket" "[I", Cond.fieldLink RX1 34 "SandcastleLeague" "strength" "[I", Cond.methodLink RX1 209 yX0_begin, Cond.instanceMethod yX0_begin, Cond.selects RX0 yX0_begin yX0_begin]
def wsX1_endRound_r2 : List Cond := [Cond.code yX0_begin cX0_begin 1 none, Cond.fieldLink RX0 9 "SandcastleLeague$Shore" "sand" "[I", Cond.fieldLink RX0 15 "SandcastleLeague$Shore" "firmness" "[I", Cond.fieldLink RX0 18 "SandcastleLeague$Shore" "water" "[I", Cond.fieldLink RX0 39 "SandcastleLeague$Shore" "lostSand" "I", Cond.fieldLink RX0 43 "SandcastleLeague$Shore" "slides" "I", Cond.fieldLink RX0 46 "SandcastleLeague$Shore" "fallenSticks" "I", Cond.methodLink RX0 30 yJ7_fill_53178, Cond.static yJ7_fill_53178, Cond.initialized RJ7, Cond.code yJ7_fill_53178 cJ7_fill_53178 4 none, Cond.methodLink RX0 36 yX0_clearSticks, Cond.instanceMethod yX0_clearSticks, Cond.selects RX0 yX0_clearSticks yX0_clearSticks, Cond.code yX0_clearSticks cX0_clearSticks 1 none, Cond.fieldLink RX0 21 "SandcastleLeague$Shore" "owner" "[I", Cond.fieldLink RX0 24 "SandcastleLeague$Shore" "plantedHeight" "[I", Cond.methodLink RX1 163 yJ7_fill_53178]
def wsX1_endRound : List Cond := .code yX1_endRound cX1_endRound 2 (some .int) :: ((wsX1_endRound_r1 ++ wsX1_endRound_r2) ++ wsX10 ++ wsX00)
def wsX1_isAhead : List Cond := .code yX1_isAhead cX1_isAhead 3 (some .boolean) :: ([.fieldLink RX1 37 "SandcastleLeague" "leaguePoints" "[I", .fieldLink RX1 10 "SandcastleLeague" "shore" "LSandcastleLeague$Shore;", .methodLink RX1 119 yX0_pointsOf, .instanceMethod yX0_pointsOf, .selects RX0 yX0_pointsOf yX0_pointsOf, .initialized RX0, .code yX0_pointsOf cX0_pointsOf 2 (some .int), .fieldLink RX0 27 "SandcastleLeague$Shore" "points" "[I"] ++ wsX10 ++ wsX00)
def wsX1_teamsAheadOf : List Cond := .code yX1_teamsAheadOf cX1_teamsAheadOf 4 (some .int) :: ([.fieldLink RX1 43 "SandcastleLeague" "teams" "I", .methodLink RX1 218 yX1_isAhead, .instanceMethod yX1_isAhead, .selects RX1 yX1_isAhead yX1_isAhead, .initialized RX1, .code yX1_isAhead cX1_isAhead 3 (some .boolean), .fieldLink RX1 37 "SandcastleLeague" "leaguePoints" "[I", .fieldLink RX1 10 "SandcastleLeague" "shore" "LSandcastleLeague$Shore;", .methodLink RX1 119 yX0_pointsOf, .instanceMethod yX0_pointsOf, .selects RX0 yX0_pointsOf yX0_pointsOf, .initialized RX0, .code yX0_pointsOf cX0_pointsOf 2 (some .int), .fieldLink RX0 27 "SandcastleLeague$Shore" "points" "[I"] ++ wsX10 ++ wsX00)
def wsX1_leader : List Cond := .code yX1_leader cX1_leader 4 (some .int) :: ([.classLink RX1 54 "java/lang/IndexOutOfBoundsException", .initialized "java/lang/IndexOutOfBoundsException", .fieldLink RX1 43 "SandcastleLeague" "teams" "I", .methodLink RX1 174 yX1_teamsAheadOf, .instanceMethod yX1_teamsAheadOf, .selects RX1 yX1_teamsAheadOf yX1_teamsAheadOf, .initialized RX1, .code yX1_teamsAheadOf cX1_teamsAheadOf 4 (some .int), .methodLink RX1 218 yX1_isAhead, .instanceMethod yX1_isAhead, .selects RX1 yX1_isAhead yX1_isAhead, .code yX1_isAhead cX1_isAhead 3 (some .boolean), .fieldLink RX1 37 "SandcastleLeague" "leaguePoints" "[I", .fieldLink RX1 10 "SandcastleLeague" "shore" "LSandcastleLeague$Shore;", .methodLink RX1 119 yX0_pointsOf, .instanceMethod yX0_pointsOf, .selects RX0 yX0_pointsOf yX0_pointsOf, .initialized RX0, .code yX0_pointsOf cX0_pointsOf 2 (some .int), .fieldLink RX0 27 "SandcastleLeague$Shore" "points" "[I"] ++ wsX10 ++ wsX00 ++ (vx_atS RX1 58 "java/lang/IndexOutOfBoundsException" ["java/lang/RuntimeException", "java/lang/Exception"]).filter goodWord)
def wsX1_flood_r1 : List Cond := [Cond.fieldLink RX1 16 "SandcastleLeague" "trial" "LSandcastleLeague$Shore;", Cond.fieldLink RX1 10 "SandcastleLeague" "shore" "LSandcastleLeague$Shore;", Cond.methodLink RX1 59 yX1_requireLevel, Cond.static yX1_requireLevel, Cond.initialized RX1, Cond.code yX1_requireLevel cX1_requireLevel 1 none, Cond.classLink RX1 230 "java/lang/IllegalArgumentException", Cond.initialized "java/lang/IllegalArgumentException", Cond.methodLink RX1 177 yX0_become, Cond.instanceMethod yX0_become, Cond.selects RX0 yX0_become yX0_become, Cond.initialized RX0, Cond.code yX0_become cX0_become 2 none, Cond.fieldLink RX0 9 "SandcastleLeague$Shore" "sand" "[I", Cond.methodLink RX0 49 arraycopyName, Cond.native arraycopyName, Cond.static arraycopyName, Cond.initialized "java/lang/System", Cond.fieldLink RX0 15 "SandcastleLeague$Shore" "firmness" "[I", Cond.fieldLink RX0 18 "SandcastleLeague$Shore" "water" "[I", Cond.fieldLink RX0 21 "SandcastleLeague$Shore" "owner" "[I", Cond.fieldLink RX0 24 "SandcastleLeague$Shore" "plantedHeight" "[I", Cond.fieldLink RX0 27 "SandcastleLeague$Shore" "points" "[I", Cond.fieldLink RX0 39 "SandcastleLeague$Shore" "lostSand" "I"]
def wsX1_flood_r2 : List Cond := [Cond.fieldLink RX0 43 "SandcastleLeague$Shore" "slides" "I", Cond.fieldLink RX0 46 "SandcastleLeague$Shore" "fallenSticks" "I", Cond.methodLink RX1 181 yX0_findWater, Cond.instanceMethod yX0_findWater, Cond.selects RX0 yX0_findWater yX0_findWater, Cond.code yX0_findWater cX0_findWater 4 none, Cond.methodLink RX0 30 yJ7_fill_53178, Cond.static yJ7_fill_53178, Cond.initialized RJ7, Cond.code yJ7_fill_53178 cJ7_fill_53178 4 none, Cond.methodLink RX0 86 yX0_sweepWater, Cond.instanceMethod yX0_sweepWater, Cond.selects RX0 yX0_sweepWater yX0_sweepWater, Cond.code yX0_sweepWater cX0_sweepWater 4 (some .boolean), Cond.methodLink RX0 65 yX0_isWet, Cond.instanceMethod yX0_isWet, Cond.selects RX0 yX0_isWet yX0_isWet, Cond.code yX0_isWet cX0_isWet 2 (some .boolean), Cond.methodLink RX0 69 yX0_height, Cond.instanceMethod yX0_height, Cond.selects RX0 yX0_height yX0_height, Cond.code yX0_height cX0_height 2 (some .int), Cond.methodLink RX0 89 yX0_isOpenToSea, Cond.instanceMethod yX0_isOpenToSea]
def wsX1_flood_r3 : List Cond := [Cond.selects RX0 yX0_isOpenToSea yX0_isOpenToSea, Cond.code yX0_isOpenToSea cX0_isOpenToSea 4 (some .boolean), Cond.methodLink RX0 92 yX0_beside, Cond.static yX0_beside, Cond.code yX0_beside cX0_beside 3 (some .int), Cond.methodLink RX1 134 yX0_allWater, Cond.instanceMethod yX0_allWater, Cond.selects RX0 yX0_allWater yX0_allWater, Cond.code yX0_allWater cX0_allWater 1 (some .int), Cond.methodLink RX0 118 yX0_sum, Cond.static yX0_sum, Cond.code yX0_sum cX0_sum 6 (some .int)]
def wsX1_flood : List Cond := .code yX1_flood cX1_flood 2 (some .int) :: ((wsX1_flood_r1 ++ (wsX1_flood_r2 ++ wsX1_flood_r3)) ++ wsX10 ++ wsX00 ++ (vx_atS RX1 234 "java/lang/IllegalArgumentException" ["java/lang/RuntimeException", "java/lang/Exception"]).filter goodWord)
def wsX1_reach_r1 : List Cond := [Cond.fieldLink RX1 16 "SandcastleLeague" "trial" "LSandcastleLeague$Shore;", Cond.fieldLink RX1 10 "SandcastleLeague" "shore" "LSandcastleLeague$Shore;", Cond.methodLink RX1 110 yX1_requireCell, Cond.static yX1_requireCell, Cond.initialized RX1, Cond.code yX1_requireCell cX1_requireCell 2 none, Cond.classLink RX1 54 "java/lang/IndexOutOfBoundsException", Cond.initialized "java/lang/IndexOutOfBoundsException", Cond.methodLink RX1 223 yX1_isOnBeach, Cond.static yX1_isOnBeach, Cond.code yX1_isOnBeach cX1_isOnBeach 2 (some .boolean), Cond.methodLink RX1 76 yX1_cellAt, Cond.static yX1_cellAt, Cond.code yX1_cellAt cX1_cellAt 2 (some .int), Cond.methodLink RX1 177 yX0_become, Cond.instanceMethod yX0_become, Cond.selects RX0 yX0_become yX0_become, Cond.initialized RX0, Cond.code yX0_become cX0_become 2 none, Cond.fieldLink RX0 9 "SandcastleLeague$Shore" "sand" "[I", Cond.methodLink RX0 49 arraycopyName, Cond.native arraycopyName, Cond.static arraycopyName, Cond.initialized "java/lang/System"]
def wsX1_reach_r2 : List Cond := [Cond.fieldLink RX0 15 "SandcastleLeague$Shore" "firmness" "[I", Cond.fieldLink RX0 18 "SandcastleLeague$Shore" "water" "[I", Cond.fieldLink RX0 21 "SandcastleLeague$Shore" "owner" "[I", Cond.fieldLink RX0 24 "SandcastleLeague$Shore" "plantedHeight" "[I", Cond.fieldLink RX0 27 "SandcastleLeague$Shore" "points" "[I", Cond.fieldLink RX0 39 "SandcastleLeague$Shore" "lostSand" "I", Cond.fieldLink RX0 43 "SandcastleLeague$Shore" "slides" "I", Cond.fieldLink RX0 46 "SandcastleLeague$Shore" "fallenSticks" "I", Cond.methodLink RX1 181 yX0_findWater, Cond.instanceMethod yX0_findWater, Cond.selects RX0 yX0_findWater yX0_findWater, Cond.code yX0_findWater cX0_findWater 4 none, Cond.methodLink RX0 30 yJ7_fill_53178, Cond.static yJ7_fill_53178, Cond.initialized RJ7, Cond.code yJ7_fill_53178 cJ7_fill_53178 4 none, Cond.methodLink RX0 86 yX0_sweepWater, Cond.instanceMethod yX0_sweepWater, Cond.selects RX0 yX0_sweepWater yX0_sweepWater, Cond.code yX0_sweepWater cX0_sweepWater 4 (some .boolean), Cond.methodLink RX0 65 yX0_isWet, Cond.instanceMethod yX0_isWet, Cond.selects RX0 yX0_isWet yX0_isWet, Cond.code yX0_isWet cX0_isWet 2 (some .boolean)]
def wsX1_reach_r3 : List Cond := [Cond.methodLink RX0 69 yX0_height, Cond.instanceMethod yX0_height, Cond.selects RX0 yX0_height yX0_height, Cond.code yX0_height cX0_height 2 (some .int), Cond.methodLink RX0 89 yX0_isOpenToSea, Cond.instanceMethod yX0_isOpenToSea, Cond.selects RX0 yX0_isOpenToSea yX0_isOpenToSea, Cond.code yX0_isOpenToSea cX0_isOpenToSea 4 (some .boolean), Cond.methodLink RX0 92 yX0_beside, Cond.static yX0_beside, Cond.code yX0_beside cX0_beside 3 (some .int), Cond.methodLink RX1 184 yX0_isWet]
def wsX1_reach : List Cond := .code yX1_reach cX1_reach 5 (some .int) :: ((wsX1_reach_r1 ++ (wsX1_reach_r2 ++ wsX1_reach_r3)) ++ wsX10 ++ wsX00 ++ (vx_atS RX1 58 "java/lang/IndexOutOfBoundsException" ["java/lang/RuntimeException", "java/lang/Exception"]).filter goodWord)
def wsX1_foresee_r1 : List Cond := [Cond.fieldLink RX1 16 "SandcastleLeague" "trial" "LSandcastleLeague$Shore;", Cond.fieldLink RX1 10 "SandcastleLeague" "shore" "LSandcastleLeague$Shore;", Cond.methodLink RX1 156 yX1_requireHours, Cond.static yX1_requireHours, Cond.initialized RX1, Cond.code yX1_requireHours cX1_requireHours 2 none, Cond.classLink RX1 230 "java/lang/IllegalArgumentException", Cond.initialized "java/lang/IllegalArgumentException", Cond.methodLink RX1 63 yX1_requireTeam, Cond.instanceMethod yX1_requireTeam, Cond.selects RX1 yX1_requireTeam yX1_requireTeam, Cond.code yX1_requireTeam cX1_requireTeam 2 none, Cond.classLink RX1 54 "java/lang/IndexOutOfBoundsException", Cond.initialized "java/lang/IndexOutOfBoundsException", Cond.fieldLink RX1 43 "SandcastleLeague" "teams" "I", Cond.methodLink RX1 113 yX1_requireWhat, Cond.static yX1_requireWhat, Cond.code yX1_requireWhat cX1_requireWhat 2 none, Cond.methodLink RX1 177 yX0_become, Cond.instanceMethod yX0_become, Cond.selects RX0 yX0_become yX0_become, Cond.initialized RX0, Cond.code yX0_become cX0_become 2 none, Cond.fieldLink RX0 9 "SandcastleLeague$Shore" "sand" "[I"]
def wsX1_foresee_r2 : List Cond := [Cond.methodLink RX0 49 arraycopyName, Cond.native arraycopyName, Cond.static arraycopyName, Cond.initialized "java/lang/System", Cond.fieldLink RX0 15 "SandcastleLeague$Shore" "firmness" "[I", Cond.fieldLink RX0 18 "SandcastleLeague$Shore" "water" "[I", Cond.fieldLink RX0 21 "SandcastleLeague$Shore" "owner" "[I", Cond.fieldLink RX0 24 "SandcastleLeague$Shore" "plantedHeight" "[I", Cond.fieldLink RX0 27 "SandcastleLeague$Shore" "points" "[I", Cond.fieldLink RX0 39 "SandcastleLeague$Shore" "lostSand" "I", Cond.fieldLink RX0 43 "SandcastleLeague$Shore" "slides" "I", Cond.fieldLink RX0 46 "SandcastleLeague$Shore" "fallenSticks" "I", Cond.methodLink RX1 159 yX1_letHoursGoBy, Cond.instanceMethod yX1_letHoursGoBy, Cond.selects RX1 yX1_letHoursGoBy yX1_letHoursGoBy, Cond.code yX1_letHoursGoBy cX1_letHoursGoBy 4 none, Cond.fieldLink RX1 28 "SandcastleLeague" "tides" "[I", Cond.fieldLink RX1 131 "SandcastleLeague" "hour" "I", Cond.methodLink RX1 212 yJ9_floorMod_7cf53, Cond.static yJ9_floorMod_7cf53, Cond.initialized RJ9, Cond.code yJ9_floorMod_7cf53 cJ9_floorMod_7cf53 3 (some .int), Cond.methodLink RX1 215 yX0_letHourGoBy, Cond.instanceMethod yX0_letHourGoBy]
def wsX1_foresee_r3 : List Cond := [Cond.selects RX0 yX0_letHourGoBy yX0_letHourGoBy, Cond.code yX0_letHourGoBy cX0_letHourGoBy 2 none, Cond.methodLink RX0 73 yX0_findWater, Cond.instanceMethod yX0_findWater, Cond.selects RX0 yX0_findWater yX0_findWater, Cond.code yX0_findWater cX0_findWater 4 none, Cond.methodLink RX0 30 yJ7_fill_53178, Cond.static yJ7_fill_53178, Cond.initialized RJ7, Cond.code yJ7_fill_53178 cJ7_fill_53178 4 none, Cond.methodLink RX0 86 yX0_sweepWater, Cond.instanceMethod yX0_sweepWater, Cond.selects RX0 yX0_sweepWater yX0_sweepWater, Cond.code yX0_sweepWater cX0_sweepWater 4 (some .boolean), Cond.methodLink RX0 65 yX0_isWet, Cond.instanceMethod yX0_isWet, Cond.selects RX0 yX0_isWet yX0_isWet, Cond.code yX0_isWet cX0_isWet 2 (some .boolean), Cond.methodLink RX0 69 yX0_height, Cond.instanceMethod yX0_height, Cond.selects RX0 yX0_height yX0_height, Cond.code yX0_height cX0_height 2 (some .int), Cond.methodLink RX0 89 yX0_isOpenToSea, Cond.instanceMethod yX0_isOpenToSea]
def wsX1_foresee_r4 : List Cond := [Cond.selects RX0 yX0_isOpenToSea yX0_isOpenToSea, Cond.code yX0_isOpenToSea cX0_isOpenToSea 4 (some .boolean), Cond.methodLink RX0 92 yX0_beside, Cond.static yX0_beside, Cond.code yX0_beside cX0_beside 3 (some .int), Cond.methodLink RX0 76 yX0_washSandAway, Cond.instanceMethod yX0_washSandAway, Cond.selects RX0 yX0_washSandAway yX0_washSandAway, Cond.code yX0_washSandAway cX0_washSandAway 4 none, Cond.methodLink RX0 95 Lib.Math.max.name, Cond.static Lib.Math.max.name, Cond.initialized "java/lang/Math", Cond.code Lib.Math.max.name Lib.Math.max.code 2 (some .int), Cond.methodLink RX0 55 Lib.Math.min.name, Cond.static Lib.Math.min.name, Cond.code Lib.Math.min.name Lib.Math.min.code 2 (some .int), Cond.methodLink RX0 61 yX0_soften, Cond.instanceMethod yX0_soften, Cond.selects RX0 yX0_soften yX0_soften, Cond.code yX0_soften cX0_soften 2 none, Cond.methodLink RX0 79 yX0_letSandSlide, Cond.instanceMethod yX0_letSandSlide, Cond.selects RX0 yX0_letSandSlide yX0_letSandSlide, Cond.code yX0_letSandSlide cX0_letSandSlide 4 (some .int)]
def wsX1_foresee_r5 : List Cond := [Cond.methodLink RX0 98 yX0_slideOnce, Cond.instanceMethod yX0_slideOnce, Cond.selects RX0 yX0_slideOnce yX0_slideOnce, Cond.code yX0_slideOnce cX0_slideOnce 4 (some .int), Cond.methodLink RX0 101 yX0_lowestBeside, Cond.instanceMethod yX0_lowestBeside, Cond.selects RX0 yX0_lowestBeside yX0_lowestBeside, Cond.code yX0_lowestBeside cX0_lowestBeside 5 (some .int), Cond.methodLink RX0 104 yX0_slidesTo, Cond.instanceMethod yX0_slidesTo, Cond.selects RX0 yX0_slidesTo yX0_slidesTo, Cond.code yX0_slidesTo cX0_slidesTo 3 (some .boolean), Cond.methodLink RX0 83 yX0_judgeSticks, Cond.instanceMethod yX0_judgeSticks, Cond.selects RX0 yX0_judgeSticks yX0_judgeSticks, Cond.code yX0_judgeSticks cX0_judgeSticks 3 none, Cond.methodLink RX1 119 yX0_pointsOf, Cond.instanceMethod yX0_pointsOf, Cond.selects RX0 yX0_pointsOf yX0_pointsOf, Cond.code yX0_pointsOf cX0_pointsOf 2 (some .int), Cond.methodLink RX1 95 yX0_sticksOf, Cond.instanceMethod yX0_sticksOf, Cond.selects RX0 yX0_sticksOf yX0_sticksOf, Cond.code yX0_sticksOf cX0_sticksOf 4 (some .int)]
def wsX1_foresee_r6 : List Cond := [Cond.methodLink RX1 122 yX0_sandOfArea, Cond.instanceMethod yX0_sandOfArea, Cond.selects RX0 yX0_sandOfArea yX0_sandOfArea, Cond.code yX0_sandOfArea cX0_sandOfArea 2 (some .int), Cond.methodLink RX0 111 yX0_sumOfArea, Cond.static yX0_sumOfArea, Cond.code yX0_sumOfArea cX0_sumOfArea 4 (some .int), Cond.static yX1_isInArea, Cond.code yX1_isInArea cX1_isInArea 2 (some .boolean)]
def wsX1_foresee : List Cond := .code yX1_foresee cX1_foresee 4 (some .int) :: ((wsX1_foresee_r1 ++ (wsX1_foresee_r2 ++ (wsX1_foresee_r3 ++ (wsX1_foresee_r4 ++ (wsX1_foresee_r5 ++ wsX1_foresee_r6))))) ++ wsX10 ++ wsX00 ++ (vx_atS RX1 234 "java/lang/IllegalArgumentException" ["java/lang/RuntimeException", "java/lang/Exception"]).filter goodWord ++ (vx_atS RX1 58 "java/lang/IndexOutOfBoundsException" ["java/lang/RuntimeException", "java/lang/Exception"]).filter goodWord)
def wsX1_advise_r1 : List Cond := [Cond.fieldLink RX1 16 "SandcastleLeague" "trial" "LSandcastleLeague$Shore;", Cond.fieldLink RX1 10 "SandcastleLeague" "shore" "LSandcastleLeague$Shore;", Cond.methodLink RX1 63 yX1_requireTeam, Cond.instanceMethod yX1_requireTeam, Cond.selects RX1 yX1_requireTeam yX1_requireTeam, Cond.initialized RX1, Cond.code yX1_requireTeam cX1_requireTeam 2 none, Cond.classLink RX1 54 "java/lang/IndexOutOfBoundsException", Cond.initialized "java/lang/IndexOutOfBoundsException", Cond.fieldLink RX1 43 "SandcastleLeague" "teams" "I", Cond.methodLink RX1 156 yX1_requireHours, Cond.static yX1_requireHours, Cond.code yX1_requireHours cX1_requireHours 2 none, Cond.classLink RX1 230 "java/lang/IllegalArgumentException", Cond.initialized "java/lang/IllegalArgumentException", Cond.methodLink RX1 177 yX0_become, Cond.instanceMethod yX0_become, Cond.selects RX0 yX0_become yX0_become, Cond.initialized RX0, Cond.code yX0_become cX0_become 2 none, Cond.fieldLink RX0 9 "SandcastleLeague$Shore" "sand" "[I", Cond.methodLink RX0 49 arraycopyName, Cond.native arraycopyName, Cond.static arraycopyName]
def wsX1_advise_r2 : List Cond := [Cond.initialized "java/lang/System", Cond.fieldLink RX0 15 "SandcastleLeague$Shore" "firmness" "[I", Cond.fieldLink RX0 18 "SandcastleLeague$Shore" "water" "[I", Cond.fieldLink RX0 21 "SandcastleLeague$Shore" "owner" "[I", Cond.fieldLink RX0 24 "SandcastleLeague$Shore" "plantedHeight" "[I", Cond.fieldLink RX0 27 "SandcastleLeague$Shore" "points" "[I", Cond.fieldLink RX0 39 "SandcastleLeague$Shore" "lostSand" "I", Cond.fieldLink RX0 43 "SandcastleLeague$Shore" "slides" "I", Cond.fieldLink RX0 46 "SandcastleLeague$Shore" "fallenSticks" "I", Cond.methodLink RX1 187 yX0_clearSticks, Cond.instanceMethod yX0_clearSticks, Cond.selects RX0 yX0_clearSticks yX0_clearSticks, Cond.code yX0_clearSticks cX0_clearSticks 1 none, Cond.methodLink RX0 30 yJ7_fill_53178, Cond.static yJ7_fill_53178, Cond.initialized RJ7, Cond.code yJ7_fill_53178 cJ7_fill_53178 4 none, Cond.methodLink RX1 190 yX1_isInArea, Cond.static yX1_isInArea, Cond.code yX1_isInArea cX1_isInArea 2 (some .boolean), Cond.methodLink RX1 100 yX0_isFree, Cond.instanceMethod yX0_isFree, Cond.selects RX0 yX0_isFree yX0_isFree, Cond.code yX0_isFree cX0_isFree 2 (some .boolean)]
def wsX1_advise_r3 : List Cond := [Cond.methodLink RX0 108 yX0_hasStick, Cond.instanceMethod yX0_hasStick, Cond.selects RX0 yX0_hasStick yX0_hasStick, Cond.code yX0_hasStick cX0_hasStick 2 (some .boolean), Cond.methodLink RX0 65 yX0_isWet, Cond.instanceMethod yX0_isWet, Cond.selects RX0 yX0_isWet yX0_isWet, Cond.code yX0_isWet cX0_isWet 2 (some .boolean), Cond.methodLink RX1 106 yX0_putStick, Cond.instanceMethod yX0_putStick, Cond.selects RX0 yX0_putStick yX0_putStick, Cond.code yX0_putStick cX0_putStick 3 none, Cond.methodLink RX0 69 yX0_height, Cond.instanceMethod yX0_height, Cond.selects RX0 yX0_height yX0_height, Cond.code yX0_height cX0_height 2 (some .int), Cond.methodLink RX1 159 yX1_letHoursGoBy, Cond.instanceMethod yX1_letHoursGoBy, Cond.selects RX1 yX1_letHoursGoBy yX1_letHoursGoBy, Cond.code yX1_letHoursGoBy cX1_letHoursGoBy 4 none, Cond.fieldLink RX1 28 "SandcastleLeague" "tides" "[I", Cond.fieldLink RX1 131 "SandcastleLeague" "hour" "I", Cond.methodLink RX1 212 yJ9_floorMod_7cf53, Cond.static yJ9_floorMod_7cf53]
def wsX1_advise_r4 : List Cond := [Cond.initialized RJ9, Cond.code yJ9_floorMod_7cf53 cJ9_floorMod_7cf53 3 (some .int), Cond.methodLink RX1 215 yX0_letHourGoBy, Cond.instanceMethod yX0_letHourGoBy, Cond.selects RX0 yX0_letHourGoBy yX0_letHourGoBy, Cond.code yX0_letHourGoBy cX0_letHourGoBy 2 none, Cond.methodLink RX0 73 yX0_findWater, Cond.instanceMethod yX0_findWater, Cond.selects RX0 yX0_findWater yX0_findWater, Cond.code yX0_findWater cX0_findWater 4 none, Cond.methodLink RX0 86 yX0_sweepWater, Cond.instanceMethod yX0_sweepWater, Cond.selects RX0 yX0_sweepWater yX0_sweepWater, Cond.code yX0_sweepWater cX0_sweepWater 4 (some .boolean), Cond.methodLink RX0 89 yX0_isOpenToSea, Cond.instanceMethod yX0_isOpenToSea, Cond.selects RX0 yX0_isOpenToSea yX0_isOpenToSea, Cond.code yX0_isOpenToSea cX0_isOpenToSea 4 (some .boolean), Cond.methodLink RX0 92 yX0_beside, Cond.static yX0_beside, Cond.code yX0_beside cX0_beside 3 (some .int), Cond.methodLink RX0 76 yX0_washSandAway, Cond.instanceMethod yX0_washSandAway, Cond.selects RX0 yX0_washSandAway yX0_washSandAway]
def wsX1_advise_r5 : List Cond := [Cond.code yX0_washSandAway cX0_washSandAway 4 none, Cond.methodLink RX0 95 Lib.Math.max.name, Cond.static Lib.Math.max.name, Cond.initialized "java/lang/Math", Cond.code Lib.Math.max.name Lib.Math.max.code 2 (some .int), Cond.methodLink RX0 55 Lib.Math.min.name, Cond.static Lib.Math.min.name, Cond.code Lib.Math.min.name Lib.Math.min.code 2 (some .int), Cond.methodLink RX0 61 yX0_soften, Cond.instanceMethod yX0_soften, Cond.selects RX0 yX0_soften yX0_soften, Cond.code yX0_soften cX0_soften 2 none, Cond.methodLink RX0 79 yX0_letSandSlide, Cond.instanceMethod yX0_letSandSlide, Cond.selects RX0 yX0_letSandSlide yX0_letSandSlide, Cond.code yX0_letSandSlide cX0_letSandSlide 4 (some .int), Cond.methodLink RX0 98 yX0_slideOnce, Cond.instanceMethod yX0_slideOnce, Cond.selects RX0 yX0_slideOnce yX0_slideOnce, Cond.code yX0_slideOnce cX0_slideOnce 4 (some .int), Cond.methodLink RX0 101 yX0_lowestBeside, Cond.instanceMethod yX0_lowestBeside, Cond.selects RX0 yX0_lowestBeside yX0_lowestBeside, Cond.code yX0_lowestBeside cX0_lowestBeside 5 (some .int)]
def wsX1_advise_r6 : List Cond := [Cond.methodLink RX0 104 yX0_slidesTo, Cond.instanceMethod yX0_slidesTo, Cond.selects RX0 yX0_slidesTo yX0_slidesTo, Cond.code yX0_slidesTo cX0_slidesTo 3 (some .boolean), Cond.methodLink RX0 83 yX0_judgeSticks, Cond.instanceMethod yX0_judgeSticks, Cond.selects RX0 yX0_judgeSticks yX0_judgeSticks, Cond.code yX0_judgeSticks cX0_judgeSticks 3 none, Cond.methodLink RX1 119 yX0_pointsOf, Cond.instanceMethod yX0_pointsOf, Cond.selects RX0 yX0_pointsOf yX0_pointsOf, Cond.code yX0_pointsOf cX0_pointsOf 2 (some .int)]
def wsX1_advise : List Cond := .code yX1_advise cX1_advise 6 (some .int) :: ((wsX1_advise_r1 ++ (wsX1_advise_r2 ++ (wsX1_advise_r3 ++ (wsX1_advise_r4 ++ (wsX1_advise_r5 ++ wsX1_advise_r6))))) ++ wsX10 ++ wsX00 ++ (vx_atS RX1 58 "java/lang/IndexOutOfBoundsException" ["java/lang/RuntimeException", "java/lang/Exception"]).filter goodWord ++ (vx_atS RX1 234 "java/lang/IllegalArgumentException" ["java/lang/RuntimeException", "java/lang/Exception"]).filter goodWord)
def wsX1_mean : List Cond := .code yX1_mean cX1_mean 1 (some .double) :: ([.fieldLink RX1 10 "SandcastleLeague" "shore" "LSandcastleLeague$Shore;", .constantDouble RX1 197 (4638144666238189568), .methodLink RX1 194 yX0_allHeights, .instanceMethod yX0_allHeights, .selects RX0 yX0_allHeights yX0_allHeights, .initialized RX0, .code yX0_allHeights cX0_allHeights 3 (some .int), .methodLink RX0 69 yX0_height, .instanceMethod yX0_height, .selects RX0 yX0_height yX0_height, .code yX0_height cX0_height 2 (some .int), .fieldLink RX0 9 "SandcastleLeague$Shore" "sand" "[I"] ++ wsX10 ++ wsX00)
def wsX1_digest_r1 : List Cond := [Cond.constantLong RX1 199 (503), Cond.constantLong RX1 201 (31), Cond.fieldLink RX1 28 "SandcastleLeague" "tides" "[I", Cond.fieldLink RX1 43 "SandcastleLeague" "teams" "I", Cond.fieldLink RX1 10 "SandcastleLeague" "shore" "LSandcastleLeague$Shore;", Cond.methodLink RX1 203 yX1_count, Cond.instanceMethod yX1_count, Cond.selects RX1 yX1_count yX1_count, Cond.initialized RX1, Cond.code yX1_count cX1_count 2 (some .int), Cond.fieldLink RX1 131 "SandcastleLeague" "hour" "I", Cond.fieldLink RX1 153 "SandcastleLeague" "endedRounds" "I", Cond.methodLink RX1 113 yX1_requireWhat, Cond.static yX1_requireWhat, Cond.code yX1_requireWhat cX1_requireWhat 2 none, Cond.classLink RX1 54 "java/lang/IndexOutOfBoundsException", Cond.initialized "java/lang/IndexOutOfBoundsException", Cond.methodLink RX1 134 yX0_allWater, Cond.instanceMethod yX0_allWater, Cond.selects RX0 yX0_allWater yX0_allWater, Cond.initialized RX0, Cond.code yX0_allWater cX0_allWater 1 (some .int), Cond.fieldLink RX0 18 "SandcastleLeague$Shore" "water" "[I", Cond.methodLink RX0 118 yX0_sum]
def wsX1_digest_r2 : List Cond := [Cond.static yX0_sum, Cond.code yX0_sum cX0_sum 6 (some .int), Cond.methodLink RX1 138 yX0_allSand, Cond.instanceMethod yX0_allSand, Cond.selects RX0 yX0_allSand yX0_allSand, Cond.code yX0_allSand cX0_allSand 1 (some .int), Cond.fieldLink RX0 9 "SandcastleLeague$Shore" "sand" "[I", Cond.methodLink RX1 147 yX0_allSticks, Cond.instanceMethod yX0_allSticks, Cond.selects RX0 yX0_allSticks yX0_allSticks, Cond.code yX0_allSticks cX0_allSticks 3 (some .int), Cond.methodLink RX0 108 yX0_hasStick, Cond.instanceMethod yX0_hasStick, Cond.selects RX0 yX0_hasStick yX0_hasStick, Cond.code yX0_hasStick cX0_hasStick 2 (some .boolean), Cond.fieldLink RX0 21 "SandcastleLeague$Shore" "owner" "[I", Cond.methodLink RX1 206 yX1_team, Cond.instanceMethod yX1_team, Cond.selects RX1 yX1_team yX1_team, Cond.code yX1_team cX1_team 3 (some .int), Cond.fieldLink RX1 31 "SandcastleLeague" "bucket" "[I", Cond.fieldLink RX1 34 "SandcastleLeague" "strength" "[I", Cond.fieldLink RX1 37 "SandcastleLeague" "leaguePoints" "[I", Cond.methodLink RX1 63 yX1_requireTeam]
def wsX1_digest_r3 : List Cond := [Cond.instanceMethod yX1_requireTeam, Cond.selects RX1 yX1_requireTeam yX1_requireTeam, Cond.code yX1_requireTeam cX1_requireTeam 2 none, Cond.methodLink RX1 119 yX0_pointsOf, Cond.instanceMethod yX0_pointsOf, Cond.selects RX0 yX0_pointsOf yX0_pointsOf, Cond.code yX0_pointsOf cX0_pointsOf 2 (some .int), Cond.fieldLink RX0 27 "SandcastleLeague$Shore" "points" "[I", Cond.methodLink RX1 95 yX0_sticksOf, Cond.instanceMethod yX0_sticksOf, Cond.selects RX0 yX0_sticksOf yX0_sticksOf, Cond.code yX0_sticksOf cX0_sticksOf 4 (some .int), Cond.methodLink RX1 122 yX0_sandOfArea, Cond.instanceMethod yX0_sandOfArea, Cond.selects RX0 yX0_sandOfArea yX0_sandOfArea, Cond.code yX0_sandOfArea cX0_sandOfArea 2 (some .int), Cond.methodLink RX0 111 yX0_sumOfArea, Cond.static yX0_sumOfArea, Cond.code yX0_sumOfArea cX0_sumOfArea 4 (some .int), Cond.static yX1_isInArea, Cond.code yX1_isInArea cX1_isInArea 2 (some .boolean), Cond.methodLink RX1 125 yX0_greatestHeightOfArea, Cond.instanceMethod yX0_greatestHeightOfArea, Cond.selects RX0 yX0_greatestHeightOfArea yX0_greatestHeightOfArea]
def wsX1_digest_r4 : List Cond := [Cond.code yX0_greatestHeightOfArea cX0_greatestHeightOfArea 4 (some .int), Cond.methodLink RX0 95 Lib.Math.max.name, Cond.static Lib.Math.max.name, Cond.initialized "java/lang/Math", Cond.code Lib.Math.max.name Lib.Math.max.code 2 (some .int), Cond.methodLink RX0 69 yX0_height, Cond.instanceMethod yX0_height, Cond.selects RX0 yX0_height yX0_height, Cond.code yX0_height cX0_height 2 (some .int), Cond.methodLink RX1 128 yX0_waterOfArea, Cond.instanceMethod yX0_waterOfArea, Cond.selects RX0 yX0_waterOfArea yX0_waterOfArea, Cond.code yX0_waterOfArea cX0_waterOfArea 2 (some .int), Cond.methodLink RX1 116 yX0_tellCell, Cond.instanceMethod yX0_tellCell, Cond.selects RX0 yX0_tellCell yX0_tellCell, Cond.code yX0_tellCell cX0_tellCell 3 (some .int), Cond.fieldLink RX0 15 "SandcastleLeague$Shore" "firmness" "[I", Cond.fieldLink RX0 24 "SandcastleLeague$Shore" "plantedHeight" "[I"]
def wsX1_digest : List Cond := .code yX1_digest cX1_digest 5 (some .long) :: ((wsX1_digest_r1 ++ (wsX1_digest_r2 ++ (wsX1_digest_r3 ++ wsX1_digest_r4))) ++ wsX10 ++ wsX00 ++ (vx_atS RX1 58 "java/lang/IndexOutOfBoundsException" ["java/lang/RuntimeException", "java/lang/Exception"]).filter goodWord)
def wsX2_fill : List Cond := .code yX2_fill cX2_fill 3 none :: ([])
def wsX2_init : List Cond := .code yX2_init cX2_init 1 none :: ([.methodLink RX2 1 objectInit, .instanceMethod objectInit, .code objectInit ⟨#[0xb1]⟩ 1 none, .arrayClass .int, .fieldLink RX2 9 "SandcastleLeagueModel" "sand" "[I", .fieldLink RX2 13 "SandcastleLeagueModel" "firm" "[I", .fieldLink RX2 16 "SandcastleLeagueModel" "water" "[I", .fieldLink RX2 19 "SandcastleLeagueModel" "sticks" "[I", .fieldLink RX2 22 "SandcastleLeagueModel" "table" "[I", .fieldLink RX2 25 "SandcastleLeagueModel" "tides" "[I", .fieldLink RX2 28 "SandcastleLeagueModel" "over" "[I", .methodLink RX2 31 yX2_fill, .static yX2_fill, .initialized RX2, .code yX2_fill cX2_fill 3 none] ++ wsX20)
def wsX2_thrown : List Cond := .code yX2_thrown cX2_thrown 1 (some .int) :: ([.fieldLink RX2 35 "SandcastleLeagueModel" "thrown" "I"] ++ wsX20)
def wsX2_fail : List Cond := .code yX2_fail cX2_fail 2 (some .int) :: ([.fieldLink RX2 35 "SandcastleLeagueModel" "thrown" "I"] ++ wsX20)
def wsX2_isIn : List Cond := .code yX2_isIn cX2_isIn 3 (some .boolean) :: ([])
def wsX2_isTeam : List Cond := .code yX2_isTeam cX2_isTeam 2 (some .boolean) :: ([.fieldLink RX2 39 "SandcastleLeagueModel" "teams" "I", .methodLink RX2 42 yX2_isIn, .static yX2_isIn, .initialized RX2, .code yX2_isIn cX2_isIn 3 (some .boolean)] ++ wsX20)
def wsX2_get : List Cond := .code yX2_get cX2_get 3 (some .int) :: ([.fieldLink RX2 22 "SandcastleLeagueModel" "table" "[I"] ++ wsX20)
def wsX2_add : List Cond := .code yX2_add cX2_add 4 none :: ([.fieldLink RX2 22 "SandcastleLeagueModel" "table" "[I"] ++ wsX20)
def wsX2_height : List Cond := .code yX2_height cX2_height 2 (some .int) :: ([.fieldLink RX2 9 "SandcastleLeagueModel" "sand" "[I"] ++ wsX20)
def wsX2_teamOf : List Cond := .code yX2_teamOf cX2_teamOf 1 (some .int) :: ([])
def wsX2_beside : List Cond := .code yX2_beside cX2_beside 2 (some .int) :: ([])
def wsX2_addTeam : List Cond := .code yX2_addTeam cX2_addTeam 1 (some .int) :: ([.fieldLink RX2 35 "SandcastleLeagueModel" "thrown" "I", .fieldLink RX2 39 "SandcastleLeagueModel" "teams" "I", .fieldLink RX2 22 "SandcastleLeagueModel" "table" "[I", .methodLink RX2 46 yX2_fail, .instanceMethod yX2_fail, .selects RX2 yX2_fail yX2_fail, .initialized RX2, .code yX2_fail cX2_fail 2 (some .int)] ++ wsX20)
def wsX2_setTide : List Cond := .code yX2_setTide cX2_setTide 4 (some .int) :: ([.fieldLink RX2 35 "SandcastleLeagueModel" "thrown" "I", .fieldLink RX2 25 "SandcastleLeagueModel" "tides" "[I", .methodLink RX2 42 yX2_isIn, .static yX2_isIn, .initialized RX2, .code yX2_isIn cX2_isIn 3 (some .boolean), .methodLink RX2 46 yX2_fail, .instanceMethod yX2_fail, .selects RX2 yX2_fail yX2_fail, .code yX2_fail cX2_fail 2 (some .int)] ++ wsX20)
def wsX2_deed : List Cond := .code yX2_deed cX2_deed 5 (some .int) :: ([.fieldLink RX2 35 "SandcastleLeagueModel" "thrown" "I", .methodLink RX2 50 yX2_isTeam, .instanceMethod yX2_isTeam, .selects RX2 yX2_isTeam yX2_isTeam, .initialized RX2, .code yX2_isTeam cX2_isTeam 2 (some .boolean), .fieldLink RX2 39 "SandcastleLeagueModel" "teams" "I", .methodLink RX2 42 yX2_isIn, .static yX2_isIn, .code yX2_isIn cX2_isIn 3 (some .boolean), .methodLink RX2 54 yX2_get, .instanceMethod yX2_get, .selects RX2 yX2_get yX2_get, .code yX2_get cX2_get 3 (some .int), .fieldLink RX2 22 "SandcastleLeagueModel" "table" "[I"] ++ wsX20)
def wsX2_dig_r1 : List Cond := [Cond.fieldLink RX2 9 "SandcastleLeagueModel" "sand" "[I", Cond.methodLink RX2 62 Lib.Math.min.name, Cond.static Lib.Math.min.name, Cond.initialized "java/lang/Math", Cond.code Lib.Math.min.name Lib.Math.min.code 2 (some .int), Cond.fieldLink RX2 13 "SandcastleLeagueModel" "firm" "[I", Cond.methodLink RX2 58 yX2_deed, Cond.instanceMethod yX2_deed, Cond.selects RX2 yX2_deed yX2_deed, Cond.initialized RX2, Cond.code yX2_deed cX2_deed 5 (some .int), Cond.fieldLink RX2 35 "SandcastleLeagueModel" "thrown" "I", Cond.methodLink RX2 50 yX2_isTeam, Cond.instanceMethod yX2_isTeam, Cond.selects RX2 yX2_isTeam yX2_isTeam, Cond.code yX2_isTeam cX2_isTeam 2 (some .boolean), Cond.fieldLink RX2 39 "SandcastleLeagueModel" "teams" "I", Cond.methodLink RX2 42 yX2_isIn, Cond.static yX2_isIn, Cond.code yX2_isIn cX2_isIn 3 (some .boolean), Cond.methodLink RX2 54 yX2_get, Cond.instanceMethod yX2_get, Cond.selects RX2 yX2_get yX2_get, Cond.code yX2_get cX2_get 3 (some .int)]
def wsX2_dig_r2 : List Cond := [Cond.fieldLink RX2 22 "SandcastleLeagueModel" "table" "[I", Cond.methodLink RX2 67 yX2_add, Cond.instanceMethod yX2_add, Cond.selects RX2 yX2_add yX2_add, Cond.code yX2_add cX2_add 4 none]
def wsX2_dig : List Cond := .code yX2_dig cX2_dig 7 (some .int) :: ((wsX2_dig_r1 ++ wsX2_dig_r2) ++ wsX20)
def wsX2_pile_r1 : List Cond := [Cond.fieldLink RX2 9 "SandcastleLeagueModel" "sand" "[I", Cond.methodLink RX2 62 Lib.Math.min.name, Cond.static Lib.Math.min.name, Cond.initialized "java/lang/Math", Cond.code Lib.Math.min.name Lib.Math.min.code 2 (some .int), Cond.fieldLink RX2 13 "SandcastleLeagueModel" "firm" "[I", Cond.methodLink RX2 71 Lib.Math.max.name, Cond.static Lib.Math.max.name, Cond.code Lib.Math.max.name Lib.Math.max.code 2 (some .int), Cond.methodLink RX2 58 yX2_deed, Cond.instanceMethod yX2_deed, Cond.selects RX2 yX2_deed yX2_deed, Cond.initialized RX2, Cond.code yX2_deed cX2_deed 5 (some .int), Cond.fieldLink RX2 35 "SandcastleLeagueModel" "thrown" "I", Cond.methodLink RX2 50 yX2_isTeam, Cond.instanceMethod yX2_isTeam, Cond.selects RX2 yX2_isTeam yX2_isTeam, Cond.code yX2_isTeam cX2_isTeam 2 (some .boolean), Cond.fieldLink RX2 39 "SandcastleLeagueModel" "teams" "I", Cond.methodLink RX2 42 yX2_isIn, Cond.static yX2_isIn, Cond.code yX2_isIn cX2_isIn 3 (some .boolean), Cond.methodLink RX2 54 yX2_get]
def wsX2_pile_r2 : List Cond := [Cond.instanceMethod yX2_get, Cond.selects RX2 yX2_get yX2_get, Cond.code yX2_get cX2_get 3 (some .int), Cond.fieldLink RX2 22 "SandcastleLeagueModel" "table" "[I", Cond.methodLink RX2 67 yX2_add, Cond.instanceMethod yX2_add, Cond.selects RX2 yX2_add yX2_add, Cond.code yX2_add cX2_add 4 none]
def wsX2_pile : List Cond := .code yX2_pile cX2_pile 7 (some .int) :: ((wsX2_pile_r1 ++ wsX2_pile_r2) ++ wsX20)
def wsX2_pack_r1 : List Cond := [Cond.fieldLink RX2 9 "SandcastleLeagueModel" "sand" "[I", Cond.fieldLink RX2 16 "SandcastleLeagueModel" "water" "[I", Cond.fieldLink RX2 13 "SandcastleLeagueModel" "firm" "[I", Cond.methodLink RX2 62 Lib.Math.min.name, Cond.static Lib.Math.min.name, Cond.initialized "java/lang/Math", Cond.code Lib.Math.min.name Lib.Math.min.code 2 (some .int), Cond.methodLink RX2 58 yX2_deed, Cond.instanceMethod yX2_deed, Cond.selects RX2 yX2_deed yX2_deed, Cond.initialized RX2, Cond.code yX2_deed cX2_deed 5 (some .int), Cond.fieldLink RX2 35 "SandcastleLeagueModel" "thrown" "I", Cond.methodLink RX2 50 yX2_isTeam, Cond.instanceMethod yX2_isTeam, Cond.selects RX2 yX2_isTeam yX2_isTeam, Cond.code yX2_isTeam cX2_isTeam 2 (some .boolean), Cond.fieldLink RX2 39 "SandcastleLeagueModel" "teams" "I", Cond.methodLink RX2 42 yX2_isIn, Cond.static yX2_isIn, Cond.code yX2_isIn cX2_isIn 3 (some .boolean), Cond.methodLink RX2 54 yX2_get, Cond.instanceMethod yX2_get, Cond.selects RX2 yX2_get yX2_get]
def wsX2_pack_r2 : List Cond := [Cond.code yX2_get cX2_get 3 (some .int), Cond.fieldLink RX2 22 "SandcastleLeagueModel" "table" "[I", Cond.methodLink RX2 67 yX2_add, Cond.instanceMethod yX2_add, Cond.selects RX2 yX2_add yX2_add, Cond.code yX2_add cX2_add 4 none]
def wsX2_pack : List Cond := .code yX2_pack cX2_pack 5 (some .int) :: ((wsX2_pack_r1 ++ wsX2_pack_r2) ++ wsX20)
def wsX2_sticksOf : List Cond := .code yX2_sticksOf cX2_sticksOf 4 (some .int) :: ([.fieldLink RX2 19 "SandcastleLeagueModel" "sticks" "[I", .methodLink RX2 74 yX2_teamOf, .static yX2_teamOf, .initialized RX2, .code yX2_teamOf cX2_teamOf 1 (some .int)] ++ wsX20)
def wsX2_plant_r1 : List Cond := [Cond.fieldLink RX2 19 "SandcastleLeagueModel" "sticks" "[I", Cond.fieldLink RX2 16 "SandcastleLeagueModel" "water" "[I", Cond.methodLink RX2 58 yX2_deed, Cond.instanceMethod yX2_deed, Cond.selects RX2 yX2_deed yX2_deed, Cond.initialized RX2, Cond.code yX2_deed cX2_deed 5 (some .int), Cond.fieldLink RX2 35 "SandcastleLeagueModel" "thrown" "I", Cond.methodLink RX2 50 yX2_isTeam, Cond.instanceMethod yX2_isTeam, Cond.selects RX2 yX2_isTeam yX2_isTeam, Cond.code yX2_isTeam cX2_isTeam 2 (some .boolean), Cond.fieldLink RX2 39 "SandcastleLeagueModel" "teams" "I", Cond.methodLink RX2 42 yX2_isIn, Cond.static yX2_isIn, Cond.code yX2_isIn cX2_isIn 3 (some .boolean), Cond.methodLink RX2 54 yX2_get, Cond.instanceMethod yX2_get, Cond.selects RX2 yX2_get yX2_get, Cond.code yX2_get cX2_get 3 (some .int), Cond.fieldLink RX2 22 "SandcastleLeagueModel" "table" "[I", Cond.methodLink RX2 77 yX2_sticksOf, Cond.instanceMethod yX2_sticksOf, Cond.selects RX2 yX2_sticksOf yX2_sticksOf]
def wsX2_plant_r2 : List Cond := [Cond.code yX2_sticksOf cX2_sticksOf 4 (some .int), Cond.methodLink RX2 74 yX2_teamOf, Cond.static yX2_teamOf, Cond.code yX2_teamOf cX2_teamOf 1 (some .int), Cond.methodLink RX2 46 yX2_fail, Cond.instanceMethod yX2_fail, Cond.selects RX2 yX2_fail yX2_fail, Cond.code yX2_fail cX2_fail 2 (some .int), Cond.methodLink RX2 80 yX2_height, Cond.instanceMethod yX2_height, Cond.selects RX2 yX2_height yX2_height, Cond.code yX2_height cX2_height 2 (some .int), Cond.fieldLink RX2 9 "SandcastleLeagueModel" "sand" "[I", Cond.methodLink RX2 67 yX2_add, Cond.instanceMethod yX2_add, Cond.selects RX2 yX2_add yX2_add, Cond.code yX2_add cX2_add 4 none]
def wsX2_plant : List Cond := .code yX2_plant cX2_plant 5 (some .int) :: ((wsX2_plant_r1 ++ wsX2_plant_r2) ++ wsX20)
def wsX2_cellTold : List Cond := .code yX2_cellTold cX2_cellTold 3 (some .int) :: ([.fieldLink RX2 9 "SandcastleLeagueModel" "sand" "[I", .fieldLink RX2 13 "SandcastleLeagueModel" "firm" "[I", .fieldLink RX2 16 "SandcastleLeagueModel" "water" "[I", .fieldLink RX2 19 "SandcastleLeagueModel" "sticks" "[I", .methodLink RX2 71 Lib.Math.max.name, .static Lib.Math.max.name, .initialized "java/lang/Math", .code Lib.Math.max.name Lib.Math.max.code 2 (some .int), .methodLink RX2 80 yX2_height, .instanceMethod yX2_height, .selects RX2 yX2_height yX2_height, .initialized RX2, .code yX2_height cX2_height 2 (some .int)] ++ wsX20)
def wsX2_cell_r1 : List Cond := [Cond.fieldLink RX2 35 "SandcastleLeagueModel" "thrown" "I", Cond.methodLink RX2 42 yX2_isIn, Cond.static yX2_isIn, Cond.initialized RX2, Cond.code yX2_isIn cX2_isIn 3 (some .boolean), Cond.methodLink RX2 83 yX2_cellTold, Cond.instanceMethod yX2_cellTold, Cond.selects RX2 yX2_cellTold yX2_cellTold, Cond.code yX2_cellTold cX2_cellTold 3 (some .int), Cond.fieldLink RX2 9 "SandcastleLeagueModel" "sand" "[I", Cond.fieldLink RX2 13 "SandcastleLeagueModel" "firm" "[I", Cond.fieldLink RX2 16 "SandcastleLeagueModel" "water" "[I", Cond.fieldLink RX2 19 "SandcastleLeagueModel" "sticks" "[I", Cond.methodLink RX2 71 Lib.Math.max.name, Cond.static Lib.Math.max.name, Cond.initialized "java/lang/Math", Cond.code Lib.Math.max.name Lib.Math.max.code 2 (some .int), Cond.methodLink RX2 80 yX2_height, Cond.instanceMethod yX2_height, Cond.selects RX2 yX2_height yX2_height, Cond.code yX2_height cX2_height 2 (some .int), Cond.methodLink RX2 46 yX2_fail, Cond.instanceMethod yX2_fail, Cond.selects RX2 yX2_fail yX2_fail]
def wsX2_cell_r2 : List Cond := [Cond.code yX2_fail cX2_fail 2 (some .int)]
def wsX2_cell : List Cond := .code yX2_cell cX2_cell 4 (some .int) :: ((wsX2_cell_r1 ++ wsX2_cell_r2) ++ wsX20)
def wsX2_areaOf : List Cond := .code yX2_areaOf cX2_areaOf 5 (some .int) :: ([.methodLink RX2 71 Lib.Math.max.name, .static Lib.Math.max.name, .initialized "java/lang/Math", .code Lib.Math.max.name Lib.Math.max.code 2 (some .int), .fieldLink RX2 9 "SandcastleLeagueModel" "sand" "[I", .fieldLink RX2 16 "SandcastleLeagueModel" "water" "[I", .methodLink RX2 74 yX2_teamOf, .static yX2_teamOf, .initialized RX2, .code yX2_teamOf cX2_teamOf 1 (some .int), .methodLink RX2 80 yX2_height, .instanceMethod yX2_height, .selects RX2 yX2_height yX2_height, .code yX2_height cX2_height 2 (some .int)] ++ wsX20)
def wsX2_teamTold_r1 : List Cond := [Cond.methodLink RX2 54 yX2_get, Cond.instanceMethod yX2_get, Cond.selects RX2 yX2_get yX2_get, Cond.initialized RX2, Cond.code yX2_get cX2_get 3 (some .int), Cond.fieldLink RX2 22 "SandcastleLeagueModel" "table" "[I", Cond.methodLink RX2 77 yX2_sticksOf, Cond.instanceMethod yX2_sticksOf, Cond.selects RX2 yX2_sticksOf yX2_sticksOf, Cond.code yX2_sticksOf cX2_sticksOf 4 (some .int), Cond.fieldLink RX2 19 "SandcastleLeagueModel" "sticks" "[I", Cond.methodLink RX2 74 yX2_teamOf, Cond.static yX2_teamOf, Cond.code yX2_teamOf cX2_teamOf 1 (some .int), Cond.methodLink RX2 86 yX2_areaOf, Cond.instanceMethod yX2_areaOf, Cond.selects RX2 yX2_areaOf yX2_areaOf, Cond.code yX2_areaOf cX2_areaOf 5 (some .int), Cond.methodLink RX2 71 Lib.Math.max.name, Cond.static Lib.Math.max.name, Cond.initialized "java/lang/Math", Cond.code Lib.Math.max.name Lib.Math.max.code 2 (some .int), Cond.fieldLink RX2 9 "SandcastleLeagueModel" "sand" "[I", Cond.fieldLink RX2 16 "SandcastleLeagueModel" "water" "[I"]
def wsX2_teamTold_r2 : List Cond := [Cond.methodLink RX2 80 yX2_height, Cond.instanceMethod yX2_height, Cond.selects RX2 yX2_height yX2_height, Cond.code yX2_height cX2_height 2 (some .int)]
def wsX2_teamTold : List Cond := .code yX2_teamTold cX2_teamTold 3 (some .int) :: ((wsX2_teamTold_r1 ++ wsX2_teamTold_r2) ++ wsX20)
def wsX2_team_r1 : List Cond := [Cond.fieldLink RX2 35 "SandcastleLeagueModel" "thrown" "I", Cond.methodLink RX2 50 yX2_isTeam, Cond.instanceMethod yX2_isTeam, Cond.selects RX2 yX2_isTeam yX2_isTeam, Cond.initialized RX2, Cond.code yX2_isTeam cX2_isTeam 2 (some .boolean), Cond.fieldLink RX2 39 "SandcastleLeagueModel" "teams" "I", Cond.methodLink RX2 42 yX2_isIn, Cond.static yX2_isIn, Cond.code yX2_isIn cX2_isIn 3 (some .boolean), Cond.methodLink RX2 89 yX2_teamTold, Cond.instanceMethod yX2_teamTold, Cond.selects RX2 yX2_teamTold yX2_teamTold, Cond.code yX2_teamTold cX2_teamTold 3 (some .int), Cond.methodLink RX2 54 yX2_get, Cond.instanceMethod yX2_get, Cond.selects RX2 yX2_get yX2_get, Cond.code yX2_get cX2_get 3 (some .int), Cond.fieldLink RX2 22 "SandcastleLeagueModel" "table" "[I", Cond.methodLink RX2 77 yX2_sticksOf, Cond.instanceMethod yX2_sticksOf, Cond.selects RX2 yX2_sticksOf yX2_sticksOf, Cond.code yX2_sticksOf cX2_sticksOf 4 (some .int), Cond.fieldLink RX2 19 "SandcastleLeagueModel" "sticks" "[I"]
def wsX2_team_r2 : List Cond := [Cond.methodLink RX2 74 yX2_teamOf, Cond.static yX2_teamOf, Cond.code yX2_teamOf cX2_teamOf 1 (some .int), Cond.methodLink RX2 86 yX2_areaOf, Cond.instanceMethod yX2_areaOf, Cond.selects RX2 yX2_areaOf yX2_areaOf, Cond.code yX2_areaOf cX2_areaOf 5 (some .int), Cond.methodLink RX2 71 Lib.Math.max.name, Cond.static Lib.Math.max.name, Cond.initialized "java/lang/Math", Cond.code Lib.Math.max.name Lib.Math.max.code 2 (some .int), Cond.fieldLink RX2 9 "SandcastleLeagueModel" "sand" "[I", Cond.fieldLink RX2 16 "SandcastleLeagueModel" "water" "[I", Cond.methodLink RX2 80 yX2_height, Cond.instanceMethod yX2_height, Cond.selects RX2 yX2_height yX2_height, Cond.code yX2_height cX2_height 2 (some .int), Cond.methodLink RX2 46 yX2_fail, Cond.instanceMethod yX2_fail, Cond.selects RX2 yX2_fail yX2_fail, Cond.code yX2_fail cX2_fail 2 (some .int)]
def wsX2_team : List Cond := .code yX2_team cX2_team 3 (some .int) :: ((wsX2_team_r1 ++ wsX2_team_r2) ++ wsX20)
def wsX2_counted_r1 : List Cond := [Cond.fieldLink RX2 92 "SandcastleLeagueModel" "hour" "I", Cond.fieldLink RX2 39 "SandcastleLeagueModel" "teams" "I", Cond.fieldLink RX2 95 "SandcastleLeagueModel" "lost" "I", Cond.fieldLink RX2 98 "SandcastleLeagueModel" "slides" "I", Cond.fieldLink RX2 101 "SandcastleLeagueModel" "fallen" "I", Cond.fieldLink RX2 104 "SandcastleLeagueModel" "ended" "I", Cond.methodLink RX2 86 yX2_areaOf, Cond.instanceMethod yX2_areaOf, Cond.selects RX2 yX2_areaOf yX2_areaOf, Cond.initialized RX2, Cond.code yX2_areaOf cX2_areaOf 5 (some .int), Cond.methodLink RX2 71 Lib.Math.max.name, Cond.static Lib.Math.max.name, Cond.initialized "java/lang/Math", Cond.code Lib.Math.max.name Lib.Math.max.code 2 (some .int), Cond.fieldLink RX2 9 "SandcastleLeagueModel" "sand" "[I", Cond.fieldLink RX2 16 "SandcastleLeagueModel" "water" "[I", Cond.methodLink RX2 74 yX2_teamOf, Cond.static yX2_teamOf, Cond.code yX2_teamOf cX2_teamOf 1 (some .int), Cond.methodLink RX2 80 yX2_height, Cond.instanceMethod yX2_height, Cond.selects RX2 yX2_height yX2_height, Cond.code yX2_height cX2_height 2 (some .int)]
def wsX2_counted_r2 : List Cond := [Cond.methodLink RX2 77 yX2_sticksOf, Cond.instanceMethod yX2_sticksOf, Cond.selects RX2 yX2_sticksOf yX2_sticksOf, Cond.code yX2_sticksOf cX2_sticksOf 4 (some .int), Cond.fieldLink RX2 19 "SandcastleLeagueModel" "sticks" "[I"]
def wsX2_counted : List Cond := .code yX2_counted cX2_counted 2 (some .int) :: ((wsX2_counted_r1 ++ wsX2_counted_r2) ++ wsX20)
def wsX2_count_r1 : List Cond := [Cond.fieldLink RX2 35 "SandcastleLeagueModel" "thrown" "I", Cond.methodLink RX2 42 yX2_isIn, Cond.static yX2_isIn, Cond.initialized RX2, Cond.code yX2_isIn cX2_isIn 3 (some .boolean), Cond.methodLink RX2 107 yX2_counted, Cond.instanceMethod yX2_counted, Cond.selects RX2 yX2_counted yX2_counted, Cond.code yX2_counted cX2_counted 2 (some .int), Cond.fieldLink RX2 92 "SandcastleLeagueModel" "hour" "I", Cond.fieldLink RX2 39 "SandcastleLeagueModel" "teams" "I", Cond.fieldLink RX2 95 "SandcastleLeagueModel" "lost" "I", Cond.fieldLink RX2 98 "SandcastleLeagueModel" "slides" "I", Cond.fieldLink RX2 101 "SandcastleLeagueModel" "fallen" "I", Cond.fieldLink RX2 104 "SandcastleLeagueModel" "ended" "I", Cond.methodLink RX2 86 yX2_areaOf, Cond.instanceMethod yX2_areaOf, Cond.selects RX2 yX2_areaOf yX2_areaOf, Cond.code yX2_areaOf cX2_areaOf 5 (some .int), Cond.methodLink RX2 71 Lib.Math.max.name, Cond.static Lib.Math.max.name, Cond.initialized "java/lang/Math", Cond.code Lib.Math.max.name Lib.Math.max.code 2 (some .int), Cond.fieldLink RX2 9 "SandcastleLeagueModel" "sand" "[I"]
def wsX2_count_r2 : List Cond := [Cond.fieldLink RX2 16 "SandcastleLeagueModel" "water" "[I", Cond.methodLink RX2 74 yX2_teamOf, Cond.static yX2_teamOf, Cond.code yX2_teamOf cX2_teamOf 1 (some .int), Cond.methodLink RX2 80 yX2_height, Cond.instanceMethod yX2_height, Cond.selects RX2 yX2_height yX2_height, Cond.code yX2_height cX2_height 2 (some .int), Cond.methodLink RX2 77 yX2_sticksOf, Cond.instanceMethod yX2_sticksOf, Cond.selects RX2 yX2_sticksOf yX2_sticksOf, Cond.code yX2_sticksOf cX2_sticksOf 4 (some .int), Cond.fieldLink RX2 19 "SandcastleLeagueModel" "sticks" "[I", Cond.methodLink RX2 46 yX2_fail, Cond.instanceMethod yX2_fail, Cond.selects RX2 yX2_fail yX2_fail, Cond.code yX2_fail cX2_fail 2 (some .int)]
def wsX2_count : List Cond := .code yX2_count cX2_count 2 (some .int) :: ((wsX2_count_r1 ++ wsX2_count_r2) ++ wsX20)
def wsX2_findOver : List Cond := .code yX2_findOver cX2_findOver 5 none :: ([.fieldLink RX2 28 "SandcastleLeagueModel" "over" "[I", .methodLink RX2 71 Lib.Math.max.name, .static Lib.Math.max.name, .initialized "java/lang/Math", .code Lib.Math.max.name Lib.Math.max.code 2 (some .int), .methodLink RX2 80 yX2_height, .instanceMethod yX2_height, .selects RX2 yX2_height yX2_height, .initialized RX2, .code yX2_height cX2_height 2 (some .int), .fieldLink RX2 9 "SandcastleLeagueModel" "sand" "[I", .methodLink RX2 110 yX2_beside, .static yX2_beside, .code yX2_beside cX2_beside 2 (some .int)] ++ wsX20)
def wsX2_slideAll : List Cond := .code yX2_slideAll cX2_slideAll 7 none :: ([.fieldLink RX2 98 "SandcastleLeagueModel" "slides" "I", .fieldLink RX2 9 "SandcastleLeagueModel" "sand" "[I", .fieldLink RX2 13 "SandcastleLeagueModel" "firm" "[I", .methodLink RX2 110 yX2_beside, .static yX2_beside, .initialized RX2, .code yX2_beside cX2_beside 2 (some .int), .methodLink RX2 80 yX2_height, .instanceMethod yX2_height, .selects RX2 yX2_height yX2_height, .code yX2_height cX2_height 2 (some .int)] ++ wsX20)
def wsX2_falls : List Cond := .code yX2_falls cX2_falls 3 (some .boolean) :: ([.fieldLink RX2 16 "SandcastleLeagueModel" "water" "[I", .methodLink RX2 80 yX2_height, .instanceMethod yX2_height, .selects RX2 yX2_height yX2_height, .initialized RX2, .code yX2_height cX2_height 2 (some .int), .fieldLink RX2 9 "SandcastleLeagueModel" "sand" "[I"] ++ wsX20)
def wsX2_brings : List Cond := .code yX2_brings cX2_brings 2 (some .int) :: ([.fieldLink RX2 9 "SandcastleLeagueModel" "sand" "[I"] ++ wsX20)
def wsX2_hourOn_r1 : List Cond := [Cond.fieldLink RX2 25 "SandcastleLeagueModel" "tides" "[I", Cond.fieldLink RX2 92 "SandcastleLeagueModel" "hour" "I", Cond.fieldLink RX2 16 "SandcastleLeagueModel" "water" "[I", Cond.fieldLink RX2 28 "SandcastleLeagueModel" "over" "[I", Cond.fieldLink RX2 9 "SandcastleLeagueModel" "sand" "[I", Cond.fieldLink RX2 13 "SandcastleLeagueModel" "firm" "[I", Cond.methodLink RX2 62 Lib.Math.min.name, Cond.static Lib.Math.min.name, Cond.initialized "java/lang/Math", Cond.code Lib.Math.min.name Lib.Math.min.code 2 (some .int), Cond.methodLink RX2 71 Lib.Math.max.name, Cond.static Lib.Math.max.name, Cond.code Lib.Math.max.name Lib.Math.max.code 2 (some .int), Cond.fieldLink RX2 95 "SandcastleLeagueModel" "lost" "I", Cond.fieldLink RX2 19 "SandcastleLeagueModel" "sticks" "[I", Cond.fieldLink RX2 101 "SandcastleLeagueModel" "fallen" "I", Cond.fieldLink RX2 39 "SandcastleLeagueModel" "teams" "I", Cond.fieldLink RX2 22 "SandcastleLeagueModel" "table" "[I", Cond.methodLink RX2 113 yX2_findOver, Cond.instanceMethod yX2_findOver, Cond.selects RX2 yX2_findOver yX2_findOver, Cond.initialized RX2, Cond.code yX2_findOver cX2_findOver 5 none, Cond.methodLink RX2 80 yX2_height]
def wsX2_hourOn_r2 : List Cond := [Cond.instanceMethod yX2_height, Cond.selects RX2 yX2_height yX2_height, Cond.code yX2_height cX2_height 2 (some .int), Cond.methodLink RX2 110 yX2_beside, Cond.static yX2_beside, Cond.code yX2_beside cX2_beside 2 (some .int), Cond.methodLink RX2 116 yX2_slideAll, Cond.instanceMethod yX2_slideAll, Cond.selects RX2 yX2_slideAll yX2_slideAll, Cond.code yX2_slideAll cX2_slideAll 7 none, Cond.fieldLink RX2 98 "SandcastleLeagueModel" "slides" "I", Cond.methodLink RX2 119 yX2_falls, Cond.instanceMethod yX2_falls, Cond.selects RX2 yX2_falls yX2_falls, Cond.code yX2_falls cX2_falls 3 (some .boolean), Cond.methodLink RX2 74 yX2_teamOf, Cond.static yX2_teamOf, Cond.code yX2_teamOf cX2_teamOf 1 (some .int), Cond.methodLink RX2 123 yX2_brings, Cond.instanceMethod yX2_brings, Cond.selects RX2 yX2_brings yX2_brings, Cond.code yX2_brings cX2_brings 2 (some .int), Cond.methodLink RX2 67 yX2_add, Cond.instanceMethod yX2_add]
def wsX2_hourOn_r3 : List Cond := [Cond.selects RX2 yX2_add yX2_add, Cond.code yX2_add cX2_add 4 none]
def wsX2_hourOn : List Cond := .code yX2_hourOn cX2_hourOn 4 none :: ((wsX2_hourOn_r1 ++ (wsX2_hourOn_r2 ++ wsX2_hourOn_r3)) ++ wsX20)
def wsX2_pass_r1 : List Cond := [Cond.fieldLink RX2 35 "SandcastleLeagueModel" "thrown" "I", Cond.fieldLink RX2 101 "SandcastleLeagueModel" "fallen" "I", Cond.methodLink RX2 42 yX2_isIn, Cond.static yX2_isIn, Cond.initialized RX2, Cond.code yX2_isIn cX2_isIn 3 (some .boolean), Cond.methodLink RX2 46 yX2_fail, Cond.instanceMethod yX2_fail, Cond.selects RX2 yX2_fail yX2_fail, Cond.code yX2_fail cX2_fail 2 (some .int), Cond.methodLink RX2 126 yX2_hourOn, Cond.instanceMethod yX2_hourOn, Cond.selects RX2 yX2_hourOn yX2_hourOn, Cond.code yX2_hourOn cX2_hourOn 4 none, Cond.fieldLink RX2 25 "SandcastleLeagueModel" "tides" "[I", Cond.fieldLink RX2 92 "SandcastleLeagueModel" "hour" "I", Cond.fieldLink RX2 16 "SandcastleLeagueModel" "water" "[I", Cond.fieldLink RX2 28 "SandcastleLeagueModel" "over" "[I", Cond.fieldLink RX2 9 "SandcastleLeagueModel" "sand" "[I", Cond.fieldLink RX2 13 "SandcastleLeagueModel" "firm" "[I", Cond.methodLink RX2 62 Lib.Math.min.name, Cond.static Lib.Math.min.name, Cond.initialized "java/lang/Math", Cond.code Lib.Math.min.name Lib.Math.min.code 2 (some .int)]
def wsX2_pass_r2 : List Cond := [Cond.methodLink RX2 71 Lib.Math.max.name, Cond.static Lib.Math.max.name, Cond.code Lib.Math.max.name Lib.Math.max.code 2 (some .int), Cond.fieldLink RX2 95 "SandcastleLeagueModel" "lost" "I", Cond.fieldLink RX2 19 "SandcastleLeagueModel" "sticks" "[I", Cond.fieldLink RX2 39 "SandcastleLeagueModel" "teams" "I", Cond.fieldLink RX2 22 "SandcastleLeagueModel" "table" "[I", Cond.methodLink RX2 113 yX2_findOver, Cond.instanceMethod yX2_findOver, Cond.selects RX2 yX2_findOver yX2_findOver, Cond.code yX2_findOver cX2_findOver 5 none, Cond.methodLink RX2 80 yX2_height, Cond.instanceMethod yX2_height, Cond.selects RX2 yX2_height yX2_height, Cond.code yX2_height cX2_height 2 (some .int), Cond.methodLink RX2 110 yX2_beside, Cond.static yX2_beside, Cond.code yX2_beside cX2_beside 2 (some .int), Cond.methodLink RX2 116 yX2_slideAll, Cond.instanceMethod yX2_slideAll, Cond.selects RX2 yX2_slideAll yX2_slideAll, Cond.code yX2_slideAll cX2_slideAll 7 none, Cond.fieldLink RX2 98 "SandcastleLeagueModel" "slides" "I", Cond.methodLink RX2 119 yX2_falls]
def wsX2_pass_r3 : List Cond := [Cond.instanceMethod yX2_falls, Cond.selects RX2 yX2_falls yX2_falls, Cond.code yX2_falls cX2_falls 3 (some .boolean), Cond.methodLink RX2 74 yX2_teamOf, Cond.static yX2_teamOf, Cond.code yX2_teamOf cX2_teamOf 1 (some .int), Cond.methodLink RX2 123 yX2_brings, Cond.instanceMethod yX2_brings, Cond.selects RX2 yX2_brings yX2_brings, Cond.code yX2_brings cX2_brings 2 (some .int), Cond.methodLink RX2 67 yX2_add, Cond.instanceMethod yX2_add, Cond.selects RX2 yX2_add yX2_add, Cond.code yX2_add cX2_add 4 none]
def wsX2_pass : List Cond := .code yX2_pass cX2_pass 4 (some .int) :: ((wsX2_pass_r1 ++ (wsX2_pass_r2 ++ wsX2_pass_r3)) ++ wsX20)
def wsX2_endRound_r1 : List Cond := [Cond.fieldLink RX2 35 "SandcastleLeagueModel" "thrown" "I", Cond.fieldLink RX2 39 "SandcastleLeagueModel" "teams" "I", Cond.arrayClass .int, Cond.fieldLink RX2 22 "SandcastleLeagueModel" "table" "[I", Cond.methodLink RX2 129 arraycopyName, Cond.native arraycopyName, Cond.static arraycopyName, Cond.initialized "java/lang/System", Cond.fieldLink RX2 9 "SandcastleLeagueModel" "sand" "[I", Cond.fieldLink RX2 13 "SandcastleLeagueModel" "firm" "[I", Cond.fieldLink RX2 16 "SandcastleLeagueModel" "water" "[I", Cond.fieldLink RX2 19 "SandcastleLeagueModel" "sticks" "[I", Cond.fieldLink RX2 95 "SandcastleLeagueModel" "lost" "I", Cond.fieldLink RX2 98 "SandcastleLeagueModel" "slides" "I", Cond.fieldLink RX2 101 "SandcastleLeagueModel" "fallen" "I", Cond.fieldLink RX2 104 "SandcastleLeagueModel" "ended" "I", Cond.methodLink RX2 54 yX2_get, Cond.instanceMethod yX2_get, Cond.selects RX2 yX2_get yX2_get, Cond.initialized RX2, Cond.code yX2_get cX2_get 3 (some .int), Cond.methodLink RX2 67 yX2_add, Cond.instanceMethod yX2_add, Cond.selects RX2 yX2_add yX2_add]
def wsX2_endRound_r2 : List Cond := [Cond.code yX2_add cX2_add 4 none, Cond.methodLink RX2 31 yX2_fill, Cond.static yX2_fill, Cond.code yX2_fill cX2_fill 3 none]
def wsX2_endRound : List Cond := .code yX2_endRound cX2_endRound 3 (some .int) :: ((wsX2_endRound_r1 ++ wsX2_endRound_r2) ++ wsX20)
def wsX2_isAhead : List Cond := .code yX2_isAhead cX2_isAhead 3 (some .boolean) :: ([.methodLink RX2 54 yX2_get, .instanceMethod yX2_get, .selects RX2 yX2_get yX2_get, .initialized RX2, .code yX2_get cX2_get 3 (some .int), .fieldLink RX2 22 "SandcastleLeagueModel" "table" "[I"] ++ wsX20)
def wsX2_leader : List Cond := .code yX2_leader cX2_leader 5 (some .int) :: ([.fieldLink RX2 35 "SandcastleLeagueModel" "thrown" "I", .fieldLink RX2 39 "SandcastleLeagueModel" "teams" "I", .methodLink RX2 135 yX2_isAhead, .instanceMethod yX2_isAhead, .selects RX2 yX2_isAhead yX2_isAhead, .initialized RX2, .code yX2_isAhead cX2_isAhead 3 (some .boolean), .methodLink RX2 54 yX2_get, .instanceMethod yX2_get, .selects RX2 yX2_get yX2_get, .code yX2_get cX2_get 3 (some .int), .fieldLink RX2 22 "SandcastleLeagueModel" "table" "[I", .methodLink RX2 46 yX2_fail, .instanceMethod yX2_fail, .selects RX2 yX2_fail yX2_fail, .code yX2_fail cX2_fail 2 (some .int)] ++ wsX20)
def wsX2_flood_r1 : List Cond := [Cond.fieldLink RX2 35 "SandcastleLeagueModel" "thrown" "I", Cond.fieldLink RX2 28 "SandcastleLeagueModel" "over" "[I", Cond.methodLink RX2 42 yX2_isIn, Cond.static yX2_isIn, Cond.initialized RX2, Cond.code yX2_isIn cX2_isIn 3 (some .boolean), Cond.methodLink RX2 46 yX2_fail, Cond.instanceMethod yX2_fail, Cond.selects RX2 yX2_fail yX2_fail, Cond.code yX2_fail cX2_fail 2 (some .int), Cond.methodLink RX2 113 yX2_findOver, Cond.instanceMethod yX2_findOver, Cond.selects RX2 yX2_findOver yX2_findOver, Cond.code yX2_findOver cX2_findOver 5 none, Cond.methodLink RX2 71 Lib.Math.max.name, Cond.static Lib.Math.max.name, Cond.initialized "java/lang/Math", Cond.code Lib.Math.max.name Lib.Math.max.code 2 (some .int), Cond.methodLink RX2 80 yX2_height, Cond.instanceMethod yX2_height, Cond.selects RX2 yX2_height yX2_height, Cond.code yX2_height cX2_height 2 (some .int), Cond.fieldLink RX2 9 "SandcastleLeagueModel" "sand" "[I", Cond.methodLink RX2 110 yX2_beside]
def wsX2_flood_r2 : List Cond := [Cond.static yX2_beside, Cond.code yX2_beside cX2_beside 2 (some .int)]
def wsX2_flood : List Cond := .code yX2_flood cX2_flood 4 (some .int) :: ((wsX2_flood_r1 ++ wsX2_flood_r2) ++ wsX20)
def wsX2_reach_r1 : List Cond := [Cond.fieldLink RX2 35 "SandcastleLeagueModel" "thrown" "I", Cond.fieldLink RX2 28 "SandcastleLeagueModel" "over" "[I", Cond.methodLink RX2 42 yX2_isIn, Cond.static yX2_isIn, Cond.initialized RX2, Cond.code yX2_isIn cX2_isIn 3 (some .boolean), Cond.methodLink RX2 46 yX2_fail, Cond.instanceMethod yX2_fail, Cond.selects RX2 yX2_fail yX2_fail, Cond.code yX2_fail cX2_fail 2 (some .int), Cond.methodLink RX2 113 yX2_findOver, Cond.instanceMethod yX2_findOver, Cond.selects RX2 yX2_findOver yX2_findOver, Cond.code yX2_findOver cX2_findOver 5 none, Cond.methodLink RX2 71 Lib.Math.max.name, Cond.static Lib.Math.max.name, Cond.initialized "java/lang/Math", Cond.code Lib.Math.max.name Lib.Math.max.code 2 (some .int), Cond.methodLink RX2 80 yX2_height, Cond.instanceMethod yX2_height, Cond.selects RX2 yX2_height yX2_height, Cond.code yX2_height cX2_height 2 (some .int), Cond.fieldLink RX2 9 "SandcastleLeagueModel" "sand" "[I", Cond.methodLink RX2 110 yX2_beside]
def wsX2_reach_r2 : List Cond := [Cond.static yX2_beside, Cond.code yX2_beside cX2_beside 2 (some .int)]
def wsX2_reach : List Cond := .code yX2_reach cX2_reach 3 (some .int) :: ((wsX2_reach_r1 ++ wsX2_reach_r2) ++ wsX20)
def wsX2_kept : List Cond := .code yX2_kept cX2_kept 1 (some (.array (.array .int))) :: ([.classLink RX2 138 "[I", .fieldLink RX2 9 "SandcastleLeagueModel" "sand" "[I", .methodLink RX2 139 ⟨"[I", "clone", "()Ljava/lang/Object;"⟩, .sameMethod "[I" "java/lang/Object" "clone" "()Ljava/lang/Object;", .native ⟨"java/lang/Object", "clone", "()Ljava/lang/Object;"⟩, .instanceMethod ⟨"java/lang/Object", "clone", "()Ljava/lang/Object;"⟩, .selects "[I" ⟨"[I", "clone", "()Ljava/lang/Object;"⟩ ⟨"java/lang/Object", "clone", "()Ljava/lang/Object;"⟩, .fieldLink RX2 13 "SandcastleLeagueModel" "firm" "[I", .fieldLink RX2 16 "SandcastleLeagueModel" "water" "[I", .fieldLink RX2 19 "SandcastleLeagueModel" "sticks" "[I", .fieldLink RX2 22 "SandcastleLeagueModel" "table" "[I", .arrayClass .int, .fieldLink RX2 92 "SandcastleLeagueModel" "hour" "I", .fieldLink RX2 95 "SandcastleLeagueModel" "lost" "I", .fieldLink RX2 98 "SandcastleLeagueModel" "slides" "I", .fieldLink RX2 101 "SandcastleLeagueModel" "fallen" "I"] ++ wsX20)
def wsX2_bringBack : List Cond := .code yX2_bringBack cX2_bringBack 2 none :: ([.fieldLink RX2 9 "SandcastleLeagueModel" "sand" "[I", .fieldLink RX2 13 "SandcastleLeagueModel" "firm" "[I", .fieldLink RX2 16 "SandcastleLeagueModel" "water" "[I", .fieldLink RX2 19 "SandcastleLeagueModel" "sticks" "[I", .fieldLink RX2 22 "SandcastleLeagueModel" "table" "[I", .fieldLink RX2 92 "SandcastleLeagueModel" "hour" "I", .fieldLink RX2 95 "SandcastleLeagueModel" "lost" "I", .fieldLink RX2 98 "SandcastleLeagueModel" "slides" "I", .fieldLink RX2 101 "SandcastleLeagueModel" "fallen" "I"] ++ wsX20)
def wsX2_foresee_r1 : List Cond := [Cond.fieldLink RX2 35 "SandcastleLeagueModel" "thrown" "I", Cond.methodLink RX2 42 yX2_isIn, Cond.static yX2_isIn, Cond.initialized RX2, Cond.code yX2_isIn cX2_isIn 3 (some .boolean), Cond.methodLink RX2 46 yX2_fail, Cond.instanceMethod yX2_fail, Cond.selects RX2 yX2_fail yX2_fail, Cond.code yX2_fail cX2_fail 2 (some .int), Cond.methodLink RX2 50 yX2_isTeam, Cond.instanceMethod yX2_isTeam, Cond.selects RX2 yX2_isTeam yX2_isTeam, Cond.code yX2_isTeam cX2_isTeam 2 (some .boolean), Cond.fieldLink RX2 39 "SandcastleLeagueModel" "teams" "I", Cond.methodLink RX2 143 yX2_kept, Cond.instanceMethod yX2_kept, Cond.selects RX2 yX2_kept yX2_kept, Cond.code yX2_kept cX2_kept 1 (some (.array (.array .int))), Cond.classLink RX2 138 "[I", Cond.fieldLink RX2 9 "SandcastleLeagueModel" "sand" "[I", Cond.methodLink RX2 139 ⟨"[I", "clone", "()Ljava/lang/Object;"⟩, Cond.sameMethod "[I" "java/lang/Object" "clone" "()Ljava/lang/Object;", Cond.native ⟨"java/lang/Object", "clone", "()Ljava/lang/Object;"⟩, Cond.instanceMethod ⟨"java/lang/Object", "clone", "()Ljava/lang/Object;"⟩]
def wsX2_foresee_r2 : List Cond := [Cond.selects "[I" ⟨"[I", "clone", "()Ljava/lang/Object;"⟩ ⟨"java/lang/Object", "clone", "()Ljava/lang/Object;"⟩, Cond.fieldLink RX2 13 "SandcastleLeagueModel" "firm" "[I", Cond.fieldLink RX2 16 "SandcastleLeagueModel" "water" "[I", Cond.fieldLink RX2 19 "SandcastleLeagueModel" "sticks" "[I", Cond.fieldLink RX2 22 "SandcastleLeagueModel" "table" "[I", Cond.arrayClass .int, Cond.fieldLink RX2 92 "SandcastleLeagueModel" "hour" "I", Cond.fieldLink RX2 95 "SandcastleLeagueModel" "lost" "I", Cond.fieldLink RX2 98 "SandcastleLeagueModel" "slides" "I", Cond.fieldLink RX2 101 "SandcastleLeagueModel" "fallen" "I", Cond.methodLink RX2 54 yX2_get, Cond.instanceMethod yX2_get, Cond.selects RX2 yX2_get yX2_get, Cond.code yX2_get cX2_get 3 (some .int), Cond.methodLink RX2 126 yX2_hourOn, Cond.instanceMethod yX2_hourOn, Cond.selects RX2 yX2_hourOn yX2_hourOn, Cond.code yX2_hourOn cX2_hourOn 4 none, Cond.fieldLink RX2 25 "SandcastleLeagueModel" "tides" "[I", Cond.fieldLink RX2 28 "SandcastleLeagueModel" "over" "[I", Cond.methodLink RX2 62 Lib.Math.min.name, Cond.static Lib.Math.min.name, Cond.initialized "java/lang/Math", Cond.code Lib.Math.min.name Lib.Math.min.code 2 (some .int)]
def wsX2_foresee_r3 : List Cond := [Cond.methodLink RX2 71 Lib.Math.max.name, Cond.static Lib.Math.max.name, Cond.code Lib.Math.max.name Lib.Math.max.code 2 (some .int), Cond.methodLink RX2 113 yX2_findOver, Cond.instanceMethod yX2_findOver, Cond.selects RX2 yX2_findOver yX2_findOver, Cond.code yX2_findOver cX2_findOver 5 none, Cond.methodLink RX2 80 yX2_height, Cond.instanceMethod yX2_height, Cond.selects RX2 yX2_height yX2_height, Cond.code yX2_height cX2_height 2 (some .int), Cond.methodLink RX2 110 yX2_beside, Cond.static yX2_beside, Cond.code yX2_beside cX2_beside 2 (some .int), Cond.methodLink RX2 116 yX2_slideAll, Cond.instanceMethod yX2_slideAll, Cond.selects RX2 yX2_slideAll yX2_slideAll, Cond.code yX2_slideAll cX2_slideAll 7 none, Cond.methodLink RX2 119 yX2_falls, Cond.instanceMethod yX2_falls, Cond.selects RX2 yX2_falls yX2_falls, Cond.code yX2_falls cX2_falls 3 (some .boolean), Cond.methodLink RX2 74 yX2_teamOf, Cond.static yX2_teamOf]
def wsX2_foresee_r4 : List Cond := [Cond.code yX2_teamOf cX2_teamOf 1 (some .int), Cond.methodLink RX2 123 yX2_brings, Cond.instanceMethod yX2_brings, Cond.selects RX2 yX2_brings yX2_brings, Cond.code yX2_brings cX2_brings 2 (some .int), Cond.methodLink RX2 67 yX2_add, Cond.instanceMethod yX2_add, Cond.selects RX2 yX2_add yX2_add, Cond.code yX2_add cX2_add 4 none, Cond.methodLink RX2 77 yX2_sticksOf, Cond.instanceMethod yX2_sticksOf, Cond.selects RX2 yX2_sticksOf yX2_sticksOf, Cond.code yX2_sticksOf cX2_sticksOf 4 (some .int), Cond.methodLink RX2 86 yX2_areaOf, Cond.instanceMethod yX2_areaOf, Cond.selects RX2 yX2_areaOf yX2_areaOf, Cond.code yX2_areaOf cX2_areaOf 5 (some .int), Cond.methodLink RX2 147 yX2_bringBack, Cond.instanceMethod yX2_bringBack, Cond.selects RX2 yX2_bringBack yX2_bringBack, Cond.code yX2_bringBack cX2_bringBack 2 none]
def wsX2_foresee : List Cond := .code yX2_foresee cX2_foresee 7 (some .int) :: ((wsX2_foresee_r1 ++ (wsX2_foresee_r2 ++ (wsX2_foresee_r3 ++ wsX2_foresee_r4))) ++ wsX20)
def wsX2_advise_r1 : List Cond := [Cond.fieldLink RX2 35 "SandcastleLeagueModel" "thrown" "I", Cond.arrayClass .int, Cond.arrayClass .boolean, Cond.fieldLink RX2 19 "SandcastleLeagueModel" "sticks" "[I", Cond.fieldLink RX2 16 "SandcastleLeagueModel" "water" "[I", Cond.methodLink RX2 50 yX2_isTeam, Cond.instanceMethod yX2_isTeam, Cond.selects RX2 yX2_isTeam yX2_isTeam, Cond.initialized RX2, Cond.code yX2_isTeam cX2_isTeam 2 (some .boolean), Cond.fieldLink RX2 39 "SandcastleLeagueModel" "teams" "I", Cond.methodLink RX2 42 yX2_isIn, Cond.static yX2_isIn, Cond.code yX2_isIn cX2_isIn 3 (some .boolean), Cond.methodLink RX2 46 yX2_fail, Cond.instanceMethod yX2_fail, Cond.selects RX2 yX2_fail yX2_fail, Cond.code yX2_fail cX2_fail 2 (some .int), Cond.methodLink RX2 74 yX2_teamOf, Cond.static yX2_teamOf, Cond.code yX2_teamOf cX2_teamOf 1 (some .int), Cond.methodLink RX2 80 yX2_height, Cond.instanceMethod yX2_height, Cond.selects RX2 yX2_height yX2_height]
def wsX2_advise_r2 : List Cond := [Cond.code yX2_height cX2_height 2 (some .int), Cond.fieldLink RX2 9 "SandcastleLeagueModel" "sand" "[I", Cond.methodLink RX2 143 yX2_kept, Cond.instanceMethod yX2_kept, Cond.selects RX2 yX2_kept yX2_kept, Cond.code yX2_kept cX2_kept 1 (some (.array (.array .int))), Cond.classLink RX2 138 "[I", Cond.methodLink RX2 139 ⟨"[I", "clone", "()Ljava/lang/Object;"⟩, Cond.sameMethod "[I" "java/lang/Object" "clone" "()Ljava/lang/Object;", Cond.native ⟨"java/lang/Object", "clone", "()Ljava/lang/Object;"⟩, Cond.instanceMethod ⟨"java/lang/Object", "clone", "()Ljava/lang/Object;"⟩, Cond.selects "[I" ⟨"[I", "clone", "()Ljava/lang/Object;"⟩ ⟨"java/lang/Object", "clone", "()Ljava/lang/Object;"⟩, Cond.fieldLink RX2 13 "SandcastleLeagueModel" "firm" "[I", Cond.fieldLink RX2 22 "SandcastleLeagueModel" "table" "[I", Cond.fieldLink RX2 92 "SandcastleLeagueModel" "hour" "I", Cond.fieldLink RX2 95 "SandcastleLeagueModel" "lost" "I", Cond.fieldLink RX2 98 "SandcastleLeagueModel" "slides" "I", Cond.fieldLink RX2 101 "SandcastleLeagueModel" "fallen" "I", Cond.methodLink RX2 126 yX2_hourOn, Cond.instanceMethod yX2_hourOn, Cond.selects RX2 yX2_hourOn yX2_hourOn, Cond.code yX2_hourOn cX2_hourOn 4 none, Cond.fieldLink RX2 25 "SandcastleLeagueModel" "tides" "[I", Cond.fieldLink RX2 28 "SandcastleLeagueModel" "over" "[I"]
def wsX2_advise_r3 : List Cond := [Cond.methodLink RX2 62 Lib.Math.min.name, Cond.static Lib.Math.min.name, Cond.initialized "java/lang/Math", Cond.code Lib.Math.min.name Lib.Math.min.code 2 (some .int), Cond.methodLink RX2 71 Lib.Math.max.name, Cond.static Lib.Math.max.name, Cond.code Lib.Math.max.name Lib.Math.max.code 2 (some .int), Cond.methodLink RX2 113 yX2_findOver, Cond.instanceMethod yX2_findOver, Cond.selects RX2 yX2_findOver yX2_findOver, Cond.code yX2_findOver cX2_findOver 5 none, Cond.methodLink RX2 110 yX2_beside, Cond.static yX2_beside, Cond.code yX2_beside cX2_beside 2 (some .int), Cond.methodLink RX2 116 yX2_slideAll, Cond.instanceMethod yX2_slideAll, Cond.selects RX2 yX2_slideAll yX2_slideAll, Cond.code yX2_slideAll cX2_slideAll 7 none, Cond.methodLink RX2 119 yX2_falls, Cond.instanceMethod yX2_falls, Cond.selects RX2 yX2_falls yX2_falls, Cond.code yX2_falls cX2_falls 3 (some .boolean), Cond.methodLink RX2 123 yX2_brings, Cond.instanceMethod yX2_brings]
def wsX2_advise_r4 : List Cond := [Cond.selects RX2 yX2_brings yX2_brings, Cond.code yX2_brings cX2_brings 2 (some .int), Cond.methodLink RX2 67 yX2_add, Cond.instanceMethod yX2_add, Cond.selects RX2 yX2_add yX2_add, Cond.code yX2_add cX2_add 4 none, Cond.methodLink RX2 147 yX2_bringBack, Cond.instanceMethod yX2_bringBack, Cond.selects RX2 yX2_bringBack yX2_bringBack, Cond.code yX2_bringBack cX2_bringBack 2 none]
def wsX2_advise : List Cond := .code yX2_advise cX2_advise 9 (some .int) :: ((wsX2_advise_r1 ++ (wsX2_advise_r2 ++ (wsX2_advise_r3 ++ wsX2_advise_r4))) ++ wsX20)
def wsX2_mean : List Cond := .code yX2_mean cX2_mean 3 (some .double) :: ([.fieldLink RX2 35 "SandcastleLeagueModel" "thrown" "I", .constantDouble RX2 151 (4638144666238189568), .methodLink RX2 80 yX2_height, .instanceMethod yX2_height, .selects RX2 yX2_height yX2_height, .initialized RX2, .code yX2_height cX2_height 2 (some .int), .fieldLink RX2 9 "SandcastleLeagueModel" "sand" "[I"] ++ wsX20)
def wsX2_digest_r1 : List Cond := [Cond.fieldLink RX2 35 "SandcastleLeagueModel" "thrown" "I", Cond.constantLong RX2 153 (503), Cond.constantLong RX2 155 (31), Cond.fieldLink RX2 25 "SandcastleLeagueModel" "tides" "[I", Cond.fieldLink RX2 39 "SandcastleLeagueModel" "teams" "I", Cond.methodLink RX2 107 yX2_counted, Cond.instanceMethod yX2_counted, Cond.selects RX2 yX2_counted yX2_counted, Cond.initialized RX2, Cond.code yX2_counted cX2_counted 2 (some .int), Cond.fieldLink RX2 92 "SandcastleLeagueModel" "hour" "I", Cond.fieldLink RX2 95 "SandcastleLeagueModel" "lost" "I", Cond.fieldLink RX2 98 "SandcastleLeagueModel" "slides" "I", Cond.fieldLink RX2 101 "SandcastleLeagueModel" "fallen" "I", Cond.fieldLink RX2 104 "SandcastleLeagueModel" "ended" "I", Cond.methodLink RX2 86 yX2_areaOf, Cond.instanceMethod yX2_areaOf, Cond.selects RX2 yX2_areaOf yX2_areaOf, Cond.code yX2_areaOf cX2_areaOf 5 (some .int), Cond.methodLink RX2 71 Lib.Math.max.name, Cond.static Lib.Math.max.name, Cond.initialized "java/lang/Math", Cond.code Lib.Math.max.name Lib.Math.max.code 2 (some .int), Cond.fieldLink RX2 9 "SandcastleLeagueModel" "sand" "[I"]
def wsX2_digest_r2 : List Cond := [Cond.fieldLink RX2 16 "SandcastleLeagueModel" "water" "[I", Cond.methodLink RX2 74 yX2_teamOf, Cond.static yX2_teamOf, Cond.code yX2_teamOf cX2_teamOf 1 (some .int), Cond.methodLink RX2 80 yX2_height, Cond.instanceMethod yX2_height, Cond.selects RX2 yX2_height yX2_height, Cond.code yX2_height cX2_height 2 (some .int), Cond.methodLink RX2 77 yX2_sticksOf, Cond.instanceMethod yX2_sticksOf, Cond.selects RX2 yX2_sticksOf yX2_sticksOf, Cond.code yX2_sticksOf cX2_sticksOf 4 (some .int), Cond.fieldLink RX2 19 "SandcastleLeagueModel" "sticks" "[I", Cond.methodLink RX2 89 yX2_teamTold, Cond.instanceMethod yX2_teamTold, Cond.selects RX2 yX2_teamTold yX2_teamTold, Cond.code yX2_teamTold cX2_teamTold 3 (some .int), Cond.methodLink RX2 54 yX2_get, Cond.instanceMethod yX2_get, Cond.selects RX2 yX2_get yX2_get, Cond.code yX2_get cX2_get 3 (some .int), Cond.fieldLink RX2 22 "SandcastleLeagueModel" "table" "[I", Cond.methodLink RX2 83 yX2_cellTold, Cond.instanceMethod yX2_cellTold]
def wsX2_digest_r3 : List Cond := [Cond.selects RX2 yX2_cellTold yX2_cellTold, Cond.code yX2_cellTold cX2_cellTold 3 (some .int), Cond.fieldLink RX2 13 "SandcastleLeagueModel" "firm" "[I"]
def wsX2_digest : List Cond := .code yX2_digest cX2_digest 5 (some .long) :: ((wsX2_digest_r1 ++ (wsX2_digest_r2 ++ wsX2_digest_r3)) ++ wsX20)
def wsJ9_max_7cf53 : List Cond := .code yJ9_max_7cf53 cJ9_max_7cf53 2 (some .int) :: ([])
def wsJ9_min_7cf53 : List Cond := .code yJ9_min_7cf53 cJ9_min_7cf53 2 (some .int) :: ([])
def wsL_addTeam : List Cond := .codeWith yL_addTeam cL_addTeam 3 (some .int) [(0, 8, 11, 13)] :: ([.classLink RL 13 "java/lang/IllegalStateException", .methodLink RL 7 yX1_addTeam, .instanceMethod yX1_addTeam, .selects RX1 yX1_addTeam yX1_addTeam, .initialized RX1, .code yX1_addTeam cX1_addTeam 1 (some .int), .classLink RX1 47 "java/lang/IllegalStateException", .initialized "java/lang/IllegalStateException", .fieldLink RX1 43 "SandcastleLeague" "teams" "I"] ++ wsX10 ++ (vx_atS RX1 51 "java/lang/IllegalStateException" ["java/lang/RuntimeException", "java/lang/Exception"]).filter goodWord)
def wsL_setTide : List Cond := .codeWith yL_setTide cL_setTide 5 (some .int) [(0, 10, 13, 19), (0, 10, 17, 21)] :: ([.classLink RL 19 "java/lang/IndexOutOfBoundsException", .classLink RL 21 "java/lang/IllegalArgumentException", .methodLink RL 15 yX1_setTide, .instanceMethod yX1_setTide, .selects RX1 yX1_setTide yX1_setTide, .initialized RX1, .code yX1_setTide cX1_setTide 4 (some .int), .classLink RX1 54 "java/lang/IndexOutOfBoundsException", .initialized "java/lang/IndexOutOfBoundsException", .fieldLink RX1 28 "SandcastleLeague" "tides" "[I", .methodLink RX1 59 yX1_requireLevel, .static yX1_requireLevel, .code yX1_requireLevel cX1_requireLevel 1 none, .classLink RX1 230 "java/lang/IllegalArgumentException", .initialized "java/lang/IllegalArgumentException"] ++ wsX10 ++ (vx_atS RX1 58 "java/lang/IndexOutOfBoundsException" ["java/lang/RuntimeException", "java/lang/Exception"]).filter goodWord ++ (vx_atS RX1 234 "java/lang/IllegalArgumentException" ["java/lang/RuntimeException", "java/lang/Exception"]).filter goodWord)
def wsL_dig_r1 : List Cond := [Cond.classLink RL 19 "java/lang/IndexOutOfBoundsException", Cond.classLink RL 21 "java/lang/IllegalArgumentException", Cond.classLink RL 13 "java/lang/IllegalStateException", Cond.methodLink RL 23 yX1_dig, Cond.instanceMethod yX1_dig, Cond.selects RX1 yX1_dig yX1_dig, Cond.initialized RX1, Cond.code yX1_dig cX1_dig 6 (some .int), Cond.fieldLink RX1 34 "SandcastleLeague" "strength" "[I", Cond.fieldLink RX1 10 "SandcastleLeague" "shore" "LSandcastleLeague$Shore;", Cond.fieldLink RX1 31 "SandcastleLeague" "bucket" "[I", Cond.methodLink RX1 80 Lib.Math.min.name, Cond.static Lib.Math.min.name, Cond.initialized "java/lang/Math", Cond.code Lib.Math.min.name Lib.Math.min.code 2 (some .int), Cond.methodLink RX1 63 yX1_requireTeam, Cond.instanceMethod yX1_requireTeam, Cond.selects RX1 yX1_requireTeam yX1_requireTeam, Cond.code yX1_requireTeam cX1_requireTeam 2 none, Cond.classLink RX1 54 "java/lang/IndexOutOfBoundsException", Cond.initialized "java/lang/IndexOutOfBoundsException", Cond.fieldLink RX1 43 "SandcastleLeague" "teams" "I", Cond.methodLink RX1 66 yX1_requireArea, Cond.static yX1_requireArea]
def wsL_dig_r2 : List Cond := [Cond.code yX1_requireArea cX1_requireArea 3 none, Cond.classLink RX1 230 "java/lang/IllegalArgumentException", Cond.initialized "java/lang/IllegalArgumentException", Cond.methodLink RX1 223 yX1_isOnBeach, Cond.static yX1_isOnBeach, Cond.code yX1_isOnBeach cX1_isOnBeach 2 (some .boolean), Cond.methodLink RX1 76 yX1_cellAt, Cond.static yX1_cellAt, Cond.code yX1_cellAt cX1_cellAt 2 (some .int), Cond.methodLink RX1 190 yX1_isInArea, Cond.static yX1_isInArea, Cond.code yX1_isInArea cX1_isInArea 2 (some .boolean), Cond.methodLink RX1 70 yX1_requireAmount, Cond.static yX1_requireAmount, Cond.code yX1_requireAmount cX1_requireAmount 1 none, Cond.methodLink RX1 73 yX1_requireStrength, Cond.instanceMethod yX1_requireStrength, Cond.selects RX1 yX1_requireStrength yX1_requireStrength, Cond.code yX1_requireStrength cX1_requireStrength 2 none, Cond.classLink RX1 47 "java/lang/IllegalStateException", Cond.initialized "java/lang/IllegalStateException", Cond.methodLink RX1 85 yX0_takeSand, Cond.instanceMethod yX0_takeSand, Cond.selects RX0 yX0_takeSand yX0_takeSand]
def wsL_dig_r3 : List Cond := [Cond.initialized RX0, Cond.code yX0_takeSand cX0_takeSand 4 (some .int), Cond.fieldLink RX0 9 "SandcastleLeague$Shore" "sand" "[I", Cond.methodLink RX0 55 Lib.Math.min.name, Cond.fieldLink RX0 15 "SandcastleLeague$Shore" "firmness" "[I"]
def wsL_dig : List Cond := .codeWith yL_dig cL_dig 7 (some .int) [(0, 14, 17, 19), (0, 14, 21, 21), (0, 14, 25, 13)] :: ((wsL_dig_r1 ++ (wsL_dig_r2 ++ wsL_dig_r3)) ++ wsX10 ++ wsX00 ++ (vx_atS RX1 58 "java/lang/IndexOutOfBoundsException" ["java/lang/RuntimeException", "java/lang/Exception"]).filter goodWord ++ (vx_atS RX1 234 "java/lang/IllegalArgumentException" ["java/lang/RuntimeException", "java/lang/Exception"]).filter goodWord ++ (vx_atS RX1 51 "java/lang/IllegalStateException" ["java/lang/RuntimeException", "java/lang/Exception"]).filter goodWord)
def wsL_pile_r1 : List Cond := [Cond.classLink RL 19 "java/lang/IndexOutOfBoundsException", Cond.classLink RL 21 "java/lang/IllegalArgumentException", Cond.classLink RL 13 "java/lang/IllegalStateException", Cond.methodLink RL 27 yX1_pile, Cond.instanceMethod yX1_pile, Cond.selects RX1 yX1_pile yX1_pile, Cond.initialized RX1, Cond.code yX1_pile cX1_pile 6 (some .int), Cond.fieldLink RX1 34 "SandcastleLeague" "strength" "[I", Cond.fieldLink RX1 10 "SandcastleLeague" "shore" "LSandcastleLeague$Shore;", Cond.fieldLink RX1 31 "SandcastleLeague" "bucket" "[I", Cond.methodLink RX1 80 Lib.Math.min.name, Cond.static Lib.Math.min.name, Cond.initialized "java/lang/Math", Cond.code Lib.Math.min.name Lib.Math.min.code 2 (some .int), Cond.methodLink RX1 63 yX1_requireTeam, Cond.instanceMethod yX1_requireTeam, Cond.selects RX1 yX1_requireTeam yX1_requireTeam, Cond.code yX1_requireTeam cX1_requireTeam 2 none, Cond.classLink RX1 54 "java/lang/IndexOutOfBoundsException", Cond.initialized "java/lang/IndexOutOfBoundsException", Cond.fieldLink RX1 43 "SandcastleLeague" "teams" "I", Cond.methodLink RX1 66 yX1_requireArea, Cond.static yX1_requireArea]
def wsL_pile_r2 : List Cond := [Cond.code yX1_requireArea cX1_requireArea 3 none, Cond.classLink RX1 230 "java/lang/IllegalArgumentException", Cond.initialized "java/lang/IllegalArgumentException", Cond.methodLink RX1 223 yX1_isOnBeach, Cond.static yX1_isOnBeach, Cond.code yX1_isOnBeach cX1_isOnBeach 2 (some .boolean), Cond.methodLink RX1 76 yX1_cellAt, Cond.static yX1_cellAt, Cond.code yX1_cellAt cX1_cellAt 2 (some .int), Cond.methodLink RX1 190 yX1_isInArea, Cond.static yX1_isInArea, Cond.code yX1_isInArea cX1_isInArea 2 (some .boolean), Cond.methodLink RX1 70 yX1_requireAmount, Cond.static yX1_requireAmount, Cond.code yX1_requireAmount cX1_requireAmount 1 none, Cond.methodLink RX1 73 yX1_requireStrength, Cond.instanceMethod yX1_requireStrength, Cond.selects RX1 yX1_requireStrength yX1_requireStrength, Cond.code yX1_requireStrength cX1_requireStrength 2 none, Cond.classLink RX1 47 "java/lang/IllegalStateException", Cond.initialized "java/lang/IllegalStateException", Cond.methodLink RX1 88 yX0_putSand, Cond.instanceMethod yX0_putSand, Cond.selects RX0 yX0_putSand yX0_putSand]
def wsL_pile_r3 : List Cond := [Cond.initialized RX0, Cond.code yX0_putSand cX0_putSand 4 (some .int), Cond.fieldLink RX0 9 "SandcastleLeague$Shore" "sand" "[I", Cond.methodLink RX0 55 Lib.Math.min.name, Cond.methodLink RX0 61 yX0_soften, Cond.instanceMethod yX0_soften, Cond.selects RX0 yX0_soften yX0_soften, Cond.code yX0_soften cX0_soften 2 none, Cond.fieldLink RX0 15 "SandcastleLeague$Shore" "firmness" "[I"]
def wsL_pile : List Cond := .codeWith yL_pile cL_pile 7 (some .int) [(0, 14, 17, 19), (0, 14, 21, 21), (0, 14, 25, 13)] :: ((wsL_pile_r1 ++ (wsL_pile_r2 ++ wsL_pile_r3)) ++ wsX10 ++ wsX00 ++ (vx_atS RX1 58 "java/lang/IndexOutOfBoundsException" ["java/lang/RuntimeException", "java/lang/Exception"]).filter goodWord ++ (vx_atS RX1 234 "java/lang/IllegalArgumentException" ["java/lang/RuntimeException", "java/lang/Exception"]).filter goodWord ++ (vx_atS RX1 51 "java/lang/IllegalStateException" ["java/lang/RuntimeException", "java/lang/Exception"]).filter goodWord)
def wsL_pack_r1 : List Cond := [Cond.classLink RL 19 "java/lang/IndexOutOfBoundsException", Cond.classLink RL 21 "java/lang/IllegalArgumentException", Cond.classLink RL 13 "java/lang/IllegalStateException", Cond.methodLink RL 30 yX1_pack, Cond.instanceMethod yX1_pack, Cond.selects RX1 yX1_pack yX1_pack, Cond.initialized RX1, Cond.code yX1_pack cX1_pack 4 (some .int), Cond.fieldLink RX1 34 "SandcastleLeague" "strength" "[I", Cond.fieldLink RX1 10 "SandcastleLeague" "shore" "LSandcastleLeague$Shore;", Cond.methodLink RX1 63 yX1_requireTeam, Cond.instanceMethod yX1_requireTeam, Cond.selects RX1 yX1_requireTeam yX1_requireTeam, Cond.code yX1_requireTeam cX1_requireTeam 2 none, Cond.classLink RX1 54 "java/lang/IndexOutOfBoundsException", Cond.initialized "java/lang/IndexOutOfBoundsException", Cond.fieldLink RX1 43 "SandcastleLeague" "teams" "I", Cond.methodLink RX1 66 yX1_requireArea, Cond.static yX1_requireArea, Cond.code yX1_requireArea cX1_requireArea 3 none, Cond.classLink RX1 230 "java/lang/IllegalArgumentException", Cond.initialized "java/lang/IllegalArgumentException", Cond.methodLink RX1 223 yX1_isOnBeach, Cond.static yX1_isOnBeach]
def wsL_pack_r2 : List Cond := [Cond.code yX1_isOnBeach cX1_isOnBeach 2 (some .boolean), Cond.methodLink RX1 76 yX1_cellAt, Cond.static yX1_cellAt, Cond.code yX1_cellAt cX1_cellAt 2 (some .int), Cond.methodLink RX1 190 yX1_isInArea, Cond.static yX1_isInArea, Cond.code yX1_isInArea cX1_isInArea 2 (some .boolean), Cond.methodLink RX1 73 yX1_requireStrength, Cond.instanceMethod yX1_requireStrength, Cond.selects RX1 yX1_requireStrength yX1_requireStrength, Cond.code yX1_requireStrength cX1_requireStrength 2 none, Cond.classLink RX1 47 "java/lang/IllegalStateException", Cond.initialized "java/lang/IllegalStateException", Cond.methodLink RX1 91 yX0_harden, Cond.instanceMethod yX0_harden, Cond.selects RX0 yX0_harden yX0_harden, Cond.initialized RX0, Cond.code yX0_harden cX0_harden 2 (some .int), Cond.fieldLink RX0 9 "SandcastleLeague$Shore" "sand" "[I", Cond.fieldLink RX0 15 "SandcastleLeague$Shore" "firmness" "[I", Cond.methodLink RX0 65 yX0_isWet, Cond.instanceMethod yX0_isWet, Cond.selects RX0 yX0_isWet yX0_isWet, Cond.code yX0_isWet cX0_isWet 2 (some .boolean)]
def wsL_pack_r3 : List Cond := [Cond.fieldLink RX0 18 "SandcastleLeague$Shore" "water" "[I"]
def wsL_pack : List Cond := .codeWith yL_pack cL_pack 6 (some .int) [(0, 12, 15, 19), (0, 12, 19, 21), (0, 12, 23, 13)] :: ((wsL_pack_r1 ++ (wsL_pack_r2 ++ wsL_pack_r3)) ++ wsX10 ++ wsX00 ++ (vx_atS RX1 58 "java/lang/IndexOutOfBoundsException" ["java/lang/RuntimeException", "java/lang/Exception"]).filter goodWord ++ (vx_atS RX1 234 "java/lang/IllegalArgumentException" ["java/lang/RuntimeException", "java/lang/Exception"]).filter goodWord ++ (vx_atS RX1 51 "java/lang/IllegalStateException" ["java/lang/RuntimeException", "java/lang/Exception"]).filter goodWord)
def wsL_plant_r1 : List Cond := [Cond.classLink RL 19 "java/lang/IndexOutOfBoundsException", Cond.classLink RL 21 "java/lang/IllegalArgumentException", Cond.classLink RL 13 "java/lang/IllegalStateException", Cond.methodLink RL 34 yX1_plant, Cond.instanceMethod yX1_plant, Cond.selects RX1 yX1_plant yX1_plant, Cond.initialized RX1, Cond.code yX1_plant cX1_plant 4 (some .int), Cond.classLink RX1 47 "java/lang/IllegalStateException", Cond.initialized "java/lang/IllegalStateException", Cond.fieldLink RX1 10 "SandcastleLeague" "shore" "LSandcastleLeague$Shore;", Cond.fieldLink RX1 34 "SandcastleLeague" "strength" "[I", Cond.methodLink RX1 63 yX1_requireTeam, Cond.instanceMethod yX1_requireTeam, Cond.selects RX1 yX1_requireTeam yX1_requireTeam, Cond.code yX1_requireTeam cX1_requireTeam 2 none, Cond.classLink RX1 54 "java/lang/IndexOutOfBoundsException", Cond.initialized "java/lang/IndexOutOfBoundsException", Cond.fieldLink RX1 43 "SandcastleLeague" "teams" "I", Cond.methodLink RX1 66 yX1_requireArea, Cond.static yX1_requireArea, Cond.code yX1_requireArea cX1_requireArea 3 none, Cond.classLink RX1 230 "java/lang/IllegalArgumentException", Cond.initialized "java/lang/IllegalArgumentException"]
def wsL_plant_r2 : List Cond := [Cond.methodLink RX1 223 yX1_isOnBeach, Cond.static yX1_isOnBeach, Cond.code yX1_isOnBeach cX1_isOnBeach 2 (some .boolean), Cond.methodLink RX1 76 yX1_cellAt, Cond.static yX1_cellAt, Cond.code yX1_cellAt cX1_cellAt 2 (some .int), Cond.methodLink RX1 190 yX1_isInArea, Cond.static yX1_isInArea, Cond.code yX1_isInArea cX1_isInArea 2 (some .boolean), Cond.methodLink RX1 73 yX1_requireStrength, Cond.instanceMethod yX1_requireStrength, Cond.selects RX1 yX1_requireStrength yX1_requireStrength, Cond.code yX1_requireStrength cX1_requireStrength 2 none, Cond.methodLink RX1 95 yX0_sticksOf, Cond.instanceMethod yX0_sticksOf, Cond.selects RX0 yX0_sticksOf yX0_sticksOf, Cond.initialized RX0, Cond.code yX0_sticksOf cX0_sticksOf 4 (some .int), Cond.fieldLink RX0 21 "SandcastleLeague$Shore" "owner" "[I", Cond.methodLink RX1 100 yX0_isFree, Cond.instanceMethod yX0_isFree, Cond.selects RX0 yX0_isFree yX0_isFree, Cond.code yX0_isFree cX0_isFree 2 (some .boolean), Cond.methodLink RX0 108 yX0_hasStick]
def wsL_plant_r3 : List Cond := [Cond.instanceMethod yX0_hasStick, Cond.selects RX0 yX0_hasStick yX0_hasStick, Cond.code yX0_hasStick cX0_hasStick 2 (some .boolean), Cond.methodLink RX0 65 yX0_isWet, Cond.instanceMethod yX0_isWet, Cond.selects RX0 yX0_isWet yX0_isWet, Cond.code yX0_isWet cX0_isWet 2 (some .boolean), Cond.fieldLink RX0 18 "SandcastleLeague$Shore" "water" "[I", Cond.methodLink RX1 106 yX0_putStick, Cond.instanceMethod yX0_putStick, Cond.selects RX0 yX0_putStick yX0_putStick, Cond.code yX0_putStick cX0_putStick 3 none, Cond.fieldLink RX0 24 "SandcastleLeague$Shore" "plantedHeight" "[I", Cond.methodLink RX0 69 yX0_height, Cond.instanceMethod yX0_height, Cond.selects RX0 yX0_height yX0_height, Cond.code yX0_height cX0_height 2 (some .int), Cond.fieldLink RX0 9 "SandcastleLeague$Shore" "sand" "[I"]
def wsL_plant : List Cond := .codeWith yL_plant cL_plant 6 (some .int) [(0, 12, 15, 19), (0, 12, 19, 21), (0, 12, 23, 13)] :: ((wsL_plant_r1 ++ (wsL_plant_r2 ++ wsL_plant_r3)) ++ wsX10 ++ wsX00 ++ (vx_atS RX1 51 "java/lang/IllegalStateException" ["java/lang/RuntimeException", "java/lang/Exception"]).filter goodWord ++ (vx_atS RX1 58 "java/lang/IndexOutOfBoundsException" ["java/lang/RuntimeException", "java/lang/Exception"]).filter goodWord ++ (vx_atS RX1 234 "java/lang/IllegalArgumentException" ["java/lang/RuntimeException", "java/lang/Exception"]).filter goodWord)
def wsL_cell_r1 : List Cond := [Cond.classLink RL 19 "java/lang/IndexOutOfBoundsException", Cond.methodLink RL 37 yX1_cell, Cond.instanceMethod yX1_cell, Cond.selects RX1 yX1_cell yX1_cell, Cond.initialized RX1, Cond.code yX1_cell cX1_cell 4 (some .int), Cond.fieldLink RX1 10 "SandcastleLeague" "shore" "LSandcastleLeague$Shore;", Cond.methodLink RX1 110 yX1_requireCell, Cond.static yX1_requireCell, Cond.code yX1_requireCell cX1_requireCell 2 none, Cond.classLink RX1 54 "java/lang/IndexOutOfBoundsException", Cond.initialized "java/lang/IndexOutOfBoundsException", Cond.methodLink RX1 223 yX1_isOnBeach, Cond.static yX1_isOnBeach, Cond.code yX1_isOnBeach cX1_isOnBeach 2 (some .boolean), Cond.methodLink RX1 113 yX1_requireWhat, Cond.static yX1_requireWhat, Cond.code yX1_requireWhat cX1_requireWhat 2 none, Cond.methodLink RX1 76 yX1_cellAt, Cond.static yX1_cellAt, Cond.code yX1_cellAt cX1_cellAt 2 (some .int), Cond.methodLink RX1 116 yX0_tellCell, Cond.instanceMethod yX0_tellCell, Cond.selects RX0 yX0_tellCell yX0_tellCell]
def wsL_cell_r2 : List Cond := [Cond.initialized RX0, Cond.code yX0_tellCell cX0_tellCell 3 (some .int), Cond.fieldLink RX0 9 "SandcastleLeague$Shore" "sand" "[I", Cond.fieldLink RX0 15 "SandcastleLeague$Shore" "firmness" "[I", Cond.fieldLink RX0 18 "SandcastleLeague$Shore" "water" "[I", Cond.fieldLink RX0 24 "SandcastleLeague$Shore" "plantedHeight" "[I", Cond.methodLink RX0 69 yX0_height, Cond.instanceMethod yX0_height, Cond.selects RX0 yX0_height yX0_height, Cond.code yX0_height cX0_height 2 (some .int), Cond.methodLink RX0 108 yX0_hasStick, Cond.instanceMethod yX0_hasStick, Cond.selects RX0 yX0_hasStick yX0_hasStick, Cond.code yX0_hasStick cX0_hasStick 2 (some .boolean), Cond.fieldLink RX0 21 "SandcastleLeague$Shore" "owner" "[I"]
def wsL_cell : List Cond := .codeWith yL_cell cL_cell 6 (some .int) [(0, 12, 15, 19)] :: ((wsL_cell_r1 ++ wsL_cell_r2) ++ wsX10 ++ wsX00 ++ (vx_atS RX1 58 "java/lang/IndexOutOfBoundsException" ["java/lang/RuntimeException", "java/lang/Exception"]).filter goodWord)
def wsL_team_r1 : List Cond := [Cond.classLink RL 19 "java/lang/IndexOutOfBoundsException", Cond.methodLink RL 40 yX1_team, Cond.instanceMethod yX1_team, Cond.selects RX1 yX1_team yX1_team, Cond.initialized RX1, Cond.code yX1_team cX1_team 3 (some .int), Cond.fieldLink RX1 31 "SandcastleLeague" "bucket" "[I", Cond.fieldLink RX1 34 "SandcastleLeague" "strength" "[I", Cond.fieldLink RX1 10 "SandcastleLeague" "shore" "LSandcastleLeague$Shore;", Cond.fieldLink RX1 37 "SandcastleLeague" "leaguePoints" "[I", Cond.methodLink RX1 63 yX1_requireTeam, Cond.instanceMethod yX1_requireTeam, Cond.selects RX1 yX1_requireTeam yX1_requireTeam, Cond.code yX1_requireTeam cX1_requireTeam 2 none, Cond.classLink RX1 54 "java/lang/IndexOutOfBoundsException", Cond.initialized "java/lang/IndexOutOfBoundsException", Cond.fieldLink RX1 43 "SandcastleLeague" "teams" "I", Cond.methodLink RX1 113 yX1_requireWhat, Cond.static yX1_requireWhat, Cond.code yX1_requireWhat cX1_requireWhat 2 none, Cond.methodLink RX1 119 yX0_pointsOf, Cond.instanceMethod yX0_pointsOf, Cond.selects RX0 yX0_pointsOf yX0_pointsOf, Cond.initialized RX0]
def wsL_team_r2 : List Cond := [Cond.code yX0_pointsOf cX0_pointsOf 2 (some .int), Cond.fieldLink RX0 27 "SandcastleLeague$Shore" "points" "[I", Cond.methodLink RX1 95 yX0_sticksOf, Cond.instanceMethod yX0_sticksOf, Cond.selects RX0 yX0_sticksOf yX0_sticksOf, Cond.code yX0_sticksOf cX0_sticksOf 4 (some .int), Cond.fieldLink RX0 21 "SandcastleLeague$Shore" "owner" "[I", Cond.methodLink RX1 122 yX0_sandOfArea, Cond.instanceMethod yX0_sandOfArea, Cond.selects RX0 yX0_sandOfArea yX0_sandOfArea, Cond.code yX0_sandOfArea cX0_sandOfArea 2 (some .int), Cond.fieldLink RX0 9 "SandcastleLeague$Shore" "sand" "[I", Cond.methodLink RX0 111 yX0_sumOfArea, Cond.static yX0_sumOfArea, Cond.code yX0_sumOfArea cX0_sumOfArea 4 (some .int), Cond.static yX1_isInArea, Cond.code yX1_isInArea cX1_isInArea 2 (some .boolean), Cond.methodLink RX1 125 yX0_greatestHeightOfArea, Cond.instanceMethod yX0_greatestHeightOfArea, Cond.selects RX0 yX0_greatestHeightOfArea yX0_greatestHeightOfArea, Cond.code yX0_greatestHeightOfArea cX0_greatestHeightOfArea 4 (some .int), Cond.methodLink RX0 95 Lib.Math.max.name, Cond.static Lib.Math.max.name, Cond.initialized "java/lang/Math"]
def wsL_team_r3 : List Cond := [Cond.code Lib.Math.max.name Lib.Math.max.code 2 (some .int), Cond.methodLink RX0 69 yX0_height, Cond.instanceMethod yX0_height, Cond.selects RX0 yX0_height yX0_height, Cond.code yX0_height cX0_height 2 (some .int), Cond.methodLink RX1 128 yX0_waterOfArea, Cond.instanceMethod yX0_waterOfArea, Cond.selects RX0 yX0_waterOfArea yX0_waterOfArea, Cond.code yX0_waterOfArea cX0_waterOfArea 2 (some .int), Cond.fieldLink RX0 18 "SandcastleLeague$Shore" "water" "[I"]
def wsL_team : List Cond := .codeWith yL_team cL_team 5 (some .int) [(0, 10, 13, 19)] :: ((wsL_team_r1 ++ (wsL_team_r2 ++ wsL_team_r3)) ++ wsX10 ++ wsX00 ++ (vx_atS RX1 58 "java/lang/IndexOutOfBoundsException" ["java/lang/RuntimeException", "java/lang/Exception"]).filter goodWord)
def wsL_count_r1 : List Cond := [Cond.classLink RL 19 "java/lang/IndexOutOfBoundsException", Cond.methodLink RL 43 yX1_count, Cond.instanceMethod yX1_count, Cond.selects RX1 yX1_count yX1_count, Cond.initialized RX1, Cond.code yX1_count cX1_count 2 (some .int), Cond.fieldLink RX1 131 "SandcastleLeague" "hour" "I", Cond.fieldLink RX1 43 "SandcastleLeague" "teams" "I", Cond.fieldLink RX1 10 "SandcastleLeague" "shore" "LSandcastleLeague$Shore;", Cond.fieldLink RX1 153 "SandcastleLeague" "endedRounds" "I", Cond.methodLink RX1 113 yX1_requireWhat, Cond.static yX1_requireWhat, Cond.code yX1_requireWhat cX1_requireWhat 2 none, Cond.classLink RX1 54 "java/lang/IndexOutOfBoundsException", Cond.initialized "java/lang/IndexOutOfBoundsException", Cond.methodLink RX1 134 yX0_allWater, Cond.instanceMethod yX0_allWater, Cond.selects RX0 yX0_allWater yX0_allWater, Cond.initialized RX0, Cond.code yX0_allWater cX0_allWater 1 (some .int), Cond.fieldLink RX0 18 "SandcastleLeague$Shore" "water" "[I", Cond.methodLink RX0 118 yX0_sum, Cond.static yX0_sum, Cond.code yX0_sum cX0_sum 6 (some .int)]
def wsL_count_r2 : List Cond := [Cond.methodLink RX1 138 yX0_allSand, Cond.instanceMethod yX0_allSand, Cond.selects RX0 yX0_allSand yX0_allSand, Cond.code yX0_allSand cX0_allSand 1 (some .int), Cond.fieldLink RX0 9 "SandcastleLeague$Shore" "sand" "[I", Cond.methodLink RX1 147 yX0_allSticks, Cond.instanceMethod yX0_allSticks, Cond.selects RX0 yX0_allSticks yX0_allSticks, Cond.code yX0_allSticks cX0_allSticks 3 (some .int), Cond.methodLink RX0 108 yX0_hasStick, Cond.instanceMethod yX0_hasStick, Cond.selects RX0 yX0_hasStick yX0_hasStick, Cond.code yX0_hasStick cX0_hasStick 2 (some .boolean), Cond.fieldLink RX0 21 "SandcastleLeague$Shore" "owner" "[I"]
def wsL_count : List Cond := .codeWith yL_count cL_count 4 (some .int) [(0, 9, 12, 19)] :: ((wsL_count_r1 ++ wsL_count_r2) ++ wsX10 ++ wsX00 ++ (vx_atS RX1 58 "java/lang/IndexOutOfBoundsException" ["java/lang/RuntimeException", "java/lang/Exception"]).filter goodWord)
def wsL_pass_r1 : List Cond := [Cond.classLink RL 21 "java/lang/IllegalArgumentException", Cond.methodLink RL 47 yX1_pass, Cond.instanceMethod yX1_pass, Cond.selects RX1 yX1_pass yX1_pass, Cond.initialized RX1, Cond.code yX1_pass cX1_pass 3 (some .int), Cond.fieldLink RX1 10 "SandcastleLeague" "shore" "LSandcastleLeague$Shore;", Cond.fieldLink RX1 131 "SandcastleLeague" "hour" "I", Cond.fieldLink RX1 34 "SandcastleLeague" "strength" "[I", Cond.methodLink RX1 156 yX1_requireHours, Cond.static yX1_requireHours, Cond.code yX1_requireHours cX1_requireHours 2 none, Cond.classLink RX1 230 "java/lang/IllegalArgumentException", Cond.initialized "java/lang/IllegalArgumentException", Cond.methodLink RX1 159 yX1_letHoursGoBy, Cond.instanceMethod yX1_letHoursGoBy, Cond.selects RX1 yX1_letHoursGoBy yX1_letHoursGoBy, Cond.code yX1_letHoursGoBy cX1_letHoursGoBy 4 none, Cond.fieldLink RX1 28 "SandcastleLeague" "tides" "[I", Cond.methodLink RX1 212 yJ9_floorMod_7cf53, Cond.static yJ9_floorMod_7cf53, Cond.initialized RJ9, Cond.code yJ9_floorMod_7cf53 cJ9_floorMod_7cf53 3 (some .int), Cond.methodLink RX1 215 yX0_letHourGoBy]
def wsL_pass_r2 : List Cond := [Cond.instanceMethod yX0_letHourGoBy, Cond.selects RX0 yX0_letHourGoBy yX0_letHourGoBy, Cond.initialized RX0, Cond.code yX0_letHourGoBy cX0_letHourGoBy 2 none, Cond.fieldLink RX0 43 "SandcastleLeague$Shore" "slides" "I", Cond.methodLink RX0 73 yX0_findWater, Cond.instanceMethod yX0_findWater, Cond.selects RX0 yX0_findWater yX0_findWater, Cond.code yX0_findWater cX0_findWater 4 none, Cond.fieldLink RX0 18 "SandcastleLeague$Shore" "water" "[I", Cond.methodLink RX0 30 yJ7_fill_53178, Cond.static yJ7_fill_53178, Cond.initialized RJ7, Cond.code yJ7_fill_53178 cJ7_fill_53178 4 none, Cond.methodLink RX0 86 yX0_sweepWater, Cond.instanceMethod yX0_sweepWater, Cond.selects RX0 yX0_sweepWater yX0_sweepWater, Cond.code yX0_sweepWater cX0_sweepWater 4 (some .boolean), Cond.methodLink RX0 65 yX0_isWet, Cond.instanceMethod yX0_isWet, Cond.selects RX0 yX0_isWet yX0_isWet, Cond.code yX0_isWet cX0_isWet 2 (some .boolean), Cond.methodLink RX0 69 yX0_height, Cond.instanceMethod yX0_height]
def wsL_pass_r3 : List Cond := [Cond.selects RX0 yX0_height yX0_height, Cond.code yX0_height cX0_height 2 (some .int), Cond.fieldLink RX0 9 "SandcastleLeague$Shore" "sand" "[I", Cond.methodLink RX0 89 yX0_isOpenToSea, Cond.instanceMethod yX0_isOpenToSea, Cond.selects RX0 yX0_isOpenToSea yX0_isOpenToSea, Cond.code yX0_isOpenToSea cX0_isOpenToSea 4 (some .boolean), Cond.methodLink RX0 92 yX0_beside, Cond.static yX0_beside, Cond.code yX0_beside cX0_beside 3 (some .int), Cond.methodLink RX0 76 yX0_washSandAway, Cond.instanceMethod yX0_washSandAway, Cond.selects RX0 yX0_washSandAway yX0_washSandAway, Cond.code yX0_washSandAway cX0_washSandAway 4 none, Cond.fieldLink RX0 15 "SandcastleLeague$Shore" "firmness" "[I", Cond.methodLink RX0 95 Lib.Math.max.name, Cond.static Lib.Math.max.name, Cond.initialized "java/lang/Math", Cond.code Lib.Math.max.name Lib.Math.max.code 2 (some .int), Cond.methodLink RX0 55 Lib.Math.min.name, Cond.static Lib.Math.min.name, Cond.code Lib.Math.min.name Lib.Math.min.code 2 (some .int), Cond.fieldLink RX0 39 "SandcastleLeague$Shore" "lostSand" "I", Cond.methodLink RX0 61 yX0_soften]
def wsL_pass_r4 : List Cond := [Cond.instanceMethod yX0_soften, Cond.selects RX0 yX0_soften yX0_soften, Cond.code yX0_soften cX0_soften 2 none, Cond.methodLink RX0 79 yX0_letSandSlide, Cond.instanceMethod yX0_letSandSlide, Cond.selects RX0 yX0_letSandSlide yX0_letSandSlide, Cond.code yX0_letSandSlide cX0_letSandSlide 4 (some .int), Cond.methodLink RX0 98 yX0_slideOnce, Cond.instanceMethod yX0_slideOnce, Cond.selects RX0 yX0_slideOnce yX0_slideOnce, Cond.code yX0_slideOnce cX0_slideOnce 4 (some .int), Cond.methodLink RX0 101 yX0_lowestBeside, Cond.instanceMethod yX0_lowestBeside, Cond.selects RX0 yX0_lowestBeside yX0_lowestBeside, Cond.code yX0_lowestBeside cX0_lowestBeside 5 (some .int), Cond.methodLink RX0 104 yX0_slidesTo, Cond.instanceMethod yX0_slidesTo, Cond.selects RX0 yX0_slidesTo yX0_slidesTo, Cond.code yX0_slidesTo cX0_slidesTo 3 (some .boolean), Cond.methodLink RX0 83 yX0_judgeSticks, Cond.instanceMethod yX0_judgeSticks, Cond.selects RX0 yX0_judgeSticks yX0_judgeSticks, Cond.code yX0_judgeSticks cX0_judgeSticks 3 none, Cond.fieldLink RX0 21 "SandcastleLeague$Shore" "owner" "[I"]
def wsL_pass_r5 : List Cond := [Cond.fieldLink RX0 24 "SandcastleLeague$Shore" "plantedHeight" "[I", Cond.fieldLink RX0 46 "SandcastleLeague$Shore" "fallenSticks" "I", Cond.fieldLink RX0 27 "SandcastleLeague$Shore" "points" "[I", Cond.methodLink RX1 163 yJ7_fill_53178]
def wsL_pass : List Cond := .codeWith yL_pass cL_pass 4 (some .int) [(0, 9, 12, 21)] :: ((wsL_pass_r1 ++ (wsL_pass_r2 ++ (wsL_pass_r3 ++ (wsL_pass_r4 ++ wsL_pass_r5)))) ++ wsX10 ++ wsX00 ++ (vx_atS RX1 234 "java/lang/IllegalArgumentException" ["java/lang/RuntimeException", "java/lang/Exception"]).filter goodWord)
def wsL_leader_r1 : List Cond := [Cond.classLink RL 19 "java/lang/IndexOutOfBoundsException", Cond.methodLink RL 50 yX1_leader, Cond.instanceMethod yX1_leader, Cond.selects RX1 yX1_leader yX1_leader, Cond.initialized RX1, Cond.code yX1_leader cX1_leader 4 (some .int), Cond.classLink RX1 54 "java/lang/IndexOutOfBoundsException", Cond.initialized "java/lang/IndexOutOfBoundsException", Cond.fieldLink RX1 43 "SandcastleLeague" "teams" "I", Cond.methodLink RX1 174 yX1_teamsAheadOf, Cond.instanceMethod yX1_teamsAheadOf, Cond.selects RX1 yX1_teamsAheadOf yX1_teamsAheadOf, Cond.code yX1_teamsAheadOf cX1_teamsAheadOf 4 (some .int), Cond.methodLink RX1 218 yX1_isAhead, Cond.instanceMethod yX1_isAhead, Cond.selects RX1 yX1_isAhead yX1_isAhead, Cond.code yX1_isAhead cX1_isAhead 3 (some .boolean), Cond.fieldLink RX1 37 "SandcastleLeague" "leaguePoints" "[I", Cond.fieldLink RX1 10 "SandcastleLeague" "shore" "LSandcastleLeague$Shore;", Cond.methodLink RX1 119 yX0_pointsOf, Cond.instanceMethod yX0_pointsOf, Cond.selects RX0 yX0_pointsOf yX0_pointsOf, Cond.initialized RX0, Cond.code yX0_pointsOf cX0_pointsOf 2 (some .int)]
def wsL_leader_r2 : List Cond := [Cond.fieldLink RX0 27 "SandcastleLeague$Shore" "points" "[I"]
def wsL_leader : List Cond := .codeWith yL_leader cL_leader 4 (some .int) [(0, 9, 12, 19)] :: ((wsL_leader_r1 ++ wsL_leader_r2) ++ wsX10 ++ wsX00 ++ (vx_atS RX1 58 "java/lang/IndexOutOfBoundsException" ["java/lang/RuntimeException", "java/lang/Exception"]).filter goodWord)
def wsL_flood_r1 : List Cond := [Cond.classLink RL 21 "java/lang/IllegalArgumentException", Cond.methodLink RL 53 yX1_flood, Cond.instanceMethod yX1_flood, Cond.selects RX1 yX1_flood yX1_flood, Cond.initialized RX1, Cond.code yX1_flood cX1_flood 2 (some .int), Cond.fieldLink RX1 16 "SandcastleLeague" "trial" "LSandcastleLeague$Shore;", Cond.fieldLink RX1 10 "SandcastleLeague" "shore" "LSandcastleLeague$Shore;", Cond.methodLink RX1 59 yX1_requireLevel, Cond.static yX1_requireLevel, Cond.code yX1_requireLevel cX1_requireLevel 1 none, Cond.classLink RX1 230 "java/lang/IllegalArgumentException", Cond.initialized "java/lang/IllegalArgumentException", Cond.methodLink RX1 177 yX0_become, Cond.instanceMethod yX0_become, Cond.selects RX0 yX0_become yX0_become, Cond.initialized RX0, Cond.code yX0_become cX0_become 2 none, Cond.fieldLink RX0 9 "SandcastleLeague$Shore" "sand" "[I", Cond.methodLink RX0 49 arraycopyName, Cond.native arraycopyName, Cond.static arraycopyName, Cond.initialized "java/lang/System", Cond.fieldLink RX0 15 "SandcastleLeague$Shore" "firmness" "[I"]
def wsL_flood_r2 : List Cond := [Cond.fieldLink RX0 18 "SandcastleLeague$Shore" "water" "[I", Cond.fieldLink RX0 21 "SandcastleLeague$Shore" "owner" "[I", Cond.fieldLink RX0 24 "SandcastleLeague$Shore" "plantedHeight" "[I", Cond.fieldLink RX0 27 "SandcastleLeague$Shore" "points" "[I", Cond.fieldLink RX0 39 "SandcastleLeague$Shore" "lostSand" "I", Cond.fieldLink RX0 43 "SandcastleLeague$Shore" "slides" "I", Cond.fieldLink RX0 46 "SandcastleLeague$Shore" "fallenSticks" "I", Cond.methodLink RX1 181 yX0_findWater, Cond.instanceMethod yX0_findWater, Cond.selects RX0 yX0_findWater yX0_findWater, Cond.code yX0_findWater cX0_findWater 4 none, Cond.methodLink RX0 30 yJ7_fill_53178, Cond.static yJ7_fill_53178, Cond.initialized RJ7, Cond.code yJ7_fill_53178 cJ7_fill_53178 4 none, Cond.methodLink RX0 86 yX0_sweepWater, Cond.instanceMethod yX0_sweepWater, Cond.selects RX0 yX0_sweepWater yX0_sweepWater, Cond.code yX0_sweepWater cX0_sweepWater 4 (some .boolean), Cond.methodLink RX0 65 yX0_isWet, Cond.instanceMethod yX0_isWet, Cond.selects RX0 yX0_isWet yX0_isWet, Cond.code yX0_isWet cX0_isWet 2 (some .boolean), Cond.methodLink RX0 69 yX0_height]
def wsL_flood_r3 : List Cond := [Cond.instanceMethod yX0_height, Cond.selects RX0 yX0_height yX0_height, Cond.code yX0_height cX0_height 2 (some .int), Cond.methodLink RX0 89 yX0_isOpenToSea, Cond.instanceMethod yX0_isOpenToSea, Cond.selects RX0 yX0_isOpenToSea yX0_isOpenToSea, Cond.code yX0_isOpenToSea cX0_isOpenToSea 4 (some .boolean), Cond.methodLink RX0 92 yX0_beside, Cond.static yX0_beside, Cond.code yX0_beside cX0_beside 3 (some .int), Cond.methodLink RX1 134 yX0_allWater, Cond.instanceMethod yX0_allWater, Cond.selects RX0 yX0_allWater yX0_allWater, Cond.code yX0_allWater cX0_allWater 1 (some .int), Cond.methodLink RX0 118 yX0_sum, Cond.static yX0_sum, Cond.code yX0_sum cX0_sum 6 (some .int)]
def wsL_flood : List Cond := .codeWith yL_flood cL_flood 4 (some .int) [(0, 9, 12, 21)] :: ((wsL_flood_r1 ++ (wsL_flood_r2 ++ wsL_flood_r3)) ++ wsX10 ++ wsX00 ++ (vx_atS RX1 234 "java/lang/IllegalArgumentException" ["java/lang/RuntimeException", "java/lang/Exception"]).filter goodWord)
def wsL_reach_r1 : List Cond := [Cond.classLink RL 19 "java/lang/IndexOutOfBoundsException", Cond.methodLink RL 56 yX1_reach, Cond.instanceMethod yX1_reach, Cond.selects RX1 yX1_reach yX1_reach, Cond.initialized RX1, Cond.code yX1_reach cX1_reach 5 (some .int), Cond.fieldLink RX1 16 "SandcastleLeague" "trial" "LSandcastleLeague$Shore;", Cond.fieldLink RX1 10 "SandcastleLeague" "shore" "LSandcastleLeague$Shore;", Cond.methodLink RX1 110 yX1_requireCell, Cond.static yX1_requireCell, Cond.code yX1_requireCell cX1_requireCell 2 none, Cond.classLink RX1 54 "java/lang/IndexOutOfBoundsException", Cond.initialized "java/lang/IndexOutOfBoundsException", Cond.methodLink RX1 223 yX1_isOnBeach, Cond.static yX1_isOnBeach, Cond.code yX1_isOnBeach cX1_isOnBeach 2 (some .boolean), Cond.methodLink RX1 76 yX1_cellAt, Cond.static yX1_cellAt, Cond.code yX1_cellAt cX1_cellAt 2 (some .int), Cond.methodLink RX1 177 yX0_become, Cond.instanceMethod yX0_become, Cond.selects RX0 yX0_become yX0_become, Cond.initialized RX0, Cond.code yX0_become cX0_become 2 none]
def wsL_reach_r2 : List Cond := [Cond.fieldLink RX0 9 "SandcastleLeague$Shore" "sand" "[I", Cond.methodLink RX0 49 arraycopyName, Cond.native arraycopyName, Cond.static arraycopyName, Cond.initialized "java/lang/System", Cond.fieldLink RX0 15 "SandcastleLeague$Shore" "firmness" "[I", Cond.fieldLink RX0 18 "SandcastleLeague$Shore" "water" "[I", Cond.fieldLink RX0 21 "SandcastleLeague$Shore" "owner" "[I", Cond.fieldLink RX0 24 "SandcastleLeague$Shore" "plantedHeight" "[I", Cond.fieldLink RX0 27 "SandcastleLeague$Shore" "points" "[I", Cond.fieldLink RX0 39 "SandcastleLeague$Shore" "lostSand" "I", Cond.fieldLink RX0 43 "SandcastleLeague$Shore" "slides" "I", Cond.fieldLink RX0 46 "SandcastleLeague$Shore" "fallenSticks" "I", Cond.methodLink RX1 181 yX0_findWater, Cond.instanceMethod yX0_findWater, Cond.selects RX0 yX0_findWater yX0_findWater, Cond.code yX0_findWater cX0_findWater 4 none, Cond.methodLink RX0 30 yJ7_fill_53178, Cond.static yJ7_fill_53178, Cond.initialized RJ7, Cond.code yJ7_fill_53178 cJ7_fill_53178 4 none, Cond.methodLink RX0 86 yX0_sweepWater, Cond.instanceMethod yX0_sweepWater, Cond.selects RX0 yX0_sweepWater yX0_sweepWater]
def wsL_reach_r3 : List Cond := [Cond.code yX0_sweepWater cX0_sweepWater 4 (some .boolean), Cond.methodLink RX0 65 yX0_isWet, Cond.instanceMethod yX0_isWet, Cond.selects RX0 yX0_isWet yX0_isWet, Cond.code yX0_isWet cX0_isWet 2 (some .boolean), Cond.methodLink RX0 69 yX0_height, Cond.instanceMethod yX0_height, Cond.selects RX0 yX0_height yX0_height, Cond.code yX0_height cX0_height 2 (some .int), Cond.methodLink RX0 89 yX0_isOpenToSea, Cond.instanceMethod yX0_isOpenToSea, Cond.selects RX0 yX0_isOpenToSea yX0_isOpenToSea, Cond.code yX0_isOpenToSea cX0_isOpenToSea 4 (some .boolean), Cond.methodLink RX0 92 yX0_beside, Cond.static yX0_beside, Cond.code yX0_beside cX0_beside 3 (some .int), Cond.methodLink RX1 184 yX0_isWet]
def wsL_reach : List Cond := .codeWith yL_reach cL_reach 5 (some .int) [(0, 10, 13, 19)] :: ((wsL_reach_r1 ++ (wsL_reach_r2 ++ wsL_reach_r3)) ++ wsX10 ++ wsX00 ++ (vx_atS RX1 58 "java/lang/IndexOutOfBoundsException" ["java/lang/RuntimeException", "java/lang/Exception"]).filter goodWord)
def wsL_foresee_r1 : List Cond := [Cond.classLink RL 21 "java/lang/IllegalArgumentException", Cond.classLink RL 19 "java/lang/IndexOutOfBoundsException", Cond.methodLink RL 59 yX1_foresee, Cond.instanceMethod yX1_foresee, Cond.selects RX1 yX1_foresee yX1_foresee, Cond.initialized RX1, Cond.code yX1_foresee cX1_foresee 4 (some .int), Cond.fieldLink RX1 16 "SandcastleLeague" "trial" "LSandcastleLeague$Shore;", Cond.fieldLink RX1 10 "SandcastleLeague" "shore" "LSandcastleLeague$Shore;", Cond.methodLink RX1 156 yX1_requireHours, Cond.static yX1_requireHours, Cond.code yX1_requireHours cX1_requireHours 2 none, Cond.classLink RX1 230 "java/lang/IllegalArgumentException", Cond.initialized "java/lang/IllegalArgumentException", Cond.methodLink RX1 63 yX1_requireTeam, Cond.instanceMethod yX1_requireTeam, Cond.selects RX1 yX1_requireTeam yX1_requireTeam, Cond.code yX1_requireTeam cX1_requireTeam 2 none, Cond.classLink RX1 54 "java/lang/IndexOutOfBoundsException", Cond.initialized "java/lang/IndexOutOfBoundsException", Cond.fieldLink RX1 43 "SandcastleLeague" "teams" "I", Cond.methodLink RX1 113 yX1_requireWhat, Cond.static yX1_requireWhat, Cond.code yX1_requireWhat cX1_requireWhat 2 none]
def wsL_foresee_r2 : List Cond := [Cond.methodLink RX1 177 yX0_become, Cond.instanceMethod yX0_become, Cond.selects RX0 yX0_become yX0_become, Cond.initialized RX0, Cond.code yX0_become cX0_become 2 none, Cond.fieldLink RX0 9 "SandcastleLeague$Shore" "sand" "[I", Cond.methodLink RX0 49 arraycopyName, Cond.native arraycopyName, Cond.static arraycopyName, Cond.initialized "java/lang/System", Cond.fieldLink RX0 15 "SandcastleLeague$Shore" "firmness" "[I", Cond.fieldLink RX0 18 "SandcastleLeague$Shore" "water" "[I", Cond.fieldLink RX0 21 "SandcastleLeague$Shore" "owner" "[I", Cond.fieldLink RX0 24 "SandcastleLeague$Shore" "plantedHeight" "[I", Cond.fieldLink RX0 27 "SandcastleLeague$Shore" "points" "[I", Cond.fieldLink RX0 39 "SandcastleLeague$Shore" "lostSand" "I", Cond.fieldLink RX0 43 "SandcastleLeague$Shore" "slides" "I", Cond.fieldLink RX0 46 "SandcastleLeague$Shore" "fallenSticks" "I", Cond.methodLink RX1 159 yX1_letHoursGoBy, Cond.instanceMethod yX1_letHoursGoBy, Cond.selects RX1 yX1_letHoursGoBy yX1_letHoursGoBy, Cond.code yX1_letHoursGoBy cX1_letHoursGoBy 4 none, Cond.fieldLink RX1 28 "SandcastleLeague" "tides" "[I", Cond.fieldLink RX1 131 "SandcastleLeague" "hour" "I"]
def wsL_foresee_r3 : List Cond := [Cond.methodLink RX1 212 yJ9_floorMod_7cf53, Cond.static yJ9_floorMod_7cf53, Cond.initialized RJ9, Cond.code yJ9_floorMod_7cf53 cJ9_floorMod_7cf53 3 (some .int), Cond.methodLink RX1 215 yX0_letHourGoBy, Cond.instanceMethod yX0_letHourGoBy, Cond.selects RX0 yX0_letHourGoBy yX0_letHourGoBy, Cond.code yX0_letHourGoBy cX0_letHourGoBy 2 none, Cond.methodLink RX0 73 yX0_findWater, Cond.instanceMethod yX0_findWater, Cond.selects RX0 yX0_findWater yX0_findWater, Cond.code yX0_findWater cX0_findWater 4 none, Cond.methodLink RX0 30 yJ7_fill_53178, Cond.static yJ7_fill_53178, Cond.initialized RJ7, Cond.code yJ7_fill_53178 cJ7_fill_53178 4 none, Cond.methodLink RX0 86 yX0_sweepWater, Cond.instanceMethod yX0_sweepWater, Cond.selects RX0 yX0_sweepWater yX0_sweepWater, Cond.code yX0_sweepWater cX0_sweepWater 4 (some .boolean), Cond.methodLink RX0 65 yX0_isWet, Cond.instanceMethod yX0_isWet, Cond.selects RX0 yX0_isWet yX0_isWet, Cond.code yX0_isWet cX0_isWet 2 (some .boolean)]
def wsL_foresee_r4 : List Cond := [Cond.methodLink RX0 69 yX0_height, Cond.instanceMethod yX0_height, Cond.selects RX0 yX0_height yX0_height, Cond.code yX0_height cX0_height 2 (some .int), Cond.methodLink RX0 89 yX0_isOpenToSea, Cond.instanceMethod yX0_isOpenToSea, Cond.selects RX0 yX0_isOpenToSea yX0_isOpenToSea, Cond.code yX0_isOpenToSea cX0_isOpenToSea 4 (some .boolean), Cond.methodLink RX0 92 yX0_beside, Cond.static yX0_beside, Cond.code yX0_beside cX0_beside 3 (some .int), Cond.methodLink RX0 76 yX0_washSandAway, Cond.instanceMethod yX0_washSandAway, Cond.selects RX0 yX0_washSandAway yX0_washSandAway, Cond.code yX0_washSandAway cX0_washSandAway 4 none, Cond.methodLink RX0 95 Lib.Math.max.name, Cond.static Lib.Math.max.name, Cond.initialized "java/lang/Math", Cond.code Lib.Math.max.name Lib.Math.max.code 2 (some .int), Cond.methodLink RX0 55 Lib.Math.min.name, Cond.static Lib.Math.min.name, Cond.code Lib.Math.min.name Lib.Math.min.code 2 (some .int), Cond.methodLink RX0 61 yX0_soften, Cond.instanceMethod yX0_soften]
def wsL_foresee_r5 : List Cond := [Cond.selects RX0 yX0_soften yX0_soften, Cond.code yX0_soften cX0_soften 2 none, Cond.methodLink RX0 79 yX0_letSandSlide, Cond.instanceMethod yX0_letSandSlide, Cond.selects RX0 yX0_letSandSlide yX0_letSandSlide, Cond.code yX0_letSandSlide cX0_letSandSlide 4 (some .int), Cond.methodLink RX0 98 yX0_slideOnce, Cond.instanceMethod yX0_slideOnce, Cond.selects RX0 yX0_slideOnce yX0_slideOnce, Cond.code yX0_slideOnce cX0_slideOnce 4 (some .int), Cond.methodLink RX0 101 yX0_lowestBeside, Cond.instanceMethod yX0_lowestBeside, Cond.selects RX0 yX0_lowestBeside yX0_lowestBeside, Cond.code yX0_lowestBeside cX0_lowestBeside 5 (some .int), Cond.methodLink RX0 104 yX0_slidesTo, Cond.instanceMethod yX0_slidesTo, Cond.selects RX0 yX0_slidesTo yX0_slidesTo, Cond.code yX0_slidesTo cX0_slidesTo 3 (some .boolean), Cond.methodLink RX0 83 yX0_judgeSticks, Cond.instanceMethod yX0_judgeSticks, Cond.selects RX0 yX0_judgeSticks yX0_judgeSticks, Cond.code yX0_judgeSticks cX0_judgeSticks 3 none, Cond.methodLink RX1 119 yX0_pointsOf, Cond.instanceMethod yX0_pointsOf]
def wsL_foresee_r6 : List Cond := [Cond.selects RX0 yX0_pointsOf yX0_pointsOf, Cond.code yX0_pointsOf cX0_pointsOf 2 (some .int), Cond.methodLink RX1 95 yX0_sticksOf, Cond.instanceMethod yX0_sticksOf, Cond.selects RX0 yX0_sticksOf yX0_sticksOf, Cond.code yX0_sticksOf cX0_sticksOf 4 (some .int), Cond.methodLink RX1 122 yX0_sandOfArea, Cond.instanceMethod yX0_sandOfArea, Cond.selects RX0 yX0_sandOfArea yX0_sandOfArea, Cond.code yX0_sandOfArea cX0_sandOfArea 2 (some .int), Cond.methodLink RX0 111 yX0_sumOfArea, Cond.static yX0_sumOfArea, Cond.code yX0_sumOfArea cX0_sumOfArea 4 (some .int), Cond.static yX1_isInArea, Cond.code yX1_isInArea cX1_isInArea 2 (some .boolean)]
def wsL_foresee : List Cond := .codeWith yL_foresee cL_foresee 6 (some .int) [(0, 12, 15, 21), (0, 12, 19, 19)] :: ((wsL_foresee_r1 ++ (wsL_foresee_r2 ++ (wsL_foresee_r3 ++ (wsL_foresee_r4 ++ (wsL_foresee_r5 ++ wsL_foresee_r6))))) ++ wsX10 ++ wsX00 ++ (vx_atS RX1 234 "java/lang/IllegalArgumentException" ["java/lang/RuntimeException", "java/lang/Exception"]).filter goodWord ++ (vx_atS RX1 58 "java/lang/IndexOutOfBoundsException" ["java/lang/RuntimeException", "java/lang/Exception"]).filter goodWord)
def wsL_advise_r1 : List Cond := [Cond.classLink RL 19 "java/lang/IndexOutOfBoundsException", Cond.classLink RL 21 "java/lang/IllegalArgumentException", Cond.methodLink RL 62 yX1_advise, Cond.instanceMethod yX1_advise, Cond.selects RX1 yX1_advise yX1_advise, Cond.initialized RX1, Cond.code yX1_advise cX1_advise 6 (some .int), Cond.fieldLink RX1 16 "SandcastleLeague" "trial" "LSandcastleLeague$Shore;", Cond.fieldLink RX1 10 "SandcastleLeague" "shore" "LSandcastleLeague$Shore;", Cond.methodLink RX1 63 yX1_requireTeam, Cond.instanceMethod yX1_requireTeam, Cond.selects RX1 yX1_requireTeam yX1_requireTeam, Cond.code yX1_requireTeam cX1_requireTeam 2 none, Cond.classLink RX1 54 "java/lang/IndexOutOfBoundsException", Cond.initialized "java/lang/IndexOutOfBoundsException", Cond.fieldLink RX1 43 "SandcastleLeague" "teams" "I", Cond.methodLink RX1 156 yX1_requireHours, Cond.static yX1_requireHours, Cond.code yX1_requireHours cX1_requireHours 2 none, Cond.classLink RX1 230 "java/lang/IllegalArgumentException", Cond.initialized "java/lang/IllegalArgumentException", Cond.methodLink RX1 177 yX0_become, Cond.instanceMethod yX0_become, Cond.selects RX0 yX0_become yX0_become]
def wsL_advise_r2 : List Cond := [Cond.initialized RX0, Cond.code yX0_become cX0_become 2 none, Cond.fieldLink RX0 9 "SandcastleLeague$Shore" "sand" "[I", Cond.methodLink RX0 49 arraycopyName, Cond.native arraycopyName, Cond.static arraycopyName, Cond.initialized "java/lang/System", Cond.fieldLink RX0 15 "SandcastleLeague$Shore" "firmness" "[I", Cond.fieldLink RX0 18 "SandcastleLeague$Shore" "water" "[I", Cond.fieldLink RX0 21 "SandcastleLeague$Shore" "owner" "[I", Cond.fieldLink RX0 24 "SandcastleLeague$Shore" "plantedHeight" "[I", Cond.fieldLink RX0 27 "SandcastleLeague$Shore" "points" "[I", Cond.fieldLink RX0 39 "SandcastleLeague$Shore" "lostSand" "I", Cond.fieldLink RX0 43 "SandcastleLeague$Shore" "slides" "I", Cond.fieldLink RX0 46 "SandcastleLeague$Shore" "fallenSticks" "I", Cond.methodLink RX1 187 yX0_clearSticks, Cond.instanceMethod yX0_clearSticks, Cond.selects RX0 yX0_clearSticks yX0_clearSticks, Cond.code yX0_clearSticks cX0_clearSticks 1 none, Cond.methodLink RX0 30 yJ7_fill_53178, Cond.static yJ7_fill_53178, Cond.initialized RJ7, Cond.code yJ7_fill_53178 cJ7_fill_53178 4 none, Cond.methodLink RX1 190 yX1_isInArea]
def wsL_advise_r3 : List Cond := [Cond.static yX1_isInArea, Cond.code yX1_isInArea cX1_isInArea 2 (some .boolean), Cond.methodLink RX1 100 yX0_isFree, Cond.instanceMethod yX0_isFree, Cond.selects RX0 yX0_isFree yX0_isFree, Cond.code yX0_isFree cX0_isFree 2 (some .boolean), Cond.methodLink RX0 108 yX0_hasStick, Cond.instanceMethod yX0_hasStick, Cond.selects RX0 yX0_hasStick yX0_hasStick, Cond.code yX0_hasStick cX0_hasStick 2 (some .boolean), Cond.methodLink RX0 65 yX0_isWet, Cond.instanceMethod yX0_isWet, Cond.selects RX0 yX0_isWet yX0_isWet, Cond.code yX0_isWet cX0_isWet 2 (some .boolean), Cond.methodLink RX1 106 yX0_putStick, Cond.instanceMethod yX0_putStick, Cond.selects RX0 yX0_putStick yX0_putStick, Cond.code yX0_putStick cX0_putStick 3 none, Cond.methodLink RX0 69 yX0_height, Cond.instanceMethod yX0_height, Cond.selects RX0 yX0_height yX0_height, Cond.code yX0_height cX0_height 2 (some .int), Cond.methodLink RX1 159 yX1_letHoursGoBy, Cond.instanceMethod yX1_letHoursGoBy]
def wsL_advise_r4 : List Cond := [Cond.selects RX1 yX1_letHoursGoBy yX1_letHoursGoBy, Cond.code yX1_letHoursGoBy cX1_letHoursGoBy 4 none, Cond.fieldLink RX1 28 "SandcastleLeague" "tides" "[I", Cond.fieldLink RX1 131 "SandcastleLeague" "hour" "I", Cond.methodLink RX1 212 yJ9_floorMod_7cf53, Cond.static yJ9_floorMod_7cf53, Cond.initialized RJ9, Cond.code yJ9_floorMod_7cf53 cJ9_floorMod_7cf53 3 (some .int), Cond.methodLink RX1 215 yX0_letHourGoBy, Cond.instanceMethod yX0_letHourGoBy, Cond.selects RX0 yX0_letHourGoBy yX0_letHourGoBy, Cond.code yX0_letHourGoBy cX0_letHourGoBy 2 none, Cond.methodLink RX0 73 yX0_findWater, Cond.instanceMethod yX0_findWater, Cond.selects RX0 yX0_findWater yX0_findWater, Cond.code yX0_findWater cX0_findWater 4 none, Cond.methodLink RX0 86 yX0_sweepWater, Cond.instanceMethod yX0_sweepWater, Cond.selects RX0 yX0_sweepWater yX0_sweepWater, Cond.code yX0_sweepWater cX0_sweepWater 4 (some .boolean), Cond.methodLink RX0 89 yX0_isOpenToSea, Cond.instanceMethod yX0_isOpenToSea, Cond.selects RX0 yX0_isOpenToSea yX0_isOpenToSea, Cond.code yX0_isOpenToSea cX0_isOpenToSea 4 (some .boolean)]
def wsL_advise_r5 : List Cond := [Cond.methodLink RX0 92 yX0_beside, Cond.static yX0_beside, Cond.code yX0_beside cX0_beside 3 (some .int), Cond.methodLink RX0 76 yX0_washSandAway, Cond.instanceMethod yX0_washSandAway, Cond.selects RX0 yX0_washSandAway yX0_washSandAway, Cond.code yX0_washSandAway cX0_washSandAway 4 none, Cond.methodLink RX0 95 Lib.Math.max.name, Cond.static Lib.Math.max.name, Cond.initialized "java/lang/Math", Cond.code Lib.Math.max.name Lib.Math.max.code 2 (some .int), Cond.methodLink RX0 55 Lib.Math.min.name, Cond.static Lib.Math.min.name, Cond.code Lib.Math.min.name Lib.Math.min.code 2 (some .int), Cond.methodLink RX0 61 yX0_soften, Cond.instanceMethod yX0_soften, Cond.selects RX0 yX0_soften yX0_soften, Cond.code yX0_soften cX0_soften 2 none, Cond.methodLink RX0 79 yX0_letSandSlide, Cond.instanceMethod yX0_letSandSlide, Cond.selects RX0 yX0_letSandSlide yX0_letSandSlide, Cond.code yX0_letSandSlide cX0_letSandSlide 4 (some .int), Cond.methodLink RX0 98 yX0_slideOnce, Cond.instanceMethod yX0_slideOnce]
def wsL_advise_r6 : List Cond := [Cond.selects RX0 yX0_slideOnce yX0_slideOnce, Cond.code yX0_slideOnce cX0_slideOnce 4 (some .int), Cond.methodLink RX0 101 yX0_lowestBeside, Cond.instanceMethod yX0_lowestBeside, Cond.selects RX0 yX0_lowestBeside yX0_lowestBeside, Cond.code yX0_lowestBeside cX0_lowestBeside 5 (some .int), Cond.methodLink RX0 104 yX0_slidesTo, Cond.instanceMethod yX0_slidesTo, Cond.selects RX0 yX0_slidesTo yX0_slidesTo, Cond.code yX0_slidesTo cX0_slidesTo 3 (some .boolean), Cond.methodLink RX0 83 yX0_judgeSticks, Cond.instanceMethod yX0_judgeSticks, Cond.selects RX0 yX0_judgeSticks yX0_judgeSticks, Cond.code yX0_judgeSticks cX0_judgeSticks 3 none, Cond.methodLink RX1 119 yX0_pointsOf, Cond.instanceMethod yX0_pointsOf, Cond.selects RX0 yX0_pointsOf yX0_pointsOf, Cond.code yX0_pointsOf cX0_pointsOf 2 (some .int)]
def wsL_advise : List Cond := .codeWith yL_advise cL_advise 5 (some .int) [(0, 10, 13, 19), (0, 10, 17, 21)] :: ((wsL_advise_r1 ++ (wsL_advise_r2 ++ (wsL_advise_r3 ++ (wsL_advise_r4 ++ (wsL_advise_r5 ++ wsL_advise_r6))))) ++ wsX10 ++ wsX00 ++ (vx_atS RX1 58 "java/lang/IndexOutOfBoundsException" ["java/lang/RuntimeException", "java/lang/Exception"]).filter goodWord ++ (vx_atS RX1 234 "java/lang/IllegalArgumentException" ["java/lang/RuntimeException", "java/lang/Exception"]).filter goodWord)
def wsL_law0_r1 : List Cond := [Cond.classLink RL 8 RX1, Cond.instantiable RX1 9, Cond.initialized RX1, Cond.classLink RL 66 RX2, Cond.instantiable RX2 14, Cond.initialized RX2, Cond.arrayClass .long, Cond.methodLink RL 65 yX1_init, Cond.instanceMethod yX1_init, Cond.code yX1_init cX1_init 1 none, Cond.methodLink RX1 1 objectInit, Cond.instanceMethod objectInit, Cond.code objectInit ⟨#[0xb1]⟩ 1 none, Cond.classLink RX1 7 RX0, Cond.instantiable RX0 9, Cond.initialized RX0, Cond.fieldLink RX1 10 "SandcastleLeague" "shore" "LSandcastleLeague$Shore;", Cond.fieldLink RX1 16 "SandcastleLeague" "trial" "LSandcastleLeague$Shore;", Cond.fieldLink RX1 19 "SandcastleLeague" "FIRST_TIDES" "[I", Cond.methodLink RX1 23 ⟨"[I", "clone", "()Ljava/lang/Object;"⟩, Cond.sameMethod "[I" "java/lang/Object" "clone" "()Ljava/lang/Object;", Cond.native ⟨"java/lang/Object", "clone", "()Ljava/lang/Object;"⟩, Cond.instanceMethod ⟨"java/lang/Object", "clone", "()Ljava/lang/Object;"⟩, Cond.selects "[I" ⟨"[I", "clone", "()Ljava/lang/Object;"⟩ ⟨"java/lang/Object", "clone", "()Ljava/lang/Object;"⟩]
def wsL_law0_r2 : List Cond := [Cond.classLink RX1 24 "[I", Cond.fieldLink RX1 28 "SandcastleLeague" "tides" "[I", Cond.arrayClass .int, Cond.fieldLink RX1 31 "SandcastleLeague" "bucket" "[I", Cond.fieldLink RX1 34 "SandcastleLeague" "strength" "[I", Cond.fieldLink RX1 37 "SandcastleLeague" "leaguePoints" "[I", Cond.instanceMethod yX0_init, Cond.code yX0_init cX0_init 1 none, Cond.methodLink RX0 3 objectInit, Cond.fieldLink RX0 9 "SandcastleLeague$Shore" "sand" "[I", Cond.fieldLink RX0 15 "SandcastleLeague$Shore" "firmness" "[I", Cond.fieldLink RX0 18 "SandcastleLeague$Shore" "water" "[I", Cond.fieldLink RX0 21 "SandcastleLeague$Shore" "owner" "[I", Cond.fieldLink RX0 24 "SandcastleLeague$Shore" "plantedHeight" "[I", Cond.fieldLink RX0 27 "SandcastleLeague$Shore" "points" "[I", Cond.methodLink RX1 40 yX1_beginRound, Cond.instanceMethod yX1_beginRound, Cond.selects RX1 yX1_beginRound yX1_beginRound, Cond.code yX1_beginRound cX1_beginRound 1 none, Cond.methodLink RX1 209 yX0_begin, Cond.instanceMethod yX0_begin, Cond.selects RX0 yX0_begin yX0_begin, Cond.code yX0_begin cX0_begin 1 none, Cond.fieldLink RX0 39 "SandcastleLeague$Shore" "lostSand" "I"]
def wsL_law0_r3 : List Cond := [Cond.fieldLink RX0 43 "SandcastleLeague$Shore" "slides" "I", Cond.fieldLink RX0 46 "SandcastleLeague$Shore" "fallenSticks" "I", Cond.methodLink RX0 30 yJ7_fill_53178, Cond.static yJ7_fill_53178, Cond.initialized RJ7, Cond.code yJ7_fill_53178 cJ7_fill_53178 4 none, Cond.methodLink RX0 36 yX0_clearSticks, Cond.instanceMethod yX0_clearSticks, Cond.selects RX0 yX0_clearSticks yX0_clearSticks, Cond.code yX0_clearSticks cX0_clearSticks 1 none, Cond.methodLink RX1 163 yJ7_fill_53178, Cond.methodLink RL 68 yX2_init, Cond.instanceMethod yX2_init, Cond.code yX2_init cX2_init 1 none, Cond.methodLink RX2 1 objectInit, Cond.fieldLink RX2 9 "SandcastleLeagueModel" "sand" "[I", Cond.fieldLink RX2 13 "SandcastleLeagueModel" "firm" "[I", Cond.fieldLink RX2 16 "SandcastleLeagueModel" "water" "[I", Cond.fieldLink RX2 19 "SandcastleLeagueModel" "sticks" "[I", Cond.fieldLink RX2 22 "SandcastleLeagueModel" "table" "[I", Cond.fieldLink RX2 25 "SandcastleLeagueModel" "tides" "[I", Cond.fieldLink RX2 28 "SandcastleLeagueModel" "over" "[I", Cond.methodLink RX2 31 yX2_fill, Cond.static yX2_fill]
def wsL_law0_r4 : List Cond := [Cond.code yX2_fill cX2_fill 3 none, Cond.methodLink RL 69 yL_addTeam, Cond.static yL_addTeam, Cond.initialized RL, Cond.codeWith yL_addTeam cL_addTeam 3 (some .int) [(0, 8, 11, 13)], Cond.classLink RL 13 "java/lang/IllegalStateException", Cond.methodLink RL 7 yX1_addTeam, Cond.instanceMethod yX1_addTeam, Cond.selects RX1 yX1_addTeam yX1_addTeam, Cond.code yX1_addTeam cX1_addTeam 1 (some .int), Cond.classLink RX1 47 "java/lang/IllegalStateException", Cond.initialized "java/lang/IllegalStateException", Cond.fieldLink RX1 43 "SandcastleLeague" "teams" "I", Cond.methodLink RL 74 yX2_addTeam, Cond.instanceMethod yX2_addTeam, Cond.selects RX2 yX2_addTeam yX2_addTeam, Cond.code yX2_addTeam cX2_addTeam 1 (some .int), Cond.fieldLink RX2 35 "SandcastleLeagueModel" "thrown" "I", Cond.fieldLink RX2 39 "SandcastleLeagueModel" "teams" "I", Cond.methodLink RX2 46 yX2_fail, Cond.instanceMethod yX2_fail, Cond.selects RX2 yX2_fail yX2_fail, Cond.code yX2_fail cX2_fail 2 (some .int), Cond.methodLink RL 75 yX2_thrown]
def wsL_law0_r5 : List Cond := [Cond.instanceMethod yX2_thrown, Cond.selects RX2 yX2_thrown yX2_thrown, Cond.code yX2_thrown cX2_thrown 1 (some .int), Cond.methodLink RL 78 yL_setTide, Cond.static yL_setTide, Cond.codeWith yL_setTide cL_setTide 5 (some .int) [(0, 10, 13, 19), (0, 10, 17, 21)], Cond.classLink RL 19 "java/lang/IndexOutOfBoundsException", Cond.classLink RL 21 "java/lang/IllegalArgumentException", Cond.methodLink RL 15 yX1_setTide, Cond.instanceMethod yX1_setTide, Cond.selects RX1 yX1_setTide yX1_setTide, Cond.code yX1_setTide cX1_setTide 4 (some .int), Cond.classLink RX1 54 "java/lang/IndexOutOfBoundsException", Cond.initialized "java/lang/IndexOutOfBoundsException", Cond.methodLink RX1 59 yX1_requireLevel, Cond.static yX1_requireLevel, Cond.code yX1_requireLevel cX1_requireLevel 1 none, Cond.classLink RX1 230 "java/lang/IllegalArgumentException", Cond.initialized "java/lang/IllegalArgumentException", Cond.methodLink RL 81 yX2_setTide, Cond.instanceMethod yX2_setTide, Cond.selects RX2 yX2_setTide yX2_setTide, Cond.code yX2_setTide cX2_setTide 4 (some .int), Cond.methodLink RX2 42 yX2_isIn]
def wsL_law0_r6 : List Cond := [Cond.static yX2_isIn, Cond.code yX2_isIn cX2_isIn 3 (some .boolean), Cond.methodLink RL 82 yL_dig, Cond.static yL_dig, Cond.codeWith yL_dig cL_dig 7 (some .int) [(0, 14, 17, 19), (0, 14, 21, 21), (0, 14, 25, 13)], Cond.methodLink RL 23 yX1_dig, Cond.instanceMethod yX1_dig, Cond.selects RX1 yX1_dig yX1_dig, Cond.code yX1_dig cX1_dig 6 (some .int), Cond.methodLink RX1 80 Lib.Math.min.name, Cond.static Lib.Math.min.name, Cond.initialized "java/lang/Math", Cond.code Lib.Math.min.name Lib.Math.min.code 2 (some .int), Cond.methodLink RX1 63 yX1_requireTeam, Cond.instanceMethod yX1_requireTeam, Cond.selects RX1 yX1_requireTeam yX1_requireTeam, Cond.code yX1_requireTeam cX1_requireTeam 2 none, Cond.methodLink RX1 66 yX1_requireArea, Cond.static yX1_requireArea, Cond.code yX1_requireArea cX1_requireArea 3 none, Cond.methodLink RX1 223 yX1_isOnBeach, Cond.static yX1_isOnBeach, Cond.code yX1_isOnBeach cX1_isOnBeach 2 (some .boolean), Cond.methodLink RX1 76 yX1_cellAt]
def wsL_law0_r7 : List Cond := [Cond.static yX1_cellAt, Cond.code yX1_cellAt cX1_cellAt 2 (some .int), Cond.methodLink RX1 190 yX1_isInArea, Cond.static yX1_isInArea, Cond.code yX1_isInArea cX1_isInArea 2 (some .boolean), Cond.methodLink RX1 70 yX1_requireAmount, Cond.static yX1_requireAmount, Cond.code yX1_requireAmount cX1_requireAmount 1 none, Cond.methodLink RX1 73 yX1_requireStrength, Cond.instanceMethod yX1_requireStrength, Cond.selects RX1 yX1_requireStrength yX1_requireStrength, Cond.code yX1_requireStrength cX1_requireStrength 2 none, Cond.methodLink RX1 85 yX0_takeSand, Cond.instanceMethod yX0_takeSand, Cond.selects RX0 yX0_takeSand yX0_takeSand, Cond.code yX0_takeSand cX0_takeSand 4 (some .int), Cond.methodLink RX0 55 Lib.Math.min.name, Cond.methodLink RL 85 yX2_dig, Cond.instanceMethod yX2_dig, Cond.selects RX2 yX2_dig yX2_dig, Cond.code yX2_dig cX2_dig 7 (some .int), Cond.methodLink RX2 62 Lib.Math.min.name, Cond.methodLink RX2 58 yX2_deed, Cond.instanceMethod yX2_deed]
def wsL_law0_r8 : List Cond := [Cond.selects RX2 yX2_deed yX2_deed, Cond.code yX2_deed cX2_deed 5 (some .int), Cond.methodLink RX2 50 yX2_isTeam, Cond.instanceMethod yX2_isTeam, Cond.selects RX2 yX2_isTeam yX2_isTeam, Cond.code yX2_isTeam cX2_isTeam 2 (some .boolean), Cond.methodLink RX2 54 yX2_get, Cond.instanceMethod yX2_get, Cond.selects RX2 yX2_get yX2_get, Cond.code yX2_get cX2_get 3 (some .int), Cond.methodLink RX2 67 yX2_add, Cond.instanceMethod yX2_add, Cond.selects RX2 yX2_add yX2_add, Cond.code yX2_add cX2_add 4 none, Cond.methodLink RL 86 yL_pile, Cond.static yL_pile, Cond.codeWith yL_pile cL_pile 7 (some .int) [(0, 14, 17, 19), (0, 14, 21, 21), (0, 14, 25, 13)], Cond.methodLink RL 27 yX1_pile, Cond.instanceMethod yX1_pile, Cond.selects RX1 yX1_pile yX1_pile, Cond.code yX1_pile cX1_pile 6 (some .int), Cond.methodLink RX1 88 yX0_putSand, Cond.instanceMethod yX0_putSand, Cond.selects RX0 yX0_putSand yX0_putSand]
def wsL_law0_r9 : List Cond := [Cond.code yX0_putSand cX0_putSand 4 (some .int), Cond.methodLink RX0 61 yX0_soften, Cond.instanceMethod yX0_soften, Cond.selects RX0 yX0_soften yX0_soften, Cond.code yX0_soften cX0_soften 2 none, Cond.methodLink RL 88 yX2_pile, Cond.instanceMethod yX2_pile, Cond.selects RX2 yX2_pile yX2_pile, Cond.code yX2_pile cX2_pile 7 (some .int), Cond.methodLink RX2 71 Lib.Math.max.name, Cond.static Lib.Math.max.name, Cond.code Lib.Math.max.name Lib.Math.max.code 2 (some .int), Cond.methodLink RL 89 yL_pack, Cond.static yL_pack, Cond.codeWith yL_pack cL_pack 6 (some .int) [(0, 12, 15, 19), (0, 12, 19, 21), (0, 12, 23, 13)], Cond.methodLink RL 30 yX1_pack, Cond.instanceMethod yX1_pack, Cond.selects RX1 yX1_pack yX1_pack, Cond.code yX1_pack cX1_pack 4 (some .int), Cond.methodLink RX1 91 yX0_harden, Cond.instanceMethod yX0_harden, Cond.selects RX0 yX0_harden yX0_harden, Cond.code yX0_harden cX0_harden 2 (some .int), Cond.methodLink RX0 65 yX0_isWet]
def wsL_law0_r10 : List Cond := [Cond.instanceMethod yX0_isWet, Cond.selects RX0 yX0_isWet yX0_isWet, Cond.code yX0_isWet cX0_isWet 2 (some .boolean), Cond.methodLink RL 92 yX2_pack, Cond.instanceMethod yX2_pack, Cond.selects RX2 yX2_pack yX2_pack, Cond.code yX2_pack cX2_pack 5 (some .int), Cond.methodLink RL 93 yL_plant, Cond.static yL_plant, Cond.codeWith yL_plant cL_plant 6 (some .int) [(0, 12, 15, 19), (0, 12, 19, 21), (0, 12, 23, 13)], Cond.methodLink RL 34 yX1_plant, Cond.instanceMethod yX1_plant, Cond.selects RX1 yX1_plant yX1_plant, Cond.code yX1_plant cX1_plant 4 (some .int), Cond.methodLink RX1 95 yX0_sticksOf, Cond.instanceMethod yX0_sticksOf, Cond.selects RX0 yX0_sticksOf yX0_sticksOf, Cond.code yX0_sticksOf cX0_sticksOf 4 (some .int), Cond.methodLink RX1 100 yX0_isFree, Cond.instanceMethod yX0_isFree, Cond.selects RX0 yX0_isFree yX0_isFree, Cond.code yX0_isFree cX0_isFree 2 (some .boolean), Cond.methodLink RX0 108 yX0_hasStick, Cond.instanceMethod yX0_hasStick]
def wsL_law0_r11 : List Cond := [Cond.selects RX0 yX0_hasStick yX0_hasStick, Cond.code yX0_hasStick cX0_hasStick 2 (some .boolean), Cond.methodLink RX1 106 yX0_putStick, Cond.instanceMethod yX0_putStick, Cond.selects RX0 yX0_putStick yX0_putStick, Cond.code yX0_putStick cX0_putStick 3 none, Cond.methodLink RX0 69 yX0_height, Cond.instanceMethod yX0_height, Cond.selects RX0 yX0_height yX0_height, Cond.code yX0_height cX0_height 2 (some .int), Cond.methodLink RL 95 yX2_plant, Cond.instanceMethod yX2_plant, Cond.selects RX2 yX2_plant yX2_plant, Cond.code yX2_plant cX2_plant 5 (some .int), Cond.methodLink RX2 77 yX2_sticksOf, Cond.instanceMethod yX2_sticksOf, Cond.selects RX2 yX2_sticksOf yX2_sticksOf, Cond.code yX2_sticksOf cX2_sticksOf 4 (some .int), Cond.methodLink RX2 74 yX2_teamOf, Cond.static yX2_teamOf, Cond.code yX2_teamOf cX2_teamOf 1 (some .int), Cond.methodLink RX2 80 yX2_height, Cond.instanceMethod yX2_height, Cond.selects RX2 yX2_height yX2_height]
def wsL_law0_r12 : List Cond := [Cond.code yX2_height cX2_height 2 (some .int), Cond.methodLink RL 96 yL_cell, Cond.static yL_cell, Cond.codeWith yL_cell cL_cell 6 (some .int) [(0, 12, 15, 19)], Cond.methodLink RL 37 yX1_cell, Cond.instanceMethod yX1_cell, Cond.selects RX1 yX1_cell yX1_cell, Cond.code yX1_cell cX1_cell 4 (some .int), Cond.methodLink RX1 110 yX1_requireCell, Cond.static yX1_requireCell, Cond.code yX1_requireCell cX1_requireCell 2 none, Cond.methodLink RX1 113 yX1_requireWhat, Cond.static yX1_requireWhat, Cond.code yX1_requireWhat cX1_requireWhat 2 none, Cond.methodLink RX1 116 yX0_tellCell, Cond.instanceMethod yX0_tellCell, Cond.selects RX0 yX0_tellCell yX0_tellCell, Cond.code yX0_tellCell cX0_tellCell 3 (some .int), Cond.methodLink RL 98 yX2_cell, Cond.instanceMethod yX2_cell, Cond.selects RX2 yX2_cell yX2_cell, Cond.code yX2_cell cX2_cell 4 (some .int), Cond.methodLink RX2 83 yX2_cellTold, Cond.instanceMethod yX2_cellTold]
def wsL_law0_r13 : List Cond := [Cond.selects RX2 yX2_cellTold yX2_cellTold, Cond.code yX2_cellTold cX2_cellTold 3 (some .int), Cond.methodLink RL 99 yL_team, Cond.static yL_team, Cond.codeWith yL_team cL_team 5 (some .int) [(0, 10, 13, 19)], Cond.methodLink RL 40 yX1_team, Cond.instanceMethod yX1_team, Cond.selects RX1 yX1_team yX1_team, Cond.code yX1_team cX1_team 3 (some .int), Cond.methodLink RX1 119 yX0_pointsOf, Cond.instanceMethod yX0_pointsOf, Cond.selects RX0 yX0_pointsOf yX0_pointsOf, Cond.code yX0_pointsOf cX0_pointsOf 2 (some .int), Cond.methodLink RX1 122 yX0_sandOfArea, Cond.instanceMethod yX0_sandOfArea, Cond.selects RX0 yX0_sandOfArea yX0_sandOfArea, Cond.code yX0_sandOfArea cX0_sandOfArea 2 (some .int), Cond.methodLink RX0 111 yX0_sumOfArea, Cond.static yX0_sumOfArea, Cond.code yX0_sumOfArea cX0_sumOfArea 4 (some .int), Cond.methodLink RX1 125 yX0_greatestHeightOfArea, Cond.instanceMethod yX0_greatestHeightOfArea, Cond.selects RX0 yX0_greatestHeightOfArea yX0_greatestHeightOfArea, Cond.code yX0_greatestHeightOfArea cX0_greatestHeightOfArea 4 (some .int)]
def wsL_law0_r14 : List Cond := [Cond.methodLink RX0 95 Lib.Math.max.name, Cond.methodLink RX1 128 yX0_waterOfArea, Cond.instanceMethod yX0_waterOfArea, Cond.selects RX0 yX0_waterOfArea yX0_waterOfArea, Cond.code yX0_waterOfArea cX0_waterOfArea 2 (some .int), Cond.methodLink RL 101 yX2_team, Cond.instanceMethod yX2_team, Cond.selects RX2 yX2_team yX2_team, Cond.code yX2_team cX2_team 3 (some .int), Cond.methodLink RX2 89 yX2_teamTold, Cond.instanceMethod yX2_teamTold, Cond.selects RX2 yX2_teamTold yX2_teamTold, Cond.code yX2_teamTold cX2_teamTold 3 (some .int), Cond.methodLink RX2 86 yX2_areaOf, Cond.instanceMethod yX2_areaOf, Cond.selects RX2 yX2_areaOf yX2_areaOf, Cond.code yX2_areaOf cX2_areaOf 5 (some .int), Cond.methodLink RL 102 yL_count, Cond.static yL_count, Cond.codeWith yL_count cL_count 4 (some .int) [(0, 9, 12, 19)], Cond.methodLink RL 43 yX1_count, Cond.instanceMethod yX1_count, Cond.selects RX1 yX1_count yX1_count, Cond.code yX1_count cX1_count 2 (some .int)]
def wsL_law0_r15 : List Cond := [Cond.fieldLink RX1 131 "SandcastleLeague" "hour" "I", Cond.fieldLink RX1 153 "SandcastleLeague" "endedRounds" "I", Cond.methodLink RX1 134 yX0_allWater, Cond.instanceMethod yX0_allWater, Cond.selects RX0 yX0_allWater yX0_allWater, Cond.code yX0_allWater cX0_allWater 1 (some .int), Cond.methodLink RX0 118 yX0_sum, Cond.static yX0_sum, Cond.code yX0_sum cX0_sum 6 (some .int), Cond.methodLink RX1 138 yX0_allSand, Cond.instanceMethod yX0_allSand, Cond.selects RX0 yX0_allSand yX0_allSand, Cond.code yX0_allSand cX0_allSand 1 (some .int), Cond.methodLink RX1 147 yX0_allSticks, Cond.instanceMethod yX0_allSticks, Cond.selects RX0 yX0_allSticks yX0_allSticks, Cond.code yX0_allSticks cX0_allSticks 3 (some .int), Cond.methodLink RL 105 yX2_count, Cond.instanceMethod yX2_count, Cond.selects RX2 yX2_count yX2_count, Cond.code yX2_count cX2_count 2 (some .int), Cond.methodLink RX2 107 yX2_counted, Cond.instanceMethod yX2_counted, Cond.selects RX2 yX2_counted yX2_counted]
def wsL_law0_r16 : List Cond := [Cond.code yX2_counted cX2_counted 2 (some .int), Cond.fieldLink RX2 92 "SandcastleLeagueModel" "hour" "I", Cond.fieldLink RX2 95 "SandcastleLeagueModel" "lost" "I", Cond.fieldLink RX2 98 "SandcastleLeagueModel" "slides" "I", Cond.fieldLink RX2 101 "SandcastleLeagueModel" "fallen" "I", Cond.fieldLink RX2 104 "SandcastleLeagueModel" "ended" "I", Cond.methodLink RL 106 yL_pass, Cond.static yL_pass, Cond.codeWith yL_pass cL_pass 4 (some .int) [(0, 9, 12, 21)], Cond.methodLink RL 47 yX1_pass, Cond.instanceMethod yX1_pass, Cond.selects RX1 yX1_pass yX1_pass, Cond.code yX1_pass cX1_pass 3 (some .int), Cond.methodLink RX1 156 yX1_requireHours, Cond.static yX1_requireHours, Cond.code yX1_requireHours cX1_requireHours 2 none, Cond.methodLink RX1 159 yX1_letHoursGoBy, Cond.instanceMethod yX1_letHoursGoBy, Cond.selects RX1 yX1_letHoursGoBy yX1_letHoursGoBy, Cond.code yX1_letHoursGoBy cX1_letHoursGoBy 4 none, Cond.methodLink RX1 212 yJ9_floorMod_7cf53, Cond.static yJ9_floorMod_7cf53, Cond.initialized RJ9, Cond.code yJ9_floorMod_7cf53 cJ9_floorMod_7cf53 3 (some .int)]
def wsL_law0_r17 : List Cond := [Cond.methodLink RX1 215 yX0_letHourGoBy, Cond.instanceMethod yX0_letHourGoBy, Cond.selects RX0 yX0_letHourGoBy yX0_letHourGoBy, Cond.code yX0_letHourGoBy cX0_letHourGoBy 2 none, Cond.methodLink RX0 73 yX0_findWater, Cond.instanceMethod yX0_findWater, Cond.selects RX0 yX0_findWater yX0_findWater, Cond.code yX0_findWater cX0_findWater 4 none, Cond.methodLink RX0 86 yX0_sweepWater, Cond.instanceMethod yX0_sweepWater, Cond.selects RX0 yX0_sweepWater yX0_sweepWater, Cond.code yX0_sweepWater cX0_sweepWater 4 (some .boolean), Cond.methodLink RX0 89 yX0_isOpenToSea, Cond.instanceMethod yX0_isOpenToSea, Cond.selects RX0 yX0_isOpenToSea yX0_isOpenToSea, Cond.code yX0_isOpenToSea cX0_isOpenToSea 4 (some .boolean), Cond.methodLink RX0 92 yX0_beside, Cond.static yX0_beside, Cond.code yX0_beside cX0_beside 3 (some .int), Cond.methodLink RX0 76 yX0_washSandAway, Cond.instanceMethod yX0_washSandAway, Cond.selects RX0 yX0_washSandAway yX0_washSandAway, Cond.code yX0_washSandAway cX0_washSandAway 4 none, Cond.methodLink RX0 79 yX0_letSandSlide]
def wsL_law0_r18 : List Cond := [Cond.instanceMethod yX0_letSandSlide, Cond.selects RX0 yX0_letSandSlide yX0_letSandSlide, Cond.code yX0_letSandSlide cX0_letSandSlide 4 (some .int), Cond.methodLink RX0 98 yX0_slideOnce, Cond.instanceMethod yX0_slideOnce, Cond.selects RX0 yX0_slideOnce yX0_slideOnce, Cond.code yX0_slideOnce cX0_slideOnce 4 (some .int), Cond.methodLink RX0 101 yX0_lowestBeside, Cond.instanceMethod yX0_lowestBeside, Cond.selects RX0 yX0_lowestBeside yX0_lowestBeside, Cond.code yX0_lowestBeside cX0_lowestBeside 5 (some .int), Cond.methodLink RX0 104 yX0_slidesTo, Cond.instanceMethod yX0_slidesTo, Cond.selects RX0 yX0_slidesTo yX0_slidesTo, Cond.code yX0_slidesTo cX0_slidesTo 3 (some .boolean), Cond.methodLink RX0 83 yX0_judgeSticks, Cond.instanceMethod yX0_judgeSticks, Cond.selects RX0 yX0_judgeSticks yX0_judgeSticks, Cond.code yX0_judgeSticks cX0_judgeSticks 3 none, Cond.methodLink RL 108 yX2_pass, Cond.instanceMethod yX2_pass, Cond.selects RX2 yX2_pass yX2_pass, Cond.code yX2_pass cX2_pass 4 (some .int), Cond.methodLink RX2 126 yX2_hourOn]
def wsL_law0_r19 : List Cond := [Cond.instanceMethod yX2_hourOn, Cond.selects RX2 yX2_hourOn yX2_hourOn, Cond.code yX2_hourOn cX2_hourOn 4 none, Cond.methodLink RX2 113 yX2_findOver, Cond.instanceMethod yX2_findOver, Cond.selects RX2 yX2_findOver yX2_findOver, Cond.code yX2_findOver cX2_findOver 5 none, Cond.methodLink RX2 110 yX2_beside, Cond.static yX2_beside, Cond.code yX2_beside cX2_beside 2 (some .int), Cond.methodLink RX2 116 yX2_slideAll, Cond.instanceMethod yX2_slideAll, Cond.selects RX2 yX2_slideAll yX2_slideAll, Cond.code yX2_slideAll cX2_slideAll 7 none, Cond.methodLink RX2 119 yX2_falls, Cond.instanceMethod yX2_falls, Cond.selects RX2 yX2_falls yX2_falls, Cond.code yX2_falls cX2_falls 3 (some .boolean), Cond.methodLink RX2 123 yX2_brings, Cond.instanceMethod yX2_brings, Cond.selects RX2 yX2_brings yX2_brings, Cond.code yX2_brings cX2_brings 2 (some .int), Cond.methodLink RL 109 yX1_endRound, Cond.instanceMethod yX1_endRound]
def wsL_law0_r20 : List Cond := [Cond.selects RX1 yX1_endRound yX1_endRound, Cond.code yX1_endRound cX1_endRound 2 (some .int), Cond.methodLink RX1 169 yX1_teamsWithFewerPoints, Cond.instanceMethod yX1_teamsWithFewerPoints, Cond.selects RX1 yX1_teamsWithFewerPoints yX1_teamsWithFewerPoints, Cond.code yX1_teamsWithFewerPoints cX1_teamsWithFewerPoints 4 (some .int), Cond.methodLink RL 112 yX2_endRound, Cond.instanceMethod yX2_endRound, Cond.selects RX2 yX2_endRound yX2_endRound, Cond.code yX2_endRound cX2_endRound 3 (some .int), Cond.methodLink RX2 129 arraycopyName, Cond.native arraycopyName, Cond.static arraycopyName, Cond.initialized "java/lang/System", Cond.methodLink RL 113 yL_leader, Cond.static yL_leader, Cond.codeWith yL_leader cL_leader 4 (some .int) [(0, 9, 12, 19)], Cond.methodLink RL 50 yX1_leader, Cond.instanceMethod yX1_leader, Cond.selects RX1 yX1_leader yX1_leader, Cond.code yX1_leader cX1_leader 4 (some .int), Cond.methodLink RX1 174 yX1_teamsAheadOf, Cond.instanceMethod yX1_teamsAheadOf, Cond.selects RX1 yX1_teamsAheadOf yX1_teamsAheadOf]
def wsL_law0_r21 : List Cond := [Cond.code yX1_teamsAheadOf cX1_teamsAheadOf 4 (some .int), Cond.methodLink RX1 218 yX1_isAhead, Cond.instanceMethod yX1_isAhead, Cond.selects RX1 yX1_isAhead yX1_isAhead, Cond.code yX1_isAhead cX1_isAhead 3 (some .boolean), Cond.methodLink RL 115 yX2_leader, Cond.instanceMethod yX2_leader, Cond.selects RX2 yX2_leader yX2_leader, Cond.code yX2_leader cX2_leader 5 (some .int), Cond.methodLink RX2 135 yX2_isAhead, Cond.instanceMethod yX2_isAhead, Cond.selects RX2 yX2_isAhead yX2_isAhead, Cond.code yX2_isAhead cX2_isAhead 3 (some .boolean), Cond.methodLink RL 116 yL_flood, Cond.static yL_flood, Cond.codeWith yL_flood cL_flood 4 (some .int) [(0, 9, 12, 21)], Cond.methodLink RL 53 yX1_flood, Cond.instanceMethod yX1_flood, Cond.selects RX1 yX1_flood yX1_flood, Cond.code yX1_flood cX1_flood 2 (some .int), Cond.methodLink RX1 177 yX0_become, Cond.instanceMethod yX0_become, Cond.selects RX0 yX0_become yX0_become, Cond.code yX0_become cX0_become 2 none]
def wsL_law0_r22 : List Cond := [Cond.methodLink RX0 49 arraycopyName, Cond.methodLink RX1 181 yX0_findWater, Cond.methodLink RL 118 yX2_flood, Cond.instanceMethod yX2_flood, Cond.selects RX2 yX2_flood yX2_flood, Cond.code yX2_flood cX2_flood 4 (some .int), Cond.methodLink RL 119 yL_reach, Cond.static yL_reach, Cond.codeWith yL_reach cL_reach 5 (some .int) [(0, 10, 13, 19)], Cond.methodLink RL 56 yX1_reach, Cond.instanceMethod yX1_reach, Cond.selects RX1 yX1_reach yX1_reach, Cond.code yX1_reach cX1_reach 5 (some .int), Cond.methodLink RX1 184 yX0_isWet, Cond.methodLink RL 121 yX2_reach, Cond.instanceMethod yX2_reach, Cond.selects RX2 yX2_reach yX2_reach, Cond.code yX2_reach cX2_reach 3 (some .int), Cond.methodLink RL 122 yL_foresee, Cond.static yL_foresee, Cond.codeWith yL_foresee cL_foresee 6 (some .int) [(0, 12, 15, 21), (0, 12, 19, 19)], Cond.methodLink RL 59 yX1_foresee, Cond.instanceMethod yX1_foresee, Cond.selects RX1 yX1_foresee yX1_foresee]
def wsL_law0_r23 : List Cond := [Cond.code yX1_foresee cX1_foresee 4 (some .int), Cond.methodLink RL 124 yX2_foresee, Cond.instanceMethod yX2_foresee, Cond.selects RX2 yX2_foresee yX2_foresee, Cond.code yX2_foresee cX2_foresee 7 (some .int), Cond.methodLink RX2 143 yX2_kept, Cond.instanceMethod yX2_kept, Cond.selects RX2 yX2_kept yX2_kept, Cond.code yX2_kept cX2_kept 1 (some (.array (.array .int))), Cond.classLink RX2 138 "[I", Cond.methodLink RX2 139 ⟨"[I", "clone", "()Ljava/lang/Object;"⟩, Cond.methodLink RX2 147 yX2_bringBack, Cond.instanceMethod yX2_bringBack, Cond.selects RX2 yX2_bringBack yX2_bringBack, Cond.code yX2_bringBack cX2_bringBack 2 none, Cond.methodLink RL 125 yL_advise, Cond.static yL_advise, Cond.codeWith yL_advise cL_advise 5 (some .int) [(0, 10, 13, 19), (0, 10, 17, 21)], Cond.methodLink RL 62 yX1_advise, Cond.instanceMethod yX1_advise, Cond.selects RX1 yX1_advise yX1_advise, Cond.code yX1_advise cX1_advise 6 (some .int), Cond.methodLink RX1 187 yX0_clearSticks, Cond.methodLink RL 127 yX2_advise]
def wsL_law0_r24 : List Cond := [Cond.instanceMethod yX2_advise, Cond.selects RX2 yX2_advise yX2_advise, Cond.code yX2_advise cX2_advise 9 (some .int), Cond.arrayClass .boolean, Cond.methodLink RL 128 yX1_mean, Cond.instanceMethod yX1_mean, Cond.selects RX1 yX1_mean yX1_mean, Cond.code yX1_mean cX1_mean 1 (some .double), Cond.constantDouble RX1 197 (4638144666238189568), Cond.methodLink RX1 194 yX0_allHeights, Cond.instanceMethod yX0_allHeights, Cond.selects RX0 yX0_allHeights yX0_allHeights, Cond.code yX0_allHeights cX0_allHeights 3 (some .int), Cond.methodLink RL 132 yX2_mean, Cond.instanceMethod yX2_mean, Cond.selects RX2 yX2_mean yX2_mean, Cond.code yX2_mean cX2_mean 3 (some .double), Cond.constantDouble RX2 151 (4638144666238189568), Cond.methodLink RL 133 yX1_digest, Cond.instanceMethod yX1_digest, Cond.selects RX1 yX1_digest yX1_digest, Cond.code yX1_digest cX1_digest 5 (some .long), Cond.constantLong RX1 199 (503), Cond.constantLong RX1 201 (31)]
def wsL_law0_r25 : List Cond := [Cond.methodLink RX1 203 yX1_count, Cond.methodLink RX1 206 yX1_team, Cond.methodLink RL 137 yX2_digest, Cond.instanceMethod yX2_digest, Cond.selects RX2 yX2_digest yX2_digest, Cond.code yX2_digest cX2_digest 5 (some .long), Cond.constantLong RX2 153 (503), Cond.constantLong RX2 155 (31)]
def wsL_law0 : List Cond := (wsL_law0_r1 ++ (wsL_law0_r2 ++ (wsL_law0_r3 ++ (wsL_law0_r4 ++ (wsL_law0_r5 ++ (wsL_law0_r6 ++ (wsL_law0_r7 ++ (wsL_law0_r8 ++ (wsL_law0_r9 ++ (wsL_law0_r10 ++ (wsL_law0_r11 ++ (wsL_law0_r12 ++ (wsL_law0_r13 ++ (wsL_law0_r14 ++ (wsL_law0_r15 ++ (wsL_law0_r16 ++ (wsL_law0_r17 ++ (wsL_law0_r18 ++ (wsL_law0_r19 ++ (wsL_law0_r20 ++ (wsL_law0_r21 ++ (wsL_law0_r22 ++ (wsL_law0_r23 ++ (wsL_law0_r24 ++ wsL_law0_r25)))))))))))))))))))))))) ++ wsX10 ++ wsX20 ++ wsX00 ++ ([] : List Cond)
def wsL_law : List Cond := wsL_law0 ++ (vx_atS RX1 51 "java/lang/IllegalStateException" ["java/lang/RuntimeException", "java/lang/Exception"]).filter goodWord ++ (vx_atS RX1 58 "java/lang/IndexOutOfBoundsException" ["java/lang/RuntimeException", "java/lang/Exception"]).filter goodWord ++ (vx_atS RX1 234 "java/lang/IllegalArgumentException" ["java/lang/RuntimeException", "java/lang/Exception"]).filter goodWord
theorem inJx145de : ∀ w ∈ wsJx145de0, w ∈ lw_tbl := by decide +kernel
theorem inJx8e188 : ∀ w ∈ wsJx8e1880, w ∈ lw_tbl := by decide +kernel
theorem inJ9 : ∀ w ∈ wsJ90, w ∈ lw_tbl := by decide +kernel
theorem inJ0 : ∀ w ∈ wsJ00, w ∈ lw_tbl := by decide +kernel
theorem inJ10 : ∀ w ∈ wsJ100, w ∈ lw_tbl := by decide +kernel
theorem inJ7 : ∀ w ∈ wsJ70, w ∈ lw_tbl := by decide +kernel
theorem dX0_init_0 : decode cX0_init 0 = .ok (.aload_n 0, 1) := by decide +kernel
theorem dX0_init_1 : decode cX0_init 1 = .ok (.invokespecial 3, 3) := by decide +kernel
theorem dX0_init_4 : decode cX0_init 4 = .ok (.aload_n 0, 1) := by decide +kernel
theorem dX0_init_5 : decode cX0_init 5 = .ok (.bipush 120, 2) := by decide +kernel
theorem dX0_init_7 : decode cX0_init 7 = .ok (.newarray .int, 2) := by decide +kernel
theorem dX0_init_9 : decode cX0_init 9 = .ok (.putfield 9, 3) := by decide +kernel
theorem dX0_init_12 : decode cX0_init 12 = .ok (.aload_n 0, 1) := by decide +kernel
theorem dX0_init_13 : decode cX0_init 13 = .ok (.bipush 120, 2) := by decide +kernel
theorem dX0_init_15 : decode cX0_init 15 = .ok (.newarray .int, 2) := by decide +kernel
theorem dX0_init_17 : decode cX0_init 17 = .ok (.putfield 15, 3) := by decide +kernel
theorem dX0_init_20 : decode cX0_init 20 = .ok (.aload_n 0, 1) := by decide +kernel
theorem dX0_init_21 : decode cX0_init 21 = .ok (.bipush 120, 2) := by decide +kernel
theorem dX0_init_23 : decode cX0_init 23 = .ok (.newarray .int, 2) := by decide +kernel
theorem dX0_init_25 : decode cX0_init 25 = .ok (.putfield 18, 3) := by decide +kernel
theorem dX0_init_28 : decode cX0_init 28 = .ok (.aload_n 0, 1) := by decide +kernel
theorem dX0_init_29 : decode cX0_init 29 = .ok (.bipush 120, 2) := by decide +kernel
theorem dX0_init_31 : decode cX0_init 31 = .ok (.newarray .int, 2) := by decide +kernel
theorem dX0_init_33 : decode cX0_init 33 = .ok (.putfield 21, 3) := by decide +kernel
theorem dX0_init_36 : decode cX0_init 36 = .ok (.aload_n 0, 1) := by decide +kernel
theorem dX0_init_37 : decode cX0_init 37 = .ok (.bipush 120, 2) := by decide +kernel
theorem dX0_init_39 : decode cX0_init 39 = .ok (.newarray .int, 2) := by decide +kernel
theorem dX0_init_41 : decode cX0_init 41 = .ok (.putfield 24, 3) := by decide +kernel
theorem dX0_init_44 : decode cX0_init 44 = .ok (.aload_n 0, 1) := by decide +kernel
theorem dX0_init_45 : decode cX0_init 45 = .ok (.bipush 120, 2) := by decide +kernel
theorem dX0_init_47 : decode cX0_init 47 = .ok (.newarray .int, 2) := by decide +kernel
theorem dX0_init_49 : decode cX0_init 49 = .ok (.putfield 27, 3) := by decide +kernel
theorem dX0_init_52 : decode cX0_init 52 = .ok (.return_, 1) := by decide +kernel
set_option maxRecDepth 20000 in
theorem ggX0_begin_J7_fill_53178 : GoodIn wsX0_begin wsJ7_fill_53178 := goodIn_r _ [10] (by decide +kernel) (by decide +kernel)
set_option maxRecDepth 20000 in
theorem gX0_begin_J7_fill_53178 : GoodIn wsX0_begin (va_wsS RX0 30 yJ7_fill_53178 wsJ7_fill_53178) := goodIn_app (goodIn_of _ (by decide +kernel)) ggX0_begin_J7_fill_53178
set_option maxRecDepth 20000 in
theorem ggX0_begin_X0_clearSticks : GoodIn wsX0_begin wsX0_clearSticks := goodIn_r _ [15, 16, 17, 18, 7, 8, 9, 10, 19, 20, 21, 22, 23, 24, 25, 26, 27] (by decide +kernel) (by decide +kernel)
set_option maxRecDepth 20000 in
theorem gX0_begin_X0_clearSticks : GoodIn wsX0_begin (wsV RX0 36 RX0 yX0_clearSticks wsX0_clearSticks) := goodIn_app (goodIn_of _ (by decide +kernel)) ggX0_begin_X0_clearSticks
theorem dX0_begin_0 : decode cX0_begin 0 = .ok (.aload_n 0, 1) := by decide +kernel
theorem dX0_begin_1 : decode cX0_begin 1 = .ok (.getfield 9, 3) := by decide +kernel
theorem dX0_begin_4 : decode cX0_begin 4 = .ok (.iconst 4, 1) := by decide +kernel
theorem dX0_begin_5 : decode cX0_begin 5 = .ok (.invokestatic 30, 3) := by decide +kernel
theorem dX0_begin_8 : decode cX0_begin 8 = .ok (.aload_n 0, 1) := by decide +kernel
theorem dX0_begin_9 : decode cX0_begin 9 = .ok (.getfield 15, 3) := by decide +kernel
theorem dX0_begin_12 : decode cX0_begin 12 = .ok (.iconst 0, 1) := by decide +kernel
theorem dX0_begin_13 : decode cX0_begin 13 = .ok (.invokestatic 30, 3) := by decide +kernel
theorem dX0_begin_16 : decode cX0_begin 16 = .ok (.aload_n 0, 1) := by decide +kernel
theorem dX0_begin_17 : decode cX0_begin 17 = .ok (.getfield 18, 3) := by decide +kernel
theorem dX0_begin_20 : decode cX0_begin 20 = .ok (.iconst 0, 1) := by decide +kernel
theorem dX0_begin_21 : decode cX0_begin 21 = .ok (.invokestatic 30, 3) := by decide +kernel
theorem dX0_begin_24 : decode cX0_begin 24 = .ok (.aload_n 0, 1) := by decide +kernel
theorem dX0_begin_25 : decode cX0_begin 25 = .ok (.invokevirtual 36, 3) := by decide +kernel
theorem dX0_begin_28 : decode cX0_begin 28 = .ok (.aload_n 0, 1) := by decide +kernel
theorem dX0_begin_29 : decode cX0_begin 29 = .ok (.iconst 0, 1) := by decide +kernel
theorem dX0_begin_30 : decode cX0_begin 30 = .ok (.putfield 39, 3) := by decide +kernel
theorem dX0_begin_33 : decode cX0_begin 33 = .ok (.aload_n 0, 1) := by decide +kernel
theorem dX0_begin_34 : decode cX0_begin 34 = .ok (.iconst 0, 1) := by decide +kernel
theorem dX0_begin_35 : decode cX0_begin 35 = .ok (.putfield 43, 3) := by decide +kernel
theorem dX0_begin_38 : decode cX0_begin 38 = .ok (.aload_n 0, 1) := by decide +kernel
theorem dX0_begin_39 : decode cX0_begin 39 = .ok (.iconst 0, 1) := by decide +kernel
theorem dX0_begin_40 : decode cX0_begin 40 = .ok (.putfield 46, 3) := by decide +kernel
theorem dX0_begin_43 : decode cX0_begin 43 = .ok (.return_, 1) := by decide +kernel
set_option maxRecDepth 20000 in
theorem ggX0_clearSticks_J7_fill_53178 : GoodIn wsX0_clearSticks wsJ7_fill_53178 := goodIn_r _ [7] (by decide +kernel) (by decide +kernel)
set_option maxRecDepth 20000 in
theorem gX0_clearSticks_J7_fill_53178 : GoodIn wsX0_clearSticks (va_wsS RX0 30 yJ7_fill_53178 wsJ7_fill_53178) := goodIn_app (goodIn_of _ (by decide +kernel)) ggX0_clearSticks_J7_fill_53178
theorem dX0_clearSticks_0 : decode cX0_clearSticks 0 = .ok (.aload_n 0, 1) := by decide +kernel
theorem dX0_clearSticks_1 : decode cX0_clearSticks 1 = .ok (.getfield 21, 3) := by decide +kernel
theorem dX0_clearSticks_4 : decode cX0_clearSticks 4 = .ok (.iconst (-1), 1) := by decide +kernel
theorem dX0_clearSticks_5 : decode cX0_clearSticks 5 = .ok (.invokestatic 30, 3) := by decide +kernel
theorem dX0_clearSticks_8 : decode cX0_clearSticks 8 = .ok (.aload_n 0, 1) := by decide +kernel
theorem dX0_clearSticks_9 : decode cX0_clearSticks 9 = .ok (.getfield 24, 3) := by decide +kernel
theorem dX0_clearSticks_12 : decode cX0_clearSticks 12 = .ok (.iconst 0, 1) := by decide +kernel
theorem dX0_clearSticks_13 : decode cX0_clearSticks 13 = .ok (.invokestatic 30, 3) := by decide +kernel
theorem dX0_clearSticks_16 : decode cX0_clearSticks 16 = .ok (.aload_n 0, 1) := by decide +kernel
theorem dX0_clearSticks_17 : decode cX0_clearSticks 17 = .ok (.getfield 27, 3) := by decide +kernel
theorem dX0_clearSticks_20 : decode cX0_clearSticks 20 = .ok (.iconst 0, 1) := by decide +kernel
theorem dX0_clearSticks_21 : decode cX0_clearSticks 21 = .ok (.invokestatic 30, 3) := by decide +kernel
theorem dX0_clearSticks_24 : decode cX0_clearSticks 24 = .ok (.return_, 1) := by decide +kernel
theorem dX0_become_0 : decode cX0_become 0 = .ok (.aload_n 1, 1) := by decide +kernel
theorem dX0_become_1 : decode cX0_become 1 = .ok (.getfield 9, 3) := by decide +kernel
theorem dX0_become_4 : decode cX0_become 4 = .ok (.iconst 0, 1) := by decide +kernel
theorem dX0_become_5 : decode cX0_become 5 = .ok (.aload_n 0, 1) := by decide +kernel
theorem dX0_become_6 : decode cX0_become 6 = .ok (.getfield 9, 3) := by decide +kernel
theorem dX0_become_9 : decode cX0_become 9 = .ok (.iconst 0, 1) := by decide +kernel
theorem dX0_become_10 : decode cX0_become 10 = .ok (.bipush 120, 2) := by decide +kernel
theorem dX0_become_12 : decode cX0_become 12 = .ok (.invokestatic 49, 3) := by decide +kernel
theorem dX0_become_15 : decode cX0_become 15 = .ok (.aload_n 1, 1) := by decide +kernel
theorem dX0_become_16 : decode cX0_become 16 = .ok (.getfield 15, 3) := by decide +kernel
theorem dX0_become_19 : decode cX0_become 19 = .ok (.iconst 0, 1) := by decide +kernel
theorem dX0_become_20 : decode cX0_become 20 = .ok (.aload_n 0, 1) := by decide +kernel
theorem dX0_become_21 : decode cX0_become 21 = .ok (.getfield 15, 3) := by decide +kernel
theorem dX0_become_24 : decode cX0_become 24 = .ok (.iconst 0, 1) := by decide +kernel
theorem dX0_become_25 : decode cX0_become 25 = .ok (.bipush 120, 2) := by decide +kernel
theorem dX0_become_27 : decode cX0_become 27 = .ok (.invokestatic 49, 3) := by decide +kernel
theorem dX0_become_30 : decode cX0_become 30 = .ok (.aload_n 1, 1) := by decide +kernel
theorem dX0_become_31 : decode cX0_become 31 = .ok (.getfield 18, 3) := by decide +kernel
theorem dX0_become_34 : decode cX0_become 34 = .ok (.iconst 0, 1) := by decide +kernel
theorem dX0_become_35 : decode cX0_become 35 = .ok (.aload_n 0, 1) := by decide +kernel
theorem dX0_become_36 : decode cX0_become 36 = .ok (.getfield 18, 3) := by decide +kernel
theorem dX0_become_39 : decode cX0_become 39 = .ok (.iconst 0, 1) := by decide +kernel
theorem dX0_become_40 : decode cX0_become 40 = .ok (.bipush 120, 2) := by decide +kernel
theorem dX0_become_42 : decode cX0_become 42 = .ok (.invokestatic 49, 3) := by decide +kernel
theorem dX0_become_45 : decode cX0_become 45 = .ok (.aload_n 1, 1) := by decide +kernel
theorem dX0_become_46 : decode cX0_become 46 = .ok (.getfield 21, 3) := by decide +kernel
theorem dX0_become_49 : decode cX0_become 49 = .ok (.iconst 0, 1) := by decide +kernel
theorem dX0_become_50 : decode cX0_become 50 = .ok (.aload_n 0, 1) := by decide +kernel
theorem dX0_become_51 : decode cX0_become 51 = .ok (.getfield 21, 3) := by decide +kernel
theorem dX0_become_54 : decode cX0_become 54 = .ok (.iconst 0, 1) := by decide +kernel
theorem dX0_become_55 : decode cX0_become 55 = .ok (.bipush 120, 2) := by decide +kernel
theorem dX0_become_57 : decode cX0_become 57 = .ok (.invokestatic 49, 3) := by decide +kernel
theorem dX0_become_60 : decode cX0_become 60 = .ok (.aload_n 1, 1) := by decide +kernel
theorem dX0_become_61 : decode cX0_become 61 = .ok (.getfield 24, 3) := by decide +kernel
theorem dX0_become_64 : decode cX0_become 64 = .ok (.iconst 0, 1) := by decide +kernel
theorem dX0_become_65 : decode cX0_become 65 = .ok (.aload_n 0, 1) := by decide +kernel
theorem dX0_become_66 : decode cX0_become 66 = .ok (.getfield 24, 3) := by decide +kernel
theorem dX0_become_69 : decode cX0_become 69 = .ok (.iconst 0, 1) := by decide +kernel
theorem dX0_become_70 : decode cX0_become 70 = .ok (.bipush 120, 2) := by decide +kernel
theorem dX0_become_72 : decode cX0_become 72 = .ok (.invokestatic 49, 3) := by decide +kernel
theorem dX0_become_75 : decode cX0_become 75 = .ok (.aload_n 1, 1) := by decide +kernel
theorem dX0_become_76 : decode cX0_become 76 = .ok (.getfield 27, 3) := by decide +kernel
theorem dX0_become_79 : decode cX0_become 79 = .ok (.iconst 0, 1) := by decide +kernel
theorem dX0_become_80 : decode cX0_become 80 = .ok (.aload_n 0, 1) := by decide +kernel
theorem dX0_become_81 : decode cX0_become 81 = .ok (.getfield 27, 3) := by decide +kernel
theorem dX0_become_84 : decode cX0_become 84 = .ok (.iconst 0, 1) := by decide +kernel
theorem dX0_become_85 : decode cX0_become 85 = .ok (.bipush 120, 2) := by decide +kernel
theorem dX0_become_87 : decode cX0_become 87 = .ok (.invokestatic 49, 3) := by decide +kernel
theorem dX0_become_90 : decode cX0_become 90 = .ok (.aload_n 0, 1) := by decide +kernel
theorem dX0_become_91 : decode cX0_become 91 = .ok (.aload_n 1, 1) := by decide +kernel
theorem dX0_become_92 : decode cX0_become 92 = .ok (.getfield 39, 3) := by decide +kernel
theorem dX0_become_95 : decode cX0_become 95 = .ok (.putfield 39, 3) := by decide +kernel
theorem dX0_become_98 : decode cX0_become 98 = .ok (.aload_n 0, 1) := by decide +kernel
theorem dX0_become_99 : decode cX0_become 99 = .ok (.aload_n 1, 1) := by decide +kernel
theorem dX0_become_100 : decode cX0_become 100 = .ok (.getfield 43, 3) := by decide +kernel
theorem dX0_become_103 : decode cX0_become 103 = .ok (.putfield 43, 3) := by decide +kernel
theorem dX0_become_106 : decode cX0_become 106 = .ok (.aload_n 0, 1) := by decide +kernel
theorem dX0_become_107 : decode cX0_become 107 = .ok (.aload_n 1, 1) := by decide +kernel
theorem dX0_become_108 : decode cX0_become 108 = .ok (.getfield 46, 3) := by decide +kernel
theorem dX0_become_111 : decode cX0_become 111 = .ok (.putfield 46, 3) := by decide +kernel
theorem dX0_become_114 : decode cX0_become 114 = .ok (.return_, 1) := by decide +kernel
theorem dX0_takeSand_0 : decode cX0_takeSand 0 = .ok (.iload_n 2, 1) := by decide +kernel
theorem dX0_takeSand_1 : decode cX0_takeSand 1 = .ok (.aload_n 0, 1) := by decide +kernel
theorem dX0_takeSand_2 : decode cX0_takeSand 2 = .ok (.getfield 9, 3) := by decide +kernel
theorem dX0_takeSand_5 : decode cX0_takeSand 5 = .ok (.iload_n 1, 1) := by decide +kernel
theorem dX0_takeSand_6 : decode cX0_takeSand 6 = .ok (.iaload, 1) := by decide +kernel
theorem dX0_takeSand_7 : decode cX0_takeSand 7 = .ok (.invokestatic 55, 3) := by decide +kernel
theorem dX0_takeSand_10 : decode cX0_takeSand 10 = .ok (.istore_n 3, 1) := by decide +kernel
theorem dX0_takeSand_11 : decode cX0_takeSand 11 = .ok (.aload_n 0, 1) := by decide +kernel
theorem dX0_takeSand_12 : decode cX0_takeSand 12 = .ok (.getfield 9, 3) := by decide +kernel
theorem dX0_takeSand_15 : decode cX0_takeSand 15 = .ok (.iload_n 1, 1) := by decide +kernel
theorem dX0_takeSand_16 : decode cX0_takeSand 16 = .ok (.dup2, 1) := by decide +kernel
theorem dX0_takeSand_17 : decode cX0_takeSand 17 = .ok (.iaload, 1) := by decide +kernel
theorem dX0_takeSand_18 : decode cX0_takeSand 18 = .ok (.iload_n 3, 1) := by decide +kernel
theorem dX0_takeSand_19 : decode cX0_takeSand 19 = .ok (.isub, 1) := by decide +kernel
theorem dX0_takeSand_20 : decode cX0_takeSand 20 = .ok (.iastore, 1) := by decide +kernel
theorem dX0_takeSand_21 : decode cX0_takeSand 21 = .ok (.aload_n 0, 1) := by decide +kernel
theorem dX0_takeSand_22 : decode cX0_takeSand 22 = .ok (.getfield 15, 3) := by decide +kernel
theorem dX0_takeSand_25 : decode cX0_takeSand 25 = .ok (.iload_n 1, 1) := by decide +kernel
theorem dX0_takeSand_26 : decode cX0_takeSand 26 = .ok (.iconst 0, 1) := by decide +kernel
theorem dX0_takeSand_27 : decode cX0_takeSand 27 = .ok (.iastore, 1) := by decide +kernel
theorem dX0_takeSand_28 : decode cX0_takeSand 28 = .ok (.iload_n 3, 1) := by decide +kernel
theorem dX0_takeSand_29 : decode cX0_takeSand 29 = .ok (.ireturn, 1) := by decide +kernel
set_option maxRecDepth 20000 in
theorem ggX0_putSand_X0_soften : GoodIn wsX0_putSand wsX0_soften := goodIn_r _ [10, 11, 12, 13, 14, 15, 16, 17, 18, 19, 20] (by decide +kernel) (by decide +kernel)
set_option maxRecDepth 20000 in
theorem gX0_putSand_X0_soften : GoodIn wsX0_putSand (wsV RX0 61 RX0 yX0_soften wsX0_soften) := goodIn_app (goodIn_of _ (by decide +kernel)) ggX0_putSand_X0_soften
theorem dX0_putSand_0 : decode cX0_putSand 0 = .ok (.iload_n 2, 1) := by decide +kernel
theorem dX0_putSand_1 : decode cX0_putSand 1 = .ok (.bipush 20, 2) := by decide +kernel
theorem dX0_putSand_3 : decode cX0_putSand 3 = .ok (.aload_n 0, 1) := by decide +kernel
theorem dX0_putSand_4 : decode cX0_putSand 4 = .ok (.getfield 9, 3) := by decide +kernel
theorem dX0_putSand_7 : decode cX0_putSand 7 = .ok (.iload_n 1, 1) := by decide +kernel
theorem dX0_putSand_8 : decode cX0_putSand 8 = .ok (.iaload, 1) := by decide +kernel
theorem dX0_putSand_9 : decode cX0_putSand 9 = .ok (.isub, 1) := by decide +kernel
theorem dX0_putSand_10 : decode cX0_putSand 10 = .ok (.invokestatic 55, 3) := by decide +kernel
theorem dX0_putSand_13 : decode cX0_putSand 13 = .ok (.istore_n 3, 1) := by decide +kernel
theorem dX0_putSand_14 : decode cX0_putSand 14 = .ok (.aload_n 0, 1) := by decide +kernel
theorem dX0_putSand_15 : decode cX0_putSand 15 = .ok (.getfield 9, 3) := by decide +kernel
theorem dX0_putSand_18 : decode cX0_putSand 18 = .ok (.iload_n 1, 1) := by decide +kernel
theorem dX0_putSand_19 : decode cX0_putSand 19 = .ok (.dup2, 1) := by decide +kernel
theorem dX0_putSand_20 : decode cX0_putSand 20 = .ok (.iaload, 1) := by decide +kernel
theorem dX0_putSand_21 : decode cX0_putSand 21 = .ok (.iload_n 3, 1) := by decide +kernel
theorem dX0_putSand_22 : decode cX0_putSand 22 = .ok (.iadd, 1) := by decide +kernel
theorem dX0_putSand_23 : decode cX0_putSand 23 = .ok (.iastore, 1) := by decide +kernel
theorem dX0_putSand_24 : decode cX0_putSand 24 = .ok (.iload_n 3, 1) := by decide +kernel
theorem dX0_putSand_25 : decode cX0_putSand 25 = .ok (.ifCond .le 8, 3) := by decide +kernel
theorem dX0_putSand_28 : decode cX0_putSand 28 = .ok (.aload_n 0, 1) := by decide +kernel
theorem dX0_putSand_29 : decode cX0_putSand 29 = .ok (.iload_n 1, 1) := by decide +kernel
theorem dX0_putSand_30 : decode cX0_putSand 30 = .ok (.invokevirtual 61, 3) := by decide +kernel
theorem dX0_putSand_33 : decode cX0_putSand 33 = .ok (.iload_n 3, 1) := by decide +kernel
theorem dX0_putSand_34 : decode cX0_putSand 34 = .ok (.ireturn, 1) := by decide +kernel
set_option maxRecDepth 20000 in
theorem ggX0_harden_X0_isWet : GoodIn wsX0_harden wsX0_isWet := goodIn_r _ [7, 8, 9, 10, 11, 12, 13, 14, 15, 16, 17] (by decide +kernel) (by decide +kernel)
set_option maxRecDepth 20000 in
theorem gX0_harden_X0_isWet : GoodIn wsX0_harden (wsV RX0 65 RX0 yX0_isWet wsX0_isWet) := goodIn_app (goodIn_of _ (by decide +kernel)) ggX0_harden_X0_isWet
theorem dX0_harden_0 : decode cX0_harden 0 = .ok (.aload_n 0, 1) := by decide +kernel
theorem dX0_harden_1 : decode cX0_harden 1 = .ok (.getfield 9, 3) := by decide +kernel
theorem dX0_harden_4 : decode cX0_harden 4 = .ok (.iload_n 1, 1) := by decide +kernel
theorem dX0_harden_5 : decode cX0_harden 5 = .ok (.iaload, 1) := by decide +kernel
theorem dX0_harden_6 : decode cX0_harden 6 = .ok (.ifCond .le 31, 3) := by decide +kernel
theorem dX0_harden_9 : decode cX0_harden 9 = .ok (.aload_n 0, 1) := by decide +kernel
theorem dX0_harden_10 : decode cX0_harden 10 = .ok (.iload_n 1, 1) := by decide +kernel
theorem dX0_harden_11 : decode cX0_harden 11 = .ok (.invokevirtual 65, 3) := by decide +kernel
theorem dX0_harden_14 : decode cX0_harden 14 = .ok (.ifCond .ne 23, 3) := by decide +kernel
theorem dX0_harden_17 : decode cX0_harden 17 = .ok (.aload_n 0, 1) := by decide +kernel
theorem dX0_harden_18 : decode cX0_harden 18 = .ok (.getfield 15, 3) := by decide +kernel
theorem dX0_harden_21 : decode cX0_harden 21 = .ok (.iload_n 1, 1) := by decide +kernel
theorem dX0_harden_22 : decode cX0_harden 22 = .ok (.iaload, 1) := by decide +kernel
theorem dX0_harden_23 : decode cX0_harden 23 = .ok (.iconst 5, 1) := by decide +kernel
theorem dX0_harden_24 : decode cX0_harden 24 = .ok (.if_icmp .ge 13, 3) := by decide +kernel
theorem dX0_harden_27 : decode cX0_harden 27 = .ok (.aload_n 0, 1) := by decide +kernel
theorem dX0_harden_28 : decode cX0_harden 28 = .ok (.getfield 15, 3) := by decide +kernel
theorem dX0_harden_31 : decode cX0_harden 31 = .ok (.iload_n 1, 1) := by decide +kernel
theorem dX0_harden_32 : decode cX0_harden 32 = .ok (.dup2, 1) := by decide +kernel
theorem dX0_harden_33 : decode cX0_harden 33 = .ok (.iaload, 1) := by decide +kernel
theorem dX0_harden_34 : decode cX0_harden 34 = .ok (.iconst 1, 1) := by decide +kernel
theorem dX0_harden_35 : decode cX0_harden 35 = .ok (.iadd, 1) := by decide +kernel
theorem dX0_harden_36 : decode cX0_harden 36 = .ok (.iastore, 1) := by decide +kernel
theorem dX0_harden_37 : decode cX0_harden 37 = .ok (.aload_n 0, 1) := by decide +kernel
theorem dX0_harden_38 : decode cX0_harden 38 = .ok (.getfield 15, 3) := by decide +kernel
theorem dX0_harden_41 : decode cX0_harden 41 = .ok (.iload_n 1, 1) := by decide +kernel
theorem dX0_harden_42 : decode cX0_harden 42 = .ok (.iaload, 1) := by decide +kernel
theorem dX0_harden_43 : decode cX0_harden 43 = .ok (.ireturn, 1) := by decide +kernel
set_option maxRecDepth 20000 in
theorem ggX0_putStick_X0_height : GoodIn wsX0_putStick wsX0_height := goodIn_r _ [7, 8, 9, 10, 11, 12, 13, 14, 15, 16, 17] (by decide +kernel) (by decide +kernel)
set_option maxRecDepth 20000 in
theorem gX0_putStick_X0_height : GoodIn wsX0_putStick (wsV RX0 69 RX0 yX0_height wsX0_height) := goodIn_app (goodIn_of _ (by decide +kernel)) ggX0_putStick_X0_height
theorem dX0_putStick_0 : decode cX0_putStick 0 = .ok (.aload_n 0, 1) := by decide +kernel
theorem dX0_putStick_1 : decode cX0_putStick 1 = .ok (.getfield 21, 3) := by decide +kernel
theorem dX0_putStick_4 : decode cX0_putStick 4 = .ok (.iload_n 1, 1) := by decide +kernel
theorem dX0_putStick_5 : decode cX0_putStick 5 = .ok (.iload_n 2, 1) := by decide +kernel
theorem dX0_putStick_6 : decode cX0_putStick 6 = .ok (.iastore, 1) := by decide +kernel
theorem dX0_putStick_7 : decode cX0_putStick 7 = .ok (.aload_n 0, 1) := by decide +kernel
theorem dX0_putStick_8 : decode cX0_putStick 8 = .ok (.getfield 24, 3) := by decide +kernel
theorem dX0_putStick_11 : decode cX0_putStick 11 = .ok (.iload_n 1, 1) := by decide +kernel
theorem dX0_putStick_12 : decode cX0_putStick 12 = .ok (.aload_n 0, 1) := by decide +kernel
theorem dX0_putStick_13 : decode cX0_putStick 13 = .ok (.iload_n 1, 1) := by decide +kernel
theorem dX0_putStick_14 : decode cX0_putStick 14 = .ok (.invokevirtual 69, 3) := by decide +kernel
theorem dX0_putStick_17 : decode cX0_putStick 17 = .ok (.iastore, 1) := by decide +kernel
theorem dX0_putStick_18 : decode cX0_putStick 18 = .ok (.return_, 1) := by decide +kernel
set_option maxRecDepth 20000 in
theorem ggX0_letHourGoBy_X0_findWater : GoodIn wsX0_letHourGoBy wsX0_findWater := goodIn_r _ [6, 7, 8, 9, 10, 11, 12, 13, 14, 5, 15, 16, 17, 18, 19, 20, 21, 22, 23, 24, 25, 26, 27, 28, 29, 30, 31, 73, 74, 75, 76, 77, 78, 79, 80, 81] (by decide +kernel) (by decide +kernel)
set_option maxRecDepth 20000 in
theorem gX0_letHourGoBy_X0_findWater : GoodIn wsX0_letHourGoBy (wsV RX0 73 RX0 yX0_findWater wsX0_findWater) := goodIn_app (goodIn_of _ (by decide +kernel)) ggX0_letHourGoBy_X0_findWater
set_option maxRecDepth 20000 in
theorem ggX0_letHourGoBy_X0_washSandAway : GoodIn wsX0_letHourGoBy wsX0_washSandAway := goodIn_r _ [35, 36, 37, 38, 39, 40, 24, 41, 42, 43, 44, 16, 17, 18, 5, 19, 7, 20, 21, 22, 23, 45, 46, 47, 48, 73, 74, 75, 76, 77, 78, 79, 80, 81] (by decide +kernel) (by decide +kernel)
set_option maxRecDepth 20000 in
theorem gX0_letHourGoBy_X0_washSandAway : GoodIn wsX0_letHourGoBy (wsV RX0 76 RX0 yX0_washSandAway wsX0_washSandAway) := goodIn_app (goodIn_of _ (by decide +kernel)) ggX0_letHourGoBy_X0_washSandAway
set_option maxRecDepth 20000 in
theorem ggX0_letHourGoBy_X0_letSandSlide : GoodIn wsX0_letHourGoBy wsX0_letSandSlide := goodIn_r _ [52, 53, 54, 55, 5, 56, 24, 57, 58, 59, 60, 29, 30, 31, 20, 21, 22, 23, 61, 62, 63, 64, 36, 73, 74, 75, 76, 77, 78, 79, 80, 81] (by decide +kernel) (by decide +kernel)
set_option maxRecDepth 20000 in
theorem gX0_letHourGoBy_X0_letSandSlide : GoodIn wsX0_letHourGoBy (wsV RX0 79 RX0 yX0_letSandSlide wsX0_letSandSlide) := goodIn_app (goodIn_of _ (by decide +kernel)) ggX0_letHourGoBy_X0_letSandSlide
set_option maxRecDepth 20000 in
theorem ggX0_letHourGoBy_X0_judgeSticks : GoodIn wsX0_letHourGoBy wsX0_judgeSticks := goodIn_r _ [68, 69, 70, 71, 72, 24, 16, 17, 18, 5, 19, 7, 20, 21, 22, 23, 73, 74, 75, 76, 77, 78, 79, 80, 81] (by decide +kernel) (by decide +kernel)
set_option maxRecDepth 20000 in
theorem gX0_letHourGoBy_X0_judgeSticks : GoodIn wsX0_letHourGoBy (wsV RX0 83 RX0 yX0_judgeSticks wsX0_judgeSticks) := goodIn_app (goodIn_of _ (by decide +kernel)) ggX0_letHourGoBy_X0_judgeSticks
theorem dX0_letHourGoBy_0 : decode cX0_letHourGoBy 0 = .ok (.aload_n 0, 1) := by decide +kernel
theorem dX0_letHourGoBy_1 : decode cX0_letHourGoBy 1 = .ok (.iload_n 1, 1) := by decide +kernel
theorem dX0_letHourGoBy_2 : decode cX0_letHourGoBy 2 = .ok (.invokevirtual 73, 3) := by decide +kernel
theorem dX0_letHourGoBy_5 : decode cX0_letHourGoBy 5 = .ok (.aload_n 0, 1) := by decide +kernel
theorem dX0_letHourGoBy_6 : decode cX0_letHourGoBy 6 = .ok (.iload_n 1, 1) := by decide +kernel
theorem dX0_letHourGoBy_7 : decode cX0_letHourGoBy 7 = .ok (.invokevirtual 76, 3) := by decide +kernel
theorem dX0_letHourGoBy_10 : decode cX0_letHourGoBy 10 = .ok (.aload_n 0, 1) := by decide +kernel
theorem dX0_letHourGoBy_11 : decode cX0_letHourGoBy 11 = .ok (.aload_n 0, 1) := by decide +kernel
theorem dX0_letHourGoBy_12 : decode cX0_letHourGoBy 12 = .ok (.invokevirtual 79, 3) := by decide +kernel
theorem dX0_letHourGoBy_15 : decode cX0_letHourGoBy 15 = .ok (.putfield 43, 3) := by decide +kernel
theorem dX0_letHourGoBy_18 : decode cX0_letHourGoBy 18 = .ok (.aload_n 0, 1) := by decide +kernel
theorem dX0_letHourGoBy_19 : decode cX0_letHourGoBy 19 = .ok (.invokevirtual 83, 3) := by decide +kernel
theorem dX0_letHourGoBy_22 : decode cX0_letHourGoBy 22 = .ok (.return_, 1) := by decide +kernel
set_option maxRecDepth 20000 in
theorem ggX0_findWater_J7_fill_53178 : GoodIn wsX0_findWater wsJ7_fill_53178 := goodIn_r _ [5] (by decide +kernel) (by decide +kernel)
set_option maxRecDepth 20000 in
theorem gX0_findWater_J7_fill_53178 : GoodIn wsX0_findWater (va_wsS RX0 30 yJ7_fill_53178 wsJ7_fill_53178) := goodIn_app (goodIn_of _ (by decide +kernel)) ggX0_findWater_J7_fill_53178
set_option maxRecDepth 20000 in
theorem ggX0_findWater_X0_sweepWater : GoodIn wsX0_findWater wsX0_sweepWater := goodIn_r _ [10, 1, 11, 12, 13, 9, 14, 15, 16, 17, 18, 19, 20, 21, 22, 23, 24, 25, 26, 27, 28, 29, 30, 31, 32, 33, 34, 35] (by decide +kernel) (by decide +kernel)
set_option maxRecDepth 20000 in
theorem gX0_findWater_X0_sweepWater : GoodIn wsX0_findWater (wsV RX0 86 RX0 yX0_sweepWater wsX0_sweepWater) := goodIn_app (goodIn_of _ (by decide +kernel)) ggX0_findWater_X0_sweepWater
theorem dX0_findWater_0 : decode cX0_findWater 0 = .ok (.aload_n 0, 1) := by decide +kernel
theorem dX0_findWater_1 : decode cX0_findWater 1 = .ok (.getfield 18, 3) := by decide +kernel
theorem dX0_findWater_4 : decode cX0_findWater 4 = .ok (.iconst 0, 1) := by decide +kernel
theorem dX0_findWater_5 : decode cX0_findWater 5 = .ok (.invokestatic 30, 3) := by decide +kernel
theorem dX0_findWater_8 : decode cX0_findWater 8 = .ok (.iconst 1, 1) := by decide +kernel
theorem dX0_findWater_9 : decode cX0_findWater 9 = .ok (.istore_n 2, 1) := by decide +kernel
theorem dX0_findWater_10 : decode cX0_findWater 10 = .ok (.iconst 0, 1) := by decide +kernel
theorem dX0_findWater_11 : decode cX0_findWater 11 = .ok (.istore_n 3, 1) := by decide +kernel
theorem dX0_findWater_12 : decode cX0_findWater 12 = .ok (.iload_n 2, 1) := by decide +kernel
theorem dX0_findWater_13 : decode cX0_findWater 13 = .ok (.ifCond .eq 21, 3) := by decide +kernel
theorem dX0_findWater_16 : decode cX0_findWater 16 = .ok (.iload_n 3, 1) := by decide +kernel
theorem dX0_findWater_17 : decode cX0_findWater 17 = .ok (.bipush 120, 2) := by decide +kernel
theorem dX0_findWater_19 : decode cX0_findWater 19 = .ok (.if_icmp .gt 15, 3) := by decide +kernel
theorem dX0_findWater_22 : decode cX0_findWater 22 = .ok (.aload_n 0, 1) := by decide +kernel
theorem dX0_findWater_23 : decode cX0_findWater 23 = .ok (.iload_n 1, 1) := by decide +kernel
theorem dX0_findWater_24 : decode cX0_findWater 24 = .ok (.invokevirtual 86, 3) := by decide +kernel
theorem dX0_findWater_27 : decode cX0_findWater 27 = .ok (.istore_n 2, 1) := by decide +kernel
theorem dX0_findWater_28 : decode cX0_findWater 28 = .ok (.iinc 3 1, 3) := by decide +kernel
theorem dX0_findWater_31 : decode cX0_findWater 31 = .ok (.goto (-19), 3) := by decide +kernel
theorem dX0_findWater_34 : decode cX0_findWater 34 = .ok (.return_, 1) := by decide +kernel
set_option maxRecDepth 20000 in
theorem ggX0_sweepWater_X0_isWet : GoodIn wsX0_sweepWater wsX0_isWet := goodIn_r _ [6, 1, 19, 20, 21, 22, 23, 24, 25, 26, 27] (by decide +kernel) (by decide +kernel)
set_option maxRecDepth 20000 in
theorem gX0_sweepWater_X0_isWet : GoodIn wsX0_sweepWater (wsV RX0 65 RX0 yX0_isWet wsX0_isWet) := goodIn_app (goodIn_of _ (by decide +kernel)) ggX0_sweepWater_X0_isWet
set_option maxRecDepth 20000 in
theorem ggX0_sweepWater_X0_height : GoodIn wsX0_sweepWater wsX0_height := goodIn_r _ [10, 11, 19, 20, 21, 22, 23, 24, 25, 26, 27] (by decide +kernel) (by decide +kernel)
set_option maxRecDepth 20000 in
theorem gX0_sweepWater_X0_height : GoodIn wsX0_sweepWater (wsV RX0 69 RX0 yX0_height wsX0_height) := goodIn_app (goodIn_of _ (by decide +kernel)) ggX0_sweepWater_X0_height
set_option maxRecDepth 20000 in
theorem ggX0_sweepWater_X0_isOpenToSea : GoodIn wsX0_sweepWater wsX0_isOpenToSea := goodIn_r _ [15, 16, 17, 5, 18, 2, 3, 4, 6, 1, 19, 20, 21, 22, 23, 24, 25, 26, 27] (by decide +kernel) (by decide +kernel)
set_option maxRecDepth 20000 in
theorem gX0_sweepWater_X0_isOpenToSea : GoodIn wsX0_sweepWater (wsV RX0 89 RX0 yX0_isOpenToSea wsX0_isOpenToSea) := goodIn_app (goodIn_of _ (by decide +kernel)) ggX0_sweepWater_X0_isOpenToSea
theorem dX0_sweepWater_0 : decode cX0_sweepWater 0 = .ok (.iconst 0, 1) := by decide +kernel
theorem dX0_sweepWater_1 : decode cX0_sweepWater 1 = .ok (.istore_n 2, 1) := by decide +kernel
theorem dX0_sweepWater_2 : decode cX0_sweepWater 2 = .ok (.iconst 0, 1) := by decide +kernel
theorem dX0_sweepWater_3 : decode cX0_sweepWater 3 = .ok (.istore_n 3, 1) := by decide +kernel
theorem dX0_sweepWater_4 : decode cX0_sweepWater 4 = .ok (.iload_n 3, 1) := by decide +kernel
theorem dX0_sweepWater_5 : decode cX0_sweepWater 5 = .ok (.bipush 120, 2) := by decide +kernel
theorem dX0_sweepWater_7 : decode cX0_sweepWater 7 = .ok (.if_icmp .ge 43, 3) := by decide +kernel
theorem dX0_sweepWater_10 : decode cX0_sweepWater 10 = .ok (.aload_n 0, 1) := by decide +kernel
theorem dX0_sweepWater_11 : decode cX0_sweepWater 11 = .ok (.iload_n 3, 1) := by decide +kernel
theorem dX0_sweepWater_12 : decode cX0_sweepWater 12 = .ok (.invokevirtual 65, 3) := by decide +kernel
theorem dX0_sweepWater_15 : decode cX0_sweepWater 15 = .ok (.ifCond .ne 29, 3) := by decide +kernel
theorem dX0_sweepWater_18 : decode cX0_sweepWater 18 = .ok (.aload_n 0, 1) := by decide +kernel
theorem dX0_sweepWater_19 : decode cX0_sweepWater 19 = .ok (.iload_n 3, 1) := by decide +kernel
theorem dX0_sweepWater_20 : decode cX0_sweepWater 20 = .ok (.invokevirtual 69, 3) := by decide +kernel
theorem dX0_sweepWater_23 : decode cX0_sweepWater 23 = .ok (.iload_n 1, 1) := by decide +kernel
theorem dX0_sweepWater_24 : decode cX0_sweepWater 24 = .ok (.if_icmp .ge 20, 3) := by decide +kernel
theorem dX0_sweepWater_27 : decode cX0_sweepWater 27 = .ok (.aload_n 0, 1) := by decide +kernel
theorem dX0_sweepWater_28 : decode cX0_sweepWater 28 = .ok (.iload_n 3, 1) := by decide +kernel
theorem dX0_sweepWater_29 : decode cX0_sweepWater 29 = .ok (.invokevirtual 89, 3) := by decide +kernel
theorem dX0_sweepWater_32 : decode cX0_sweepWater 32 = .ok (.ifCond .eq 12, 3) := by decide +kernel
theorem dX0_sweepWater_35 : decode cX0_sweepWater 35 = .ok (.aload_n 0, 1) := by decide +kernel
theorem dX0_sweepWater_36 : decode cX0_sweepWater 36 = .ok (.getfield 18, 3) := by decide +kernel
theorem dX0_sweepWater_39 : decode cX0_sweepWater 39 = .ok (.iload_n 3, 1) := by decide +kernel
theorem dX0_sweepWater_40 : decode cX0_sweepWater 40 = .ok (.iconst 1, 1) := by decide +kernel
theorem dX0_sweepWater_41 : decode cX0_sweepWater 41 = .ok (.iastore, 1) := by decide +kernel
theorem dX0_sweepWater_42 : decode cX0_sweepWater 42 = .ok (.iconst 1, 1) := by decide +kernel
theorem dX0_sweepWater_43 : decode cX0_sweepWater 43 = .ok (.istore_n 2, 1) := by decide +kernel
theorem dX0_sweepWater_44 : decode cX0_sweepWater 44 = .ok (.iinc 3 1, 3) := by decide +kernel
theorem dX0_sweepWater_47 : decode cX0_sweepWater 47 = .ok (.goto (-43), 3) := by decide +kernel
theorem dX0_sweepWater_50 : decode cX0_sweepWater 50 = .ok (.iload_n 2, 1) := by decide +kernel
theorem dX0_sweepWater_51 : decode cX0_sweepWater 51 = .ok (.ireturn, 1) := by decide +kernel
set_option maxRecDepth 20000 in
theorem ggX0_isOpenToSea_X0_beside : GoodIn wsX0_isOpenToSea wsX0_beside := goodIn_r _ [4] (by decide +kernel) (by decide +kernel)
set_option maxRecDepth 20000 in
theorem gX0_isOpenToSea_X0_beside : GoodIn wsX0_isOpenToSea (va_wsS RX0 92 yX0_beside wsX0_beside) := goodIn_app (goodIn_of _ (by decide +kernel)) ggX0_isOpenToSea_X0_beside
set_option maxRecDepth 20000 in
theorem ggX0_isOpenToSea_X0_isWet : GoodIn wsX0_isOpenToSea wsX0_isWet := goodIn_r _ [8, 9, 10, 11, 12, 13, 14, 15, 16, 17, 18] (by decide +kernel) (by decide +kernel)
set_option maxRecDepth 20000 in
theorem gX0_isOpenToSea_X0_isWet : GoodIn wsX0_isOpenToSea (wsV RX0 65 RX0 yX0_isWet wsX0_isWet) := goodIn_app (goodIn_of _ (by decide +kernel)) ggX0_isOpenToSea_X0_isWet
theorem dX0_isOpenToSea_0 : decode cX0_isOpenToSea 0 = .ok (.iload_n 1, 1) := by decide +kernel
theorem dX0_isOpenToSea_1 : decode cX0_isOpenToSea 1 = .ok (.bipush 12, 2) := by decide +kernel
theorem dX0_isOpenToSea_3 : decode cX0_isOpenToSea 3 = .ok (.if_icmp .ge 5, 3) := by decide +kernel
theorem dX0_isOpenToSea_6 : decode cX0_isOpenToSea 6 = .ok (.iconst 1, 1) := by decide +kernel
theorem dX0_isOpenToSea_7 : decode cX0_isOpenToSea 7 = .ok (.ireturn, 1) := by decide +kernel
theorem dX0_isOpenToSea_8 : decode cX0_isOpenToSea 8 = .ok (.iconst 0, 1) := by decide +kernel
theorem dX0_isOpenToSea_9 : decode cX0_isOpenToSea 9 = .ok (.istore_n 2, 1) := by decide +kernel
theorem dX0_isOpenToSea_10 : decode cX0_isOpenToSea 10 = .ok (.iload_n 2, 1) := by decide +kernel
theorem dX0_isOpenToSea_11 : decode cX0_isOpenToSea 11 = .ok (.iconst 4, 1) := by decide +kernel
theorem dX0_isOpenToSea_12 : decode cX0_isOpenToSea 12 = .ok (.if_icmp .ge 30, 3) := by decide +kernel
theorem dX0_isOpenToSea_15 : decode cX0_isOpenToSea 15 = .ok (.iload_n 1, 1) := by decide +kernel
theorem dX0_isOpenToSea_16 : decode cX0_isOpenToSea 16 = .ok (.iload_n 2, 1) := by decide +kernel
theorem dX0_isOpenToSea_17 : decode cX0_isOpenToSea 17 = .ok (.invokestatic 92, 3) := by decide +kernel
theorem dX0_isOpenToSea_20 : decode cX0_isOpenToSea 20 = .ok (.istore_n 3, 1) := by decide +kernel
theorem dX0_isOpenToSea_21 : decode cX0_isOpenToSea 21 = .ok (.iload_n 3, 1) := by decide +kernel
theorem dX0_isOpenToSea_22 : decode cX0_isOpenToSea 22 = .ok (.iconst (-1), 1) := by decide +kernel
theorem dX0_isOpenToSea_23 : decode cX0_isOpenToSea 23 = .ok (.if_icmp .eq 13, 3) := by decide +kernel
theorem dX0_isOpenToSea_26 : decode cX0_isOpenToSea 26 = .ok (.aload_n 0, 1) := by decide +kernel
theorem dX0_isOpenToSea_27 : decode cX0_isOpenToSea 27 = .ok (.iload_n 3, 1) := by decide +kernel
theorem dX0_isOpenToSea_28 : decode cX0_isOpenToSea 28 = .ok (.invokevirtual 65, 3) := by decide +kernel
theorem dX0_isOpenToSea_31 : decode cX0_isOpenToSea 31 = .ok (.ifCond .eq 5, 3) := by decide +kernel
theorem dX0_isOpenToSea_34 : decode cX0_isOpenToSea 34 = .ok (.iconst 1, 1) := by decide +kernel
theorem dX0_isOpenToSea_35 : decode cX0_isOpenToSea 35 = .ok (.ireturn, 1) := by decide +kernel
theorem dX0_isOpenToSea_36 : decode cX0_isOpenToSea 36 = .ok (.iinc 2 1, 3) := by decide +kernel
theorem dX0_isOpenToSea_39 : decode cX0_isOpenToSea 39 = .ok (.goto (-29), 3) := by decide +kernel
theorem dX0_isOpenToSea_42 : decode cX0_isOpenToSea 42 = .ok (.iconst 0, 1) := by decide +kernel
theorem dX0_isOpenToSea_43 : decode cX0_isOpenToSea 43 = .ok (.ireturn, 1) := by decide +kernel
set_option maxRecDepth 20000 in
theorem ggX0_washSandAway_X0_isWet : GoodIn wsX0_washSandAway wsX0_isWet := goodIn_r _ [15, 16, 25, 26, 27, 28, 29, 30, 31, 32, 33] (by decide +kernel) (by decide +kernel)
set_option maxRecDepth 20000 in
theorem gX0_washSandAway_X0_isWet : GoodIn wsX0_washSandAway (wsV RX0 65 RX0 yX0_isWet wsX0_isWet) := goodIn_app (goodIn_of _ (by decide +kernel)) ggX0_washSandAway_X0_isWet
set_option maxRecDepth 20000 in
theorem ggX0_washSandAway_X0_height : GoodIn wsX0_washSandAway wsX0_height := goodIn_r _ [20, 6, 25, 26, 27, 28, 29, 30, 31, 32, 33] (by decide +kernel) (by decide +kernel)
set_option maxRecDepth 20000 in
theorem gX0_washSandAway_X0_height : GoodIn wsX0_washSandAway (wsV RX0 69 RX0 yX0_height wsX0_height) := goodIn_app (goodIn_of _ (by decide +kernel)) ggX0_washSandAway_X0_height
set_option maxRecDepth 20000 in
theorem ggX0_washSandAway_X0_soften : GoodIn wsX0_washSandAway wsX0_soften := goodIn_r _ [24, 1, 25, 26, 27, 28, 29, 30, 31, 32, 33] (by decide +kernel) (by decide +kernel)
set_option maxRecDepth 20000 in
theorem gX0_washSandAway_X0_soften : GoodIn wsX0_washSandAway (wsV RX0 61 RX0 yX0_soften wsX0_soften) := goodIn_app (goodIn_of _ (by decide +kernel)) ggX0_washSandAway_X0_soften
theorem dX0_washSandAway_0 : decode cX0_washSandAway 0 = .ok (.iconst 0, 1) := by decide +kernel
theorem dX0_washSandAway_1 : decode cX0_washSandAway 1 = .ok (.istore_n 2, 1) := by decide +kernel
theorem dX0_washSandAway_2 : decode cX0_washSandAway 2 = .ok (.iload_n 2, 1) := by decide +kernel
theorem dX0_washSandAway_3 : decode cX0_washSandAway 3 = .ok (.bipush 120, 2) := by decide +kernel
theorem dX0_washSandAway_5 : decode cX0_washSandAway 5 = .ok (.if_icmp .ge 78, 3) := by decide +kernel
theorem dX0_washSandAway_8 : decode cX0_washSandAway 8 = .ok (.aload_n 0, 1) := by decide +kernel
theorem dX0_washSandAway_9 : decode cX0_washSandAway 9 = .ok (.iload_n 2, 1) := by decide +kernel
theorem dX0_washSandAway_10 : decode cX0_washSandAway 10 = .ok (.invokevirtual 65, 3) := by decide +kernel
theorem dX0_washSandAway_13 : decode cX0_washSandAway 13 = .ok (.ifCond .eq 64, 3) := by decide +kernel
theorem dX0_washSandAway_16 : decode cX0_washSandAway 16 = .ok (.iconst 1, 1) := by decide +kernel
theorem dX0_washSandAway_17 : decode cX0_washSandAway 17 = .ok (.iload_n 1, 1) := by decide +kernel
theorem dX0_washSandAway_18 : decode cX0_washSandAway 18 = .ok (.aload_n 0, 1) := by decide +kernel
theorem dX0_washSandAway_19 : decode cX0_washSandAway 19 = .ok (.iload_n 2, 1) := by decide +kernel
theorem dX0_washSandAway_20 : decode cX0_washSandAway 20 = .ok (.invokevirtual 69, 3) := by decide +kernel
theorem dX0_washSandAway_23 : decode cX0_washSandAway 23 = .ok (.isub, 1) := by decide +kernel
theorem dX0_washSandAway_24 : decode cX0_washSandAway 24 = .ok (.iconst 3, 1) := by decide +kernel
theorem dX0_washSandAway_25 : decode cX0_washSandAway 25 = .ok (.idiv, 1) := by decide +kernel
theorem dX0_washSandAway_26 : decode cX0_washSandAway 26 = .ok (.iadd, 1) := by decide +kernel
theorem dX0_washSandAway_27 : decode cX0_washSandAway 27 = .ok (.aload_n 0, 1) := by decide +kernel
theorem dX0_washSandAway_28 : decode cX0_washSandAway 28 = .ok (.getfield 15, 3) := by decide +kernel
theorem dX0_washSandAway_31 : decode cX0_washSandAway 31 = .ok (.iload_n 2, 1) := by decide +kernel
theorem dX0_washSandAway_32 : decode cX0_washSandAway 32 = .ok (.iaload, 1) := by decide +kernel
theorem dX0_washSandAway_33 : decode cX0_washSandAway 33 = .ok (.iconst 2, 1) := by decide +kernel
theorem dX0_washSandAway_34 : decode cX0_washSandAway 34 = .ok (.idiv, 1) := by decide +kernel
theorem dX0_washSandAway_35 : decode cX0_washSandAway 35 = .ok (.isub, 1) := by decide +kernel
theorem dX0_washSandAway_36 : decode cX0_washSandAway 36 = .ok (.istore_n 3, 1) := by decide +kernel
theorem dX0_washSandAway_37 : decode cX0_washSandAway 37 = .ok (.iload_n 3, 1) := by decide +kernel
theorem dX0_washSandAway_38 : decode cX0_washSandAway 38 = .ok (.iconst 0, 1) := by decide +kernel
theorem dX0_washSandAway_39 : decode cX0_washSandAway 39 = .ok (.invokestatic 95, 3) := by decide +kernel
theorem dX0_washSandAway_42 : decode cX0_washSandAway 42 = .ok (.aload_n 0, 1) := by decide +kernel
theorem dX0_washSandAway_43 : decode cX0_washSandAway 43 = .ok (.getfield 9, 3) := by decide +kernel
theorem dX0_washSandAway_46 : decode cX0_washSandAway 46 = .ok (.iload_n 2, 1) := by decide +kernel
theorem dX0_washSandAway_47 : decode cX0_washSandAway 47 = .ok (.iaload, 1) := by decide +kernel
theorem dX0_washSandAway_48 : decode cX0_washSandAway 48 = .ok (.invokestatic 55, 3) := by decide +kernel
theorem dX0_washSandAway_51 : decode cX0_washSandAway 51 = .ok (.istore_n 3, 1) := by decide +kernel
theorem dX0_washSandAway_52 : decode cX0_washSandAway 52 = .ok (.aload_n 0, 1) := by decide +kernel
theorem dX0_washSandAway_53 : decode cX0_washSandAway 53 = .ok (.getfield 9, 3) := by decide +kernel
theorem dX0_washSandAway_56 : decode cX0_washSandAway 56 = .ok (.iload_n 2, 1) := by decide +kernel
theorem dX0_washSandAway_57 : decode cX0_washSandAway 57 = .ok (.dup2, 1) := by decide +kernel
theorem dX0_washSandAway_58 : decode cX0_washSandAway 58 = .ok (.iaload, 1) := by decide +kernel
theorem dX0_washSandAway_59 : decode cX0_washSandAway 59 = .ok (.iload_n 3, 1) := by decide +kernel
theorem dX0_washSandAway_60 : decode cX0_washSandAway 60 = .ok (.isub, 1) := by decide +kernel
theorem dX0_washSandAway_61 : decode cX0_washSandAway 61 = .ok (.iastore, 1) := by decide +kernel
theorem dX0_washSandAway_62 : decode cX0_washSandAway 62 = .ok (.aload_n 0, 1) := by decide +kernel
theorem dX0_washSandAway_63 : decode cX0_washSandAway 63 = .ok (.dup, 1) := by decide +kernel
theorem dX0_washSandAway_64 : decode cX0_washSandAway 64 = .ok (.getfield 39, 3) := by decide +kernel
theorem dX0_washSandAway_67 : decode cX0_washSandAway 67 = .ok (.iload_n 3, 1) := by decide +kernel
theorem dX0_washSandAway_68 : decode cX0_washSandAway 68 = .ok (.iadd, 1) := by decide +kernel
theorem dX0_washSandAway_69 : decode cX0_washSandAway 69 = .ok (.putfield 39, 3) := by decide +kernel
theorem dX0_washSandAway_72 : decode cX0_washSandAway 72 = .ok (.aload_n 0, 1) := by decide +kernel
theorem dX0_washSandAway_73 : decode cX0_washSandAway 73 = .ok (.iload_n 2, 1) := by decide +kernel
theorem dX0_washSandAway_74 : decode cX0_washSandAway 74 = .ok (.invokevirtual 61, 3) := by decide +kernel
theorem dX0_washSandAway_77 : decode cX0_washSandAway 77 = .ok (.iinc 2 1, 3) := by decide +kernel
theorem dX0_washSandAway_80 : decode cX0_washSandAway 80 = .ok (.goto (-78), 3) := by decide +kernel
theorem dX0_washSandAway_83 : decode cX0_washSandAway 83 = .ok (.return_, 1) := by decide +kernel
set_option maxRecDepth 20000 in
theorem ggX0_letSandSlide_X0_slideOnce : GoodIn wsX0_letSandSlide wsX0_slideOnce := goodIn_r _ [5, 6, 7, 8, 9, 4, 10, 11, 12, 13, 14, 15, 16, 17, 18, 19, 20, 21, 22, 23, 24, 25, 26, 27, 28, 29, 30, 31] (by decide +kernel) (by decide +kernel)
set_option maxRecDepth 20000 in
theorem gX0_letSandSlide_X0_slideOnce : GoodIn wsX0_letSandSlide (wsV RX0 98 RX0 yX0_slideOnce wsX0_slideOnce) := goodIn_app (goodIn_of _ (by decide +kernel)) ggX0_letSandSlide_X0_slideOnce
theorem dX0_letSandSlide_0 : decode cX0_letSandSlide 0 = .ok (.iconst 0, 1) := by decide +kernel
theorem dX0_letSandSlide_1 : decode cX0_letSandSlide 1 = .ok (.istore_n 1, 1) := by decide +kernel
theorem dX0_letSandSlide_2 : decode cX0_letSandSlide 2 = .ok (.iconst 1, 1) := by decide +kernel
theorem dX0_letSandSlide_3 : decode cX0_letSandSlide 3 = .ok (.istore_n 2, 1) := by decide +kernel
theorem dX0_letSandSlide_4 : decode cX0_letSandSlide 4 = .ok (.iconst 0, 1) := by decide +kernel
theorem dX0_letSandSlide_5 : decode cX0_letSandSlide 5 = .ok (.istore_n 3, 1) := by decide +kernel
theorem dX0_letSandSlide_6 : decode cX0_letSandSlide 6 = .ok (.iload_n 2, 1) := by decide +kernel
theorem dX0_letSandSlide_7 : decode cX0_letSandSlide 7 = .ok (.ifCond .le 24, 3) := by decide +kernel
theorem dX0_letSandSlide_10 : decode cX0_letSandSlide 10 = .ok (.iload_n 3, 1) := by decide +kernel
theorem dX0_letSandSlide_11 : decode cX0_letSandSlide 11 = .ok (.bipush 40, 2) := by decide +kernel
theorem dX0_letSandSlide_13 : decode cX0_letSandSlide 13 = .ok (.if_icmp .ge 18, 3) := by decide +kernel
theorem dX0_letSandSlide_16 : decode cX0_letSandSlide 16 = .ok (.aload_n 0, 1) := by decide +kernel
theorem dX0_letSandSlide_17 : decode cX0_letSandSlide 17 = .ok (.invokevirtual 98, 3) := by decide +kernel
theorem dX0_letSandSlide_20 : decode cX0_letSandSlide 20 = .ok (.istore_n 2, 1) := by decide +kernel
theorem dX0_letSandSlide_21 : decode cX0_letSandSlide 21 = .ok (.iload_n 1, 1) := by decide +kernel
theorem dX0_letSandSlide_22 : decode cX0_letSandSlide 22 = .ok (.iload_n 2, 1) := by decide +kernel
theorem dX0_letSandSlide_23 : decode cX0_letSandSlide 23 = .ok (.iadd, 1) := by decide +kernel
theorem dX0_letSandSlide_24 : decode cX0_letSandSlide 24 = .ok (.istore_n 1, 1) := by decide +kernel
theorem dX0_letSandSlide_25 : decode cX0_letSandSlide 25 = .ok (.iinc 3 1, 3) := by decide +kernel
theorem dX0_letSandSlide_28 : decode cX0_letSandSlide 28 = .ok (.goto (-22), 3) := by decide +kernel
theorem dX0_letSandSlide_31 : decode cX0_letSandSlide 31 = .ok (.iload_n 1, 1) := by decide +kernel
theorem dX0_letSandSlide_32 : decode cX0_letSandSlide 32 = .ok (.ireturn, 1) := by decide +kernel
set_option maxRecDepth 20000 in
theorem ggX0_slideOnce_X0_lowestBeside : GoodIn wsX0_slideOnce wsX0_lowestBeside := goodIn_r _ [6, 7, 8, 5, 9, 10, 11, 12, 13, 1, 19, 20, 21, 22, 23, 24, 25, 26, 27] (by decide +kernel) (by decide +kernel)
set_option maxRecDepth 20000 in
theorem gX0_slideOnce_X0_lowestBeside : GoodIn wsX0_slideOnce (wsV RX0 101 RX0 yX0_lowestBeside wsX0_lowestBeside) := goodIn_app (goodIn_of _ (by decide +kernel)) ggX0_slideOnce_X0_lowestBeside
set_option maxRecDepth 20000 in
theorem ggX0_slideOnce_X0_slidesTo : GoodIn wsX0_slideOnce wsX0_slidesTo := goodIn_r _ [17, 1, 18, 10, 11, 12, 5, 13, 19, 20, 21, 22, 23, 24, 25, 26, 27] (by decide +kernel) (by decide +kernel)
set_option maxRecDepth 20000 in
theorem gX0_slideOnce_X0_slidesTo : GoodIn wsX0_slideOnce (wsV RX0 104 RX0 yX0_slidesTo wsX0_slidesTo) := goodIn_app (goodIn_of _ (by decide +kernel)) ggX0_slideOnce_X0_slidesTo
theorem dX0_slideOnce_0 : decode cX0_slideOnce 0 = .ok (.iconst 0, 1) := by decide +kernel
theorem dX0_slideOnce_1 : decode cX0_slideOnce 1 = .ok (.istore_n 1, 1) := by decide +kernel
theorem dX0_slideOnce_2 : decode cX0_slideOnce 2 = .ok (.iconst 0, 1) := by decide +kernel
theorem dX0_slideOnce_3 : decode cX0_slideOnce 3 = .ok (.istore_n 2, 1) := by decide +kernel
theorem dX0_slideOnce_4 : decode cX0_slideOnce 4 = .ok (.iload_n 2, 1) := by decide +kernel
theorem dX0_slideOnce_5 : decode cX0_slideOnce 5 = .ok (.bipush 120, 2) := by decide +kernel
theorem dX0_slideOnce_7 : decode cX0_slideOnce 7 = .ok (.if_icmp .ge 52, 3) := by decide +kernel
theorem dX0_slideOnce_10 : decode cX0_slideOnce 10 = .ok (.aload_n 0, 1) := by decide +kernel
theorem dX0_slideOnce_11 : decode cX0_slideOnce 11 = .ok (.iload_n 2, 1) := by decide +kernel
theorem dX0_slideOnce_12 : decode cX0_slideOnce 12 = .ok (.invokevirtual 101, 3) := by decide +kernel
theorem dX0_slideOnce_15 : decode cX0_slideOnce 15 = .ok (.istore_n 3, 1) := by decide +kernel
theorem dX0_slideOnce_16 : decode cX0_slideOnce 16 = .ok (.iload_n 3, 1) := by decide +kernel
theorem dX0_slideOnce_17 : decode cX0_slideOnce 17 = .ok (.iconst (-1), 1) := by decide +kernel
theorem dX0_slideOnce_18 : decode cX0_slideOnce 18 = .ok (.if_icmp .eq 35, 3) := by decide +kernel
theorem dX0_slideOnce_21 : decode cX0_slideOnce 21 = .ok (.aload_n 0, 1) := by decide +kernel
theorem dX0_slideOnce_22 : decode cX0_slideOnce 22 = .ok (.iload_n 2, 1) := by decide +kernel
theorem dX0_slideOnce_23 : decode cX0_slideOnce 23 = .ok (.iload_n 3, 1) := by decide +kernel
theorem dX0_slideOnce_24 : decode cX0_slideOnce 24 = .ok (.invokevirtual 104, 3) := by decide +kernel
theorem dX0_slideOnce_27 : decode cX0_slideOnce 27 = .ok (.ifCond .eq 26, 3) := by decide +kernel
theorem dX0_slideOnce_30 : decode cX0_slideOnce 30 = .ok (.aload_n 0, 1) := by decide +kernel
theorem dX0_slideOnce_31 : decode cX0_slideOnce 31 = .ok (.getfield 9, 3) := by decide +kernel
theorem dX0_slideOnce_34 : decode cX0_slideOnce 34 = .ok (.iload_n 2, 1) := by decide +kernel
theorem dX0_slideOnce_35 : decode cX0_slideOnce 35 = .ok (.dup2, 1) := by decide +kernel
theorem dX0_slideOnce_36 : decode cX0_slideOnce 36 = .ok (.iaload, 1) := by decide +kernel
theorem dX0_slideOnce_37 : decode cX0_slideOnce 37 = .ok (.iconst 1, 1) := by decide +kernel
theorem dX0_slideOnce_38 : decode cX0_slideOnce 38 = .ok (.isub, 1) := by decide +kernel
theorem dX0_slideOnce_39 : decode cX0_slideOnce 39 = .ok (.iastore, 1) := by decide +kernel
theorem dX0_slideOnce_40 : decode cX0_slideOnce 40 = .ok (.aload_n 0, 1) := by decide +kernel
theorem dX0_slideOnce_41 : decode cX0_slideOnce 41 = .ok (.getfield 9, 3) := by decide +kernel
theorem dX0_slideOnce_44 : decode cX0_slideOnce 44 = .ok (.iload_n 3, 1) := by decide +kernel
theorem dX0_slideOnce_45 : decode cX0_slideOnce 45 = .ok (.dup2, 1) := by decide +kernel
theorem dX0_slideOnce_46 : decode cX0_slideOnce 46 = .ok (.iaload, 1) := by decide +kernel
theorem dX0_slideOnce_47 : decode cX0_slideOnce 47 = .ok (.iconst 1, 1) := by decide +kernel
theorem dX0_slideOnce_48 : decode cX0_slideOnce 48 = .ok (.iadd, 1) := by decide +kernel
theorem dX0_slideOnce_49 : decode cX0_slideOnce 49 = .ok (.iastore, 1) := by decide +kernel
theorem dX0_slideOnce_50 : decode cX0_slideOnce 50 = .ok (.iinc 1 1, 3) := by decide +kernel
theorem dX0_slideOnce_53 : decode cX0_slideOnce 53 = .ok (.iinc 2 1, 3) := by decide +kernel
theorem dX0_slideOnce_56 : decode cX0_slideOnce 56 = .ok (.goto (-52), 3) := by decide +kernel
theorem dX0_slideOnce_59 : decode cX0_slideOnce 59 = .ok (.iload_n 1, 1) := by decide +kernel
theorem dX0_slideOnce_60 : decode cX0_slideOnce 60 = .ok (.ireturn, 1) := by decide +kernel
set_option maxRecDepth 20000 in
theorem ggX0_slidesTo_X0_height : GoodIn wsX0_slidesTo wsX0_height := goodIn_r _ [7, 1, 8, 9, 10, 11, 12, 13, 14, 15, 16] (by decide +kernel) (by decide +kernel)
set_option maxRecDepth 20000 in
theorem gX0_slidesTo_X0_height : GoodIn wsX0_slidesTo (wsV RX0 69 RX0 yX0_height wsX0_height) := goodIn_app (goodIn_of _ (by decide +kernel)) ggX0_slidesTo_X0_height
theorem dX0_slidesTo_0 : decode cX0_slidesTo 0 = .ok (.aload_n 0, 1) := by decide +kernel
theorem dX0_slidesTo_1 : decode cX0_slidesTo 1 = .ok (.getfield 9, 3) := by decide +kernel
theorem dX0_slidesTo_4 : decode cX0_slidesTo 4 = .ok (.iload_n 1, 1) := by decide +kernel
theorem dX0_slidesTo_5 : decode cX0_slidesTo 5 = .ok (.iaload, 1) := by decide +kernel
theorem dX0_slidesTo_6 : decode cX0_slidesTo 6 = .ok (.ifCond .le 40, 3) := by decide +kernel
theorem dX0_slidesTo_9 : decode cX0_slidesTo 9 = .ok (.aload_n 0, 1) := by decide +kernel
theorem dX0_slidesTo_10 : decode cX0_slidesTo 10 = .ok (.iload_n 1, 1) := by decide +kernel
theorem dX0_slidesTo_11 : decode cX0_slidesTo 11 = .ok (.invokevirtual 69, 3) := by decide +kernel
theorem dX0_slidesTo_14 : decode cX0_slidesTo 14 = .ok (.aload_n 0, 1) := by decide +kernel
theorem dX0_slidesTo_15 : decode cX0_slidesTo 15 = .ok (.iload_n 2, 1) := by decide +kernel
theorem dX0_slidesTo_16 : decode cX0_slidesTo 16 = .ok (.invokevirtual 69, 3) := by decide +kernel
theorem dX0_slidesTo_19 : decode cX0_slidesTo 19 = .ok (.iconst 4, 1) := by decide +kernel
theorem dX0_slidesTo_20 : decode cX0_slidesTo 20 = .ok (.iadd, 1) := by decide +kernel
theorem dX0_slidesTo_21 : decode cX0_slidesTo 21 = .ok (.aload_n 0, 1) := by decide +kernel
theorem dX0_slidesTo_22 : decode cX0_slidesTo 22 = .ok (.getfield 15, 3) := by decide +kernel
theorem dX0_slidesTo_25 : decode cX0_slidesTo 25 = .ok (.iload_n 1, 1) := by decide +kernel
theorem dX0_slidesTo_26 : decode cX0_slidesTo 26 = .ok (.iaload, 1) := by decide +kernel
theorem dX0_slidesTo_27 : decode cX0_slidesTo 27 = .ok (.iadd, 1) := by decide +kernel
theorem dX0_slidesTo_28 : decode cX0_slidesTo 28 = .ok (.if_icmp .le 18, 3) := by decide +kernel
theorem dX0_slidesTo_31 : decode cX0_slidesTo 31 = .ok (.aload_n 0, 1) := by decide +kernel
theorem dX0_slidesTo_32 : decode cX0_slidesTo 32 = .ok (.getfield 9, 3) := by decide +kernel
theorem dX0_slidesTo_35 : decode cX0_slidesTo 35 = .ok (.iload_n 2, 1) := by decide +kernel
theorem dX0_slidesTo_36 : decode cX0_slidesTo 36 = .ok (.iaload, 1) := by decide +kernel
theorem dX0_slidesTo_37 : decode cX0_slidesTo 37 = .ok (.bipush 20, 2) := by decide +kernel
theorem dX0_slidesTo_39 : decode cX0_slidesTo 39 = .ok (.if_icmp .ge 7, 3) := by decide +kernel
theorem dX0_slidesTo_42 : decode cX0_slidesTo 42 = .ok (.iconst 1, 1) := by decide +kernel
theorem dX0_slidesTo_43 : decode cX0_slidesTo 43 = .ok (.goto 4, 3) := by decide +kernel
theorem dX0_slidesTo_46 : decode cX0_slidesTo 46 = .ok (.iconst 0, 1) := by decide +kernel
theorem dX0_slidesTo_47 : decode cX0_slidesTo 47 = .ok (.ireturn, 1) := by decide +kernel
set_option maxRecDepth 20000 in
theorem ggX0_lowestBeside_X0_beside : GoodIn wsX0_lowestBeside wsX0_beside := goodIn_r _ [4] (by decide +kernel) (by decide +kernel)
set_option maxRecDepth 20000 in
theorem gX0_lowestBeside_X0_beside : GoodIn wsX0_lowestBeside (va_wsS RX0 92 yX0_beside wsX0_beside) := goodIn_app (goodIn_of _ (by decide +kernel)) ggX0_lowestBeside_X0_beside
set_option maxRecDepth 20000 in
theorem ggX0_lowestBeside_X0_height : GoodIn wsX0_lowestBeside wsX0_height := goodIn_r _ [8, 9, 10, 11, 12, 13, 14, 15, 16, 17, 18] (by decide +kernel) (by decide +kernel)
set_option maxRecDepth 20000 in
theorem gX0_lowestBeside_X0_height : GoodIn wsX0_lowestBeside (wsV RX0 69 RX0 yX0_height wsX0_height) := goodIn_app (goodIn_of _ (by decide +kernel)) ggX0_lowestBeside_X0_height
theorem dX0_lowestBeside_0 : decode cX0_lowestBeside 0 = .ok (.iconst (-1), 1) := by decide +kernel
theorem dX0_lowestBeside_1 : decode cX0_lowestBeside 1 = .ok (.istore_n 2, 1) := by decide +kernel
theorem dX0_lowestBeside_2 : decode cX0_lowestBeside 2 = .ok (.iconst 0, 1) := by decide +kernel
theorem dX0_lowestBeside_3 : decode cX0_lowestBeside 3 = .ok (.istore_n 3, 1) := by decide +kernel
theorem dX0_lowestBeside_4 : decode cX0_lowestBeside 4 = .ok (.iload_n 3, 1) := by decide +kernel
theorem dX0_lowestBeside_5 : decode cX0_lowestBeside 5 = .ok (.iconst 4, 1) := by decide +kernel
theorem dX0_lowestBeside_6 : decode cX0_lowestBeside 6 = .ok (.if_icmp .ge 44, 3) := by decide +kernel
theorem dX0_lowestBeside_9 : decode cX0_lowestBeside 9 = .ok (.iload_n 1, 1) := by decide +kernel
theorem dX0_lowestBeside_10 : decode cX0_lowestBeside 10 = .ok (.iload_n 3, 1) := by decide +kernel
theorem dX0_lowestBeside_11 : decode cX0_lowestBeside 11 = .ok (.invokestatic 92, 3) := by decide +kernel
theorem dX0_lowestBeside_14 : decode cX0_lowestBeside 14 = .ok (.istore 4, 2) := by decide +kernel
theorem dX0_lowestBeside_16 : decode cX0_lowestBeside 16 = .ok (.iload 4, 2) := by decide +kernel
theorem dX0_lowestBeside_18 : decode cX0_lowestBeside 18 = .ok (.iconst (-1), 1) := by decide +kernel
theorem dX0_lowestBeside_19 : decode cX0_lowestBeside 19 = .ok (.if_icmp .eq 25, 3) := by decide +kernel
theorem dX0_lowestBeside_22 : decode cX0_lowestBeside 22 = .ok (.iload_n 2, 1) := by decide +kernel
theorem dX0_lowestBeside_23 : decode cX0_lowestBeside 23 = .ok (.iconst (-1), 1) := by decide +kernel
theorem dX0_lowestBeside_24 : decode cX0_lowestBeside 24 = .ok (.if_icmp .eq 17, 3) := by decide +kernel
theorem dX0_lowestBeside_27 : decode cX0_lowestBeside 27 = .ok (.aload_n 0, 1) := by decide +kernel
theorem dX0_lowestBeside_28 : decode cX0_lowestBeside 28 = .ok (.iload 4, 2) := by decide +kernel
theorem dX0_lowestBeside_30 : decode cX0_lowestBeside 30 = .ok (.invokevirtual 69, 3) := by decide +kernel
theorem dX0_lowestBeside_33 : decode cX0_lowestBeside 33 = .ok (.aload_n 0, 1) := by decide +kernel
theorem dX0_lowestBeside_34 : decode cX0_lowestBeside 34 = .ok (.iload_n 2, 1) := by decide +kernel
theorem dX0_lowestBeside_35 : decode cX0_lowestBeside 35 = .ok (.invokevirtual 69, 3) := by decide +kernel
theorem dX0_lowestBeside_38 : decode cX0_lowestBeside 38 = .ok (.if_icmp .ge 6, 3) := by decide +kernel
theorem dX0_lowestBeside_41 : decode cX0_lowestBeside 41 = .ok (.iload 4, 2) := by decide +kernel
theorem dX0_lowestBeside_43 : decode cX0_lowestBeside 43 = .ok (.istore_n 2, 1) := by decide +kernel
theorem dX0_lowestBeside_44 : decode cX0_lowestBeside 44 = .ok (.iinc 3 1, 3) := by decide +kernel
theorem dX0_lowestBeside_47 : decode cX0_lowestBeside 47 = .ok (.goto (-43), 3) := by decide +kernel
theorem dX0_lowestBeside_50 : decode cX0_lowestBeside 50 = .ok (.iload_n 2, 1) := by decide +kernel
theorem dX0_lowestBeside_51 : decode cX0_lowestBeside 51 = .ok (.ireturn, 1) := by decide +kernel
theorem dX0_beside_0 : decode cX0_beside 0 = .ok (.iload_n 0, 1) := by decide +kernel
theorem dX0_beside_1 : decode cX0_beside 1 = .ok (.bipush 12, 2) := by decide +kernel
theorem dX0_beside_3 : decode cX0_beside 3 = .ok (.irem, 1) := by decide +kernel
theorem dX0_beside_4 : decode cX0_beside 4 = .ok (.istore_n 2, 1) := by decide +kernel
theorem dX0_beside_5 : decode cX0_beside 5 = .ok (.iload_n 1, 1) := by decide +kernel
theorem dX0_beside_6 : decode cX0_beside 6 = .ok (.tableswitch 67 0 2 #[26, 41, 53], 26) := by decide +kernel
theorem dX0_beside_32 : decode cX0_beside 32 = .ok (.iload_n 0, 1) := by decide +kernel
theorem dX0_beside_33 : decode cX0_beside 33 = .ok (.bipush 12, 2) := by decide +kernel
theorem dX0_beside_35 : decode cX0_beside 35 = .ok (.if_icmp .lt 10, 3) := by decide +kernel
theorem dX0_beside_38 : decode cX0_beside 38 = .ok (.iload_n 0, 1) := by decide +kernel
theorem dX0_beside_39 : decode cX0_beside 39 = .ok (.bipush 12, 2) := by decide +kernel
theorem dX0_beside_41 : decode cX0_beside 41 = .ok (.isub, 1) := by decide +kernel
theorem dX0_beside_42 : decode cX0_beside 42 = .ok (.goto 4, 3) := by decide +kernel
theorem dX0_beside_45 : decode cX0_beside 45 = .ok (.iconst (-1), 1) := by decide +kernel
theorem dX0_beside_46 : decode cX0_beside 46 = .ok (.ireturn, 1) := by decide +kernel
theorem dX0_beside_47 : decode cX0_beside 47 = .ok (.iload_n 2, 1) := by decide +kernel
theorem dX0_beside_48 : decode cX0_beside 48 = .ok (.ifCond .le 9, 3) := by decide +kernel
theorem dX0_beside_51 : decode cX0_beside 51 = .ok (.iload_n 0, 1) := by decide +kernel
theorem dX0_beside_52 : decode cX0_beside 52 = .ok (.iconst 1, 1) := by decide +kernel
theorem dX0_beside_53 : decode cX0_beside 53 = .ok (.isub, 1) := by decide +kernel
theorem dX0_beside_54 : decode cX0_beside 54 = .ok (.goto 4, 3) := by decide +kernel
theorem dX0_beside_57 : decode cX0_beside 57 = .ok (.iconst (-1), 1) := by decide +kernel
theorem dX0_beside_58 : decode cX0_beside 58 = .ok (.ireturn, 1) := by decide +kernel
theorem dX0_beside_59 : decode cX0_beside 59 = .ok (.iload_n 2, 1) := by decide +kernel
theorem dX0_beside_60 : decode cX0_beside 60 = .ok (.bipush 11, 2) := by decide +kernel
theorem dX0_beside_62 : decode cX0_beside 62 = .ok (.if_icmp .ge 9, 3) := by decide +kernel
theorem dX0_beside_65 : decode cX0_beside 65 = .ok (.iload_n 0, 1) := by decide +kernel
theorem dX0_beside_66 : decode cX0_beside 66 = .ok (.iconst 1, 1) := by decide +kernel
theorem dX0_beside_67 : decode cX0_beside 67 = .ok (.iadd, 1) := by decide +kernel
theorem dX0_beside_68 : decode cX0_beside 68 = .ok (.goto 4, 3) := by decide +kernel
theorem dX0_beside_71 : decode cX0_beside 71 = .ok (.iconst (-1), 1) := by decide +kernel
theorem dX0_beside_72 : decode cX0_beside 72 = .ok (.ireturn, 1) := by decide +kernel
theorem dX0_beside_73 : decode cX0_beside 73 = .ok (.iload_n 0, 1) := by decide +kernel
theorem dX0_beside_74 : decode cX0_beside 74 = .ok (.bipush 108, 2) := by decide +kernel
theorem dX0_beside_76 : decode cX0_beside 76 = .ok (.if_icmp .ge 10, 3) := by decide +kernel
theorem dX0_beside_79 : decode cX0_beside 79 = .ok (.iload_n 0, 1) := by decide +kernel
theorem dX0_beside_80 : decode cX0_beside 80 = .ok (.bipush 12, 2) := by decide +kernel
theorem dX0_beside_82 : decode cX0_beside 82 = .ok (.iadd, 1) := by decide +kernel
theorem dX0_beside_83 : decode cX0_beside 83 = .ok (.goto 4, 3) := by decide +kernel
theorem dX0_beside_86 : decode cX0_beside 86 = .ok (.iconst (-1), 1) := by decide +kernel
theorem dX0_beside_87 : decode cX0_beside 87 = .ok (.ireturn, 1) := by decide +kernel
set_option maxRecDepth 20000 in
theorem ggX0_judgeSticks_X0_isWet : GoodIn wsX0_judgeSticks wsX0_isWet := goodIn_r _ [10, 11, 16, 17, 18, 19, 20, 21, 22, 23, 24] (by decide +kernel) (by decide +kernel)
set_option maxRecDepth 20000 in
theorem gX0_judgeSticks_X0_isWet : GoodIn wsX0_judgeSticks (wsV RX0 65 RX0 yX0_isWet wsX0_isWet) := goodIn_app (goodIn_of _ (by decide +kernel)) ggX0_judgeSticks_X0_isWet
set_option maxRecDepth 20000 in
theorem ggX0_judgeSticks_X0_height : GoodIn wsX0_judgeSticks wsX0_height := goodIn_r _ [15, 5, 16, 17, 18, 19, 20, 21, 22, 23, 24] (by decide +kernel) (by decide +kernel)
set_option maxRecDepth 20000 in
theorem gX0_judgeSticks_X0_height : GoodIn wsX0_judgeSticks (wsV RX0 69 RX0 yX0_height wsX0_height) := goodIn_app (goodIn_of _ (by decide +kernel)) ggX0_judgeSticks_X0_height
theorem dX0_judgeSticks_0 : decode cX0_judgeSticks 0 = .ok (.iconst 0, 1) := by decide +kernel
theorem dX0_judgeSticks_1 : decode cX0_judgeSticks 1 = .ok (.istore_n 1, 1) := by decide +kernel
theorem dX0_judgeSticks_2 : decode cX0_judgeSticks 2 = .ok (.iload_n 1, 1) := by decide +kernel
theorem dX0_judgeSticks_3 : decode cX0_judgeSticks 3 = .ok (.bipush 120, 2) := by decide +kernel
theorem dX0_judgeSticks_5 : decode cX0_judgeSticks 5 = .ok (.if_icmp .ge 96, 3) := by decide +kernel
theorem dX0_judgeSticks_8 : decode cX0_judgeSticks 8 = .ok (.aload_n 0, 1) := by decide +kernel
theorem dX0_judgeSticks_9 : decode cX0_judgeSticks 9 = .ok (.getfield 21, 3) := by decide +kernel
theorem dX0_judgeSticks_12 : decode cX0_judgeSticks 12 = .ok (.iload_n 1, 1) := by decide +kernel
theorem dX0_judgeSticks_13 : decode cX0_judgeSticks 13 = .ok (.iaload, 1) := by decide +kernel
theorem dX0_judgeSticks_14 : decode cX0_judgeSticks 14 = .ok (.istore_n 2, 1) := by decide +kernel
theorem dX0_judgeSticks_15 : decode cX0_judgeSticks 15 = .ok (.iload_n 2, 1) := by decide +kernel
theorem dX0_judgeSticks_16 : decode cX0_judgeSticks 16 = .ok (.ifCond .lt 79, 3) := by decide +kernel
theorem dX0_judgeSticks_19 : decode cX0_judgeSticks 19 = .ok (.iload_n 2, 1) := by decide +kernel
theorem dX0_judgeSticks_20 : decode cX0_judgeSticks 20 = .ok (.bipush 120, 2) := by decide +kernel
theorem dX0_judgeSticks_22 : decode cX0_judgeSticks 22 = .ok (.if_icmp .ge 73, 3) := by decide +kernel
theorem dX0_judgeSticks_25 : decode cX0_judgeSticks 25 = .ok (.aload_n 0, 1) := by decide +kernel
theorem dX0_judgeSticks_26 : decode cX0_judgeSticks 26 = .ok (.iload_n 1, 1) := by decide +kernel
theorem dX0_judgeSticks_27 : decode cX0_judgeSticks 27 = .ok (.invokevirtual 65, 3) := by decide +kernel
theorem dX0_judgeSticks_30 : decode cX0_judgeSticks 30 = .ok (.ifCond .ne 19, 3) := by decide +kernel
theorem dX0_judgeSticks_33 : decode cX0_judgeSticks 33 = .ok (.aload_n 0, 1) := by decide +kernel
theorem dX0_judgeSticks_34 : decode cX0_judgeSticks 34 = .ok (.iload_n 1, 1) := by decide +kernel
theorem dX0_judgeSticks_35 : decode cX0_judgeSticks 35 = .ok (.invokevirtual 69, 3) := by decide +kernel
theorem dX0_judgeSticks_38 : decode cX0_judgeSticks 38 = .ok (.aload_n 0, 1) := by decide +kernel
theorem dX0_judgeSticks_39 : decode cX0_judgeSticks 39 = .ok (.getfield 24, 3) := by decide +kernel
theorem dX0_judgeSticks_42 : decode cX0_judgeSticks 42 = .ok (.iload_n 1, 1) := by decide +kernel
theorem dX0_judgeSticks_43 : decode cX0_judgeSticks 43 = .ok (.iaload, 1) := by decide +kernel
theorem dX0_judgeSticks_44 : decode cX0_judgeSticks 44 = .ok (.iconst 1, 1) := by decide +kernel
theorem dX0_judgeSticks_45 : decode cX0_judgeSticks 45 = .ok (.isub, 1) := by decide +kernel
theorem dX0_judgeSticks_46 : decode cX0_judgeSticks 46 = .ok (.if_icmp .ge 30, 3) := by decide +kernel
theorem dX0_judgeSticks_49 : decode cX0_judgeSticks 49 = .ok (.aload_n 0, 1) := by decide +kernel
theorem dX0_judgeSticks_50 : decode cX0_judgeSticks 50 = .ok (.getfield 21, 3) := by decide +kernel
theorem dX0_judgeSticks_53 : decode cX0_judgeSticks 53 = .ok (.iload_n 1, 1) := by decide +kernel
theorem dX0_judgeSticks_54 : decode cX0_judgeSticks 54 = .ok (.iconst (-1), 1) := by decide +kernel
theorem dX0_judgeSticks_55 : decode cX0_judgeSticks 55 = .ok (.iastore, 1) := by decide +kernel
theorem dX0_judgeSticks_56 : decode cX0_judgeSticks 56 = .ok (.aload_n 0, 1) := by decide +kernel
theorem dX0_judgeSticks_57 : decode cX0_judgeSticks 57 = .ok (.getfield 24, 3) := by decide +kernel
theorem dX0_judgeSticks_60 : decode cX0_judgeSticks 60 = .ok (.iload_n 1, 1) := by decide +kernel
theorem dX0_judgeSticks_61 : decode cX0_judgeSticks 61 = .ok (.iconst 0, 1) := by decide +kernel
theorem dX0_judgeSticks_62 : decode cX0_judgeSticks 62 = .ok (.iastore, 1) := by decide +kernel
theorem dX0_judgeSticks_63 : decode cX0_judgeSticks 63 = .ok (.aload_n 0, 1) := by decide +kernel
theorem dX0_judgeSticks_64 : decode cX0_judgeSticks 64 = .ok (.dup, 1) := by decide +kernel
theorem dX0_judgeSticks_65 : decode cX0_judgeSticks 65 = .ok (.getfield 46, 3) := by decide +kernel
theorem dX0_judgeSticks_68 : decode cX0_judgeSticks 68 = .ok (.iconst 1, 1) := by decide +kernel
theorem dX0_judgeSticks_69 : decode cX0_judgeSticks 69 = .ok (.iadd, 1) := by decide +kernel
theorem dX0_judgeSticks_70 : decode cX0_judgeSticks 70 = .ok (.putfield 46, 3) := by decide +kernel
theorem dX0_judgeSticks_73 : decode cX0_judgeSticks 73 = .ok (.goto 22, 3) := by decide +kernel
theorem dX0_judgeSticks_76 : decode cX0_judgeSticks 76 = .ok (.aload_n 0, 1) := by decide +kernel
theorem dX0_judgeSticks_77 : decode cX0_judgeSticks 77 = .ok (.getfield 27, 3) := by decide +kernel
theorem dX0_judgeSticks_80 : decode cX0_judgeSticks 80 = .ok (.iload_n 2, 1) := by decide +kernel
theorem dX0_judgeSticks_81 : decode cX0_judgeSticks 81 = .ok (.dup2, 1) := by decide +kernel
theorem dX0_judgeSticks_82 : decode cX0_judgeSticks 82 = .ok (.iaload, 1) := by decide +kernel
theorem dX0_judgeSticks_83 : decode cX0_judgeSticks 83 = .ok (.iconst 1, 1) := by decide +kernel
theorem dX0_judgeSticks_84 : decode cX0_judgeSticks 84 = .ok (.aload_n 0, 1) := by decide +kernel
theorem dX0_judgeSticks_85 : decode cX0_judgeSticks 85 = .ok (.getfield 9, 3) := by decide +kernel
theorem dX0_judgeSticks_88 : decode cX0_judgeSticks 88 = .ok (.iload_n 1, 1) := by decide +kernel
theorem dX0_judgeSticks_89 : decode cX0_judgeSticks 89 = .ok (.iaload, 1) := by decide +kernel
theorem dX0_judgeSticks_90 : decode cX0_judgeSticks 90 = .ok (.iconst 5, 1) := by decide +kernel
theorem dX0_judgeSticks_91 : decode cX0_judgeSticks 91 = .ok (.idiv, 1) := by decide +kernel
theorem dX0_judgeSticks_92 : decode cX0_judgeSticks 92 = .ok (.iadd, 1) := by decide +kernel
theorem dX0_judgeSticks_93 : decode cX0_judgeSticks 93 = .ok (.iadd, 1) := by decide +kernel
theorem dX0_judgeSticks_94 : decode cX0_judgeSticks 94 = .ok (.iastore, 1) := by decide +kernel
theorem dX0_judgeSticks_95 : decode cX0_judgeSticks 95 = .ok (.iinc 1 1, 3) := by decide +kernel
theorem dX0_judgeSticks_98 : decode cX0_judgeSticks 98 = .ok (.goto (-96), 3) := by decide +kernel
theorem dX0_judgeSticks_101 : decode cX0_judgeSticks 101 = .ok (.return_, 1) := by decide +kernel
theorem dX0_soften_0 : decode cX0_soften 0 = .ok (.aload_n 0, 1) := by decide +kernel
theorem dX0_soften_1 : decode cX0_soften 1 = .ok (.getfield 15, 3) := by decide +kernel
theorem dX0_soften_4 : decode cX0_soften 4 = .ok (.iload_n 1, 1) := by decide +kernel
theorem dX0_soften_5 : decode cX0_soften 5 = .ok (.iaload, 1) := by decide +kernel
theorem dX0_soften_6 : decode cX0_soften 6 = .ok (.ifCond .le 13, 3) := by decide +kernel
theorem dX0_soften_9 : decode cX0_soften 9 = .ok (.aload_n 0, 1) := by decide +kernel
theorem dX0_soften_10 : decode cX0_soften 10 = .ok (.getfield 15, 3) := by decide +kernel
theorem dX0_soften_13 : decode cX0_soften 13 = .ok (.iload_n 1, 1) := by decide +kernel
theorem dX0_soften_14 : decode cX0_soften 14 = .ok (.dup2, 1) := by decide +kernel
theorem dX0_soften_15 : decode cX0_soften 15 = .ok (.iaload, 1) := by decide +kernel
theorem dX0_soften_16 : decode cX0_soften 16 = .ok (.iconst 1, 1) := by decide +kernel
theorem dX0_soften_17 : decode cX0_soften 17 = .ok (.isub, 1) := by decide +kernel
theorem dX0_soften_18 : decode cX0_soften 18 = .ok (.iastore, 1) := by decide +kernel
theorem dX0_soften_19 : decode cX0_soften 19 = .ok (.return_, 1) := by decide +kernel
theorem dX0_height_0 : decode cX0_height 0 = .ok (.iconst 2, 1) := by decide +kernel
theorem dX0_height_1 : decode cX0_height 1 = .ok (.iload_n 1, 1) := by decide +kernel
theorem dX0_height_2 : decode cX0_height 2 = .ok (.bipush 12, 2) := by decide +kernel
theorem dX0_height_4 : decode cX0_height 4 = .ok (.idiv, 1) := by decide +kernel
theorem dX0_height_5 : decode cX0_height 5 = .ok (.imul, 1) := by decide +kernel
theorem dX0_height_6 : decode cX0_height 6 = .ok (.aload_n 0, 1) := by decide +kernel
theorem dX0_height_7 : decode cX0_height 7 = .ok (.getfield 9, 3) := by decide +kernel
theorem dX0_height_10 : decode cX0_height 10 = .ok (.iload_n 1, 1) := by decide +kernel
theorem dX0_height_11 : decode cX0_height 11 = .ok (.iaload, 1) := by decide +kernel
theorem dX0_height_12 : decode cX0_height 12 = .ok (.iadd, 1) := by decide +kernel
theorem dX0_height_13 : decode cX0_height 13 = .ok (.ireturn, 1) := by decide +kernel
theorem dX0_isWet_0 : decode cX0_isWet 0 = .ok (.aload_n 0, 1) := by decide +kernel
theorem dX0_isWet_1 : decode cX0_isWet 1 = .ok (.getfield 18, 3) := by decide +kernel
theorem dX0_isWet_4 : decode cX0_isWet 4 = .ok (.iload_n 1, 1) := by decide +kernel
theorem dX0_isWet_5 : decode cX0_isWet 5 = .ok (.iaload, 1) := by decide +kernel
theorem dX0_isWet_6 : decode cX0_isWet 6 = .ok (.ifCond .eq 7, 3) := by decide +kernel
theorem dX0_isWet_9 : decode cX0_isWet 9 = .ok (.iconst 1, 1) := by decide +kernel
theorem dX0_isWet_10 : decode cX0_isWet 10 = .ok (.goto 4, 3) := by decide +kernel
theorem dX0_isWet_13 : decode cX0_isWet 13 = .ok (.iconst 0, 1) := by decide +kernel
theorem dX0_isWet_14 : decode cX0_isWet 14 = .ok (.ireturn, 1) := by decide +kernel
theorem dX0_hasStick_0 : decode cX0_hasStick 0 = .ok (.aload_n 0, 1) := by decide +kernel
theorem dX0_hasStick_1 : decode cX0_hasStick 1 = .ok (.getfield 21, 3) := by decide +kernel
theorem dX0_hasStick_4 : decode cX0_hasStick 4 = .ok (.iload_n 1, 1) := by decide +kernel
theorem dX0_hasStick_5 : decode cX0_hasStick 5 = .ok (.iaload, 1) := by decide +kernel
theorem dX0_hasStick_6 : decode cX0_hasStick 6 = .ok (.iconst (-1), 1) := by decide +kernel
theorem dX0_hasStick_7 : decode cX0_hasStick 7 = .ok (.if_icmp .eq 7, 3) := by decide +kernel
theorem dX0_hasStick_10 : decode cX0_hasStick 10 = .ok (.iconst 1, 1) := by decide +kernel
theorem dX0_hasStick_11 : decode cX0_hasStick 11 = .ok (.goto 4, 3) := by decide +kernel
theorem dX0_hasStick_14 : decode cX0_hasStick 14 = .ok (.iconst 0, 1) := by decide +kernel
theorem dX0_hasStick_15 : decode cX0_hasStick 15 = .ok (.ireturn, 1) := by decide +kernel
set_option maxRecDepth 20000 in
theorem ggX0_isFree_X0_hasStick : GoodIn wsX0_isFree wsX0_hasStick := goodIn_r _ [5, 6, 12, 13, 14, 15, 16, 17, 18, 19, 20] (by decide +kernel) (by decide +kernel)
set_option maxRecDepth 20000 in
theorem gX0_isFree_X0_hasStick : GoodIn wsX0_isFree (wsV RX0 108 RX0 yX0_hasStick wsX0_hasStick) := goodIn_app (goodIn_of _ (by decide +kernel)) ggX0_isFree_X0_hasStick
set_option maxRecDepth 20000 in
theorem ggX0_isFree_X0_isWet : GoodIn wsX0_isFree wsX0_isWet := goodIn_r _ [10, 11, 12, 13, 14, 15, 16, 17, 18, 19, 20] (by decide +kernel) (by decide +kernel)
set_option maxRecDepth 20000 in
theorem gX0_isFree_X0_isWet : GoodIn wsX0_isFree (wsV RX0 65 RX0 yX0_isWet wsX0_isWet) := goodIn_app (goodIn_of _ (by decide +kernel)) ggX0_isFree_X0_isWet
theorem dX0_isFree_0 : decode cX0_isFree 0 = .ok (.aload_n 0, 1) := by decide +kernel
theorem dX0_isFree_1 : decode cX0_isFree 1 = .ok (.iload_n 1, 1) := by decide +kernel
theorem dX0_isFree_2 : decode cX0_isFree 2 = .ok (.invokevirtual 108, 3) := by decide +kernel
theorem dX0_isFree_5 : decode cX0_isFree 5 = .ok (.ifCond .ne 15, 3) := by decide +kernel
theorem dX0_isFree_8 : decode cX0_isFree 8 = .ok (.aload_n 0, 1) := by decide +kernel
theorem dX0_isFree_9 : decode cX0_isFree 9 = .ok (.iload_n 1, 1) := by decide +kernel
theorem dX0_isFree_10 : decode cX0_isFree 10 = .ok (.invokevirtual 65, 3) := by decide +kernel
theorem dX0_isFree_13 : decode cX0_isFree 13 = .ok (.ifCond .ne 7, 3) := by decide +kernel
theorem dX0_isFree_16 : decode cX0_isFree 16 = .ok (.iconst 1, 1) := by decide +kernel
theorem dX0_isFree_17 : decode cX0_isFree 17 = .ok (.goto 4, 3) := by decide +kernel
theorem dX0_isFree_20 : decode cX0_isFree 20 = .ok (.iconst 0, 1) := by decide +kernel
theorem dX0_isFree_21 : decode cX0_isFree 21 = .ok (.ireturn, 1) := by decide +kernel
set_option maxRecDepth 20000 in
theorem ggX0_tellCell_X0_height : GoodIn wsX0_tellCell wsX0_height := goodIn_r _ [9, 1, 15, 16, 17, 18, 19, 20, 21, 22, 23] (by decide +kernel) (by decide +kernel)
set_option maxRecDepth 20000 in
theorem gX0_tellCell_X0_height : GoodIn wsX0_tellCell (wsV RX0 69 RX0 yX0_height wsX0_height) := goodIn_app (goodIn_of _ (by decide +kernel)) ggX0_tellCell_X0_height
set_option maxRecDepth 20000 in
theorem ggX0_tellCell_X0_hasStick : GoodIn wsX0_tellCell wsX0_hasStick := goodIn_r _ [13, 14, 15, 16, 17, 18, 19, 20, 21, 22, 23] (by decide +kernel) (by decide +kernel)
set_option maxRecDepth 20000 in
theorem gX0_tellCell_X0_hasStick : GoodIn wsX0_tellCell (wsV RX0 108 RX0 yX0_hasStick wsX0_hasStick) := goodIn_app (goodIn_of _ (by decide +kernel)) ggX0_tellCell_X0_hasStick
theorem dX0_tellCell_0 : decode cX0_tellCell 0 = .ok (.iload_n 2, 1) := by decide +kernel
theorem dX0_tellCell_1 : decode cX0_tellCell 1 = .ok (.tableswitch 76 0 4 #[35, 42, 49, 55, 62], 35) := by decide +kernel
theorem dX0_tellCell_36 : decode cX0_tellCell 36 = .ok (.aload_n 0, 1) := by decide +kernel
theorem dX0_tellCell_37 : decode cX0_tellCell 37 = .ok (.getfield 9, 3) := by decide +kernel
theorem dX0_tellCell_40 : decode cX0_tellCell 40 = .ok (.iload_n 1, 1) := by decide +kernel
theorem dX0_tellCell_41 : decode cX0_tellCell 41 = .ok (.iaload, 1) := by decide +kernel
theorem dX0_tellCell_42 : decode cX0_tellCell 42 = .ok (.ireturn, 1) := by decide +kernel
theorem dX0_tellCell_43 : decode cX0_tellCell 43 = .ok (.aload_n 0, 1) := by decide +kernel
theorem dX0_tellCell_44 : decode cX0_tellCell 44 = .ok (.getfield 15, 3) := by decide +kernel
theorem dX0_tellCell_47 : decode cX0_tellCell 47 = .ok (.iload_n 1, 1) := by decide +kernel
theorem dX0_tellCell_48 : decode cX0_tellCell 48 = .ok (.iaload, 1) := by decide +kernel
theorem dX0_tellCell_49 : decode cX0_tellCell 49 = .ok (.ireturn, 1) := by decide +kernel
theorem dX0_tellCell_50 : decode cX0_tellCell 50 = .ok (.aload_n 0, 1) := by decide +kernel
theorem dX0_tellCell_51 : decode cX0_tellCell 51 = .ok (.iload_n 1, 1) := by decide +kernel
theorem dX0_tellCell_52 : decode cX0_tellCell 52 = .ok (.invokevirtual 69, 3) := by decide +kernel
theorem dX0_tellCell_55 : decode cX0_tellCell 55 = .ok (.ireturn, 1) := by decide +kernel
theorem dX0_tellCell_56 : decode cX0_tellCell 56 = .ok (.aload_n 0, 1) := by decide +kernel
theorem dX0_tellCell_57 : decode cX0_tellCell 57 = .ok (.getfield 18, 3) := by decide +kernel
theorem dX0_tellCell_60 : decode cX0_tellCell 60 = .ok (.iload_n 1, 1) := by decide +kernel
theorem dX0_tellCell_61 : decode cX0_tellCell 61 = .ok (.iaload, 1) := by decide +kernel
theorem dX0_tellCell_62 : decode cX0_tellCell 62 = .ok (.ireturn, 1) := by decide +kernel
theorem dX0_tellCell_63 : decode cX0_tellCell 63 = .ok (.aload_n 0, 1) := by decide +kernel
theorem dX0_tellCell_64 : decode cX0_tellCell 64 = .ok (.iload_n 1, 1) := by decide +kernel
theorem dX0_tellCell_65 : decode cX0_tellCell 65 = .ok (.invokevirtual 108, 3) := by decide +kernel
theorem dX0_tellCell_68 : decode cX0_tellCell 68 = .ok (.ifCond .eq 7, 3) := by decide +kernel
theorem dX0_tellCell_71 : decode cX0_tellCell 71 = .ok (.iconst 1, 1) := by decide +kernel
theorem dX0_tellCell_72 : decode cX0_tellCell 72 = .ok (.goto 4, 3) := by decide +kernel
theorem dX0_tellCell_75 : decode cX0_tellCell 75 = .ok (.iconst 0, 1) := by decide +kernel
theorem dX0_tellCell_76 : decode cX0_tellCell 76 = .ok (.ireturn, 1) := by decide +kernel
theorem dX0_tellCell_77 : decode cX0_tellCell 77 = .ok (.aload_n 0, 1) := by decide +kernel
theorem dX0_tellCell_78 : decode cX0_tellCell 78 = .ok (.getfield 24, 3) := by decide +kernel
theorem dX0_tellCell_81 : decode cX0_tellCell 81 = .ok (.iload_n 1, 1) := by decide +kernel
theorem dX0_tellCell_82 : decode cX0_tellCell 82 = .ok (.iaload, 1) := by decide +kernel
theorem dX0_tellCell_83 : decode cX0_tellCell 83 = .ok (.ireturn, 1) := by decide +kernel
theorem dX0_pointsOf_0 : decode cX0_pointsOf 0 = .ok (.aload_n 0, 1) := by decide +kernel
theorem dX0_pointsOf_1 : decode cX0_pointsOf 1 = .ok (.getfield 27, 3) := by decide +kernel
theorem dX0_pointsOf_4 : decode cX0_pointsOf 4 = .ok (.iload_n 1, 1) := by decide +kernel
theorem dX0_pointsOf_5 : decode cX0_pointsOf 5 = .ok (.iaload, 1) := by decide +kernel
theorem dX0_pointsOf_6 : decode cX0_pointsOf 6 = .ok (.ireturn, 1) := by decide +kernel
theorem dX0_sticksOf_0 : decode cX0_sticksOf 0 = .ok (.iconst 0, 1) := by decide +kernel
theorem dX0_sticksOf_1 : decode cX0_sticksOf 1 = .ok (.istore_n 2, 1) := by decide +kernel
theorem dX0_sticksOf_2 : decode cX0_sticksOf 2 = .ok (.iconst 0, 1) := by decide +kernel
theorem dX0_sticksOf_3 : decode cX0_sticksOf 3 = .ok (.istore_n 3, 1) := by decide +kernel
theorem dX0_sticksOf_4 : decode cX0_sticksOf 4 = .ok (.iload_n 3, 1) := by decide +kernel
theorem dX0_sticksOf_5 : decode cX0_sticksOf 5 = .ok (.bipush 120, 2) := by decide +kernel
theorem dX0_sticksOf_7 : decode cX0_sticksOf 7 = .ok (.if_icmp .ge 22, 3) := by decide +kernel
theorem dX0_sticksOf_10 : decode cX0_sticksOf 10 = .ok (.aload_n 0, 1) := by decide +kernel
theorem dX0_sticksOf_11 : decode cX0_sticksOf 11 = .ok (.getfield 21, 3) := by decide +kernel
theorem dX0_sticksOf_14 : decode cX0_sticksOf 14 = .ok (.iload_n 3, 1) := by decide +kernel
theorem dX0_sticksOf_15 : decode cX0_sticksOf 15 = .ok (.iaload, 1) := by decide +kernel
theorem dX0_sticksOf_16 : decode cX0_sticksOf 16 = .ok (.iload_n 1, 1) := by decide +kernel
theorem dX0_sticksOf_17 : decode cX0_sticksOf 17 = .ok (.if_icmp .ne 6, 3) := by decide +kernel
theorem dX0_sticksOf_20 : decode cX0_sticksOf 20 = .ok (.iinc 2 1, 3) := by decide +kernel
theorem dX0_sticksOf_23 : decode cX0_sticksOf 23 = .ok (.iinc 3 1, 3) := by decide +kernel
theorem dX0_sticksOf_26 : decode cX0_sticksOf 26 = .ok (.goto (-22), 3) := by decide +kernel
theorem dX0_sticksOf_29 : decode cX0_sticksOf 29 = .ok (.iload_n 2, 1) := by decide +kernel
theorem dX0_sticksOf_30 : decode cX0_sticksOf 30 = .ok (.ireturn, 1) := by decide +kernel
set_option maxRecDepth 20000 in
theorem ggX0_sandOfArea_X0_sumOfArea : GoodIn wsX0_sandOfArea wsX0_sumOfArea := goodIn_r _ [5, 6, 7, 8] (by decide +kernel) (by decide +kernel)
set_option maxRecDepth 20000 in
theorem gX0_sandOfArea_X0_sumOfArea : GoodIn wsX0_sandOfArea (va_wsS RX0 111 yX0_sumOfArea wsX0_sumOfArea) := goodIn_app (goodIn_of _ (by decide +kernel)) ggX0_sandOfArea_X0_sumOfArea
theorem dX0_sandOfArea_0 : decode cX0_sandOfArea 0 = .ok (.aload_n 0, 1) := by decide +kernel
theorem dX0_sandOfArea_1 : decode cX0_sandOfArea 1 = .ok (.getfield 9, 3) := by decide +kernel
theorem dX0_sandOfArea_4 : decode cX0_sandOfArea 4 = .ok (.iload_n 1, 1) := by decide +kernel
theorem dX0_sandOfArea_5 : decode cX0_sandOfArea 5 = .ok (.invokestatic 111, 3) := by decide +kernel
theorem dX0_sandOfArea_8 : decode cX0_sandOfArea 8 = .ok (.ireturn, 1) := by decide +kernel
set_option maxRecDepth 20000 in
theorem ggX0_waterOfArea_X0_sumOfArea : GoodIn wsX0_waterOfArea wsX0_sumOfArea := goodIn_r _ [5, 6, 7, 8] (by decide +kernel) (by decide +kernel)
set_option maxRecDepth 20000 in
theorem gX0_waterOfArea_X0_sumOfArea : GoodIn wsX0_waterOfArea (va_wsS RX0 111 yX0_sumOfArea wsX0_sumOfArea) := goodIn_app (goodIn_of _ (by decide +kernel)) ggX0_waterOfArea_X0_sumOfArea
theorem dX0_waterOfArea_0 : decode cX0_waterOfArea 0 = .ok (.aload_n 0, 1) := by decide +kernel
theorem dX0_waterOfArea_1 : decode cX0_waterOfArea 1 = .ok (.getfield 18, 3) := by decide +kernel
theorem dX0_waterOfArea_4 : decode cX0_waterOfArea 4 = .ok (.iload_n 1, 1) := by decide +kernel
theorem dX0_waterOfArea_5 : decode cX0_waterOfArea 5 = .ok (.invokestatic 111, 3) := by decide +kernel
theorem dX0_waterOfArea_8 : decode cX0_waterOfArea 8 = .ok (.ireturn, 1) := by decide +kernel
set_option maxRecDepth 20000 in
theorem ggX0_greatestHeightOfArea_X1_isInArea : GoodIn wsX0_greatestHeightOfArea wsX1_isInArea := goodIn_r _ [7] (by decide +kernel) (by decide +kernel)
set_option maxRecDepth 20000 in
theorem gX0_greatestHeightOfArea_X1_isInArea_n115 : GoodIn wsX0_greatestHeightOfArea (wsX1_isInArea) := ggX0_greatestHeightOfArea_X1_isInArea
set_option maxRecDepth 20000 in
theorem ggX0_greatestHeightOfArea_X0_height : GoodIn wsX0_greatestHeightOfArea wsX0_height := goodIn_r _ [12, 13, 14, 15, 16, 17, 18, 19, 20, 21, 22] (by decide +kernel) (by decide +kernel)
set_option maxRecDepth 20000 in
theorem gX0_greatestHeightOfArea_X0_height : GoodIn wsX0_greatestHeightOfArea (wsV RX0 69 RX0 yX0_height wsX0_height) := goodIn_app (goodIn_of _ (by decide +kernel)) ggX0_greatestHeightOfArea_X0_height
theorem dX0_greatestHeightOfArea_0 : decode cX0_greatestHeightOfArea 0 = .ok (.iconst 0, 1) := by decide +kernel
theorem dX0_greatestHeightOfArea_1 : decode cX0_greatestHeightOfArea 1 = .ok (.istore_n 2, 1) := by decide +kernel
theorem dX0_greatestHeightOfArea_2 : decode cX0_greatestHeightOfArea 2 = .ok (.iconst 0, 1) := by decide +kernel
theorem dX0_greatestHeightOfArea_3 : decode cX0_greatestHeightOfArea 3 = .ok (.istore_n 3, 1) := by decide +kernel
theorem dX0_greatestHeightOfArea_4 : decode cX0_greatestHeightOfArea 4 = .ok (.iload_n 3, 1) := by decide +kernel
theorem dX0_greatestHeightOfArea_5 : decode cX0_greatestHeightOfArea 5 = .ok (.bipush 120, 2) := by decide +kernel
theorem dX0_greatestHeightOfArea_7 : decode cX0_greatestHeightOfArea 7 = .ok (.if_icmp .ge 27, 3) := by decide +kernel
theorem dX0_greatestHeightOfArea_10 : decode cX0_greatestHeightOfArea 10 = .ok (.iload_n 1, 1) := by decide +kernel
theorem dX0_greatestHeightOfArea_11 : decode cX0_greatestHeightOfArea 11 = .ok (.iload_n 3, 1) := by decide +kernel
theorem dX0_greatestHeightOfArea_12 : decode cX0_greatestHeightOfArea 12 = .ok (.invokestatic 115, 3) := by decide +kernel
theorem dX0_greatestHeightOfArea_15 : decode cX0_greatestHeightOfArea 15 = .ok (.ifCond .eq 13, 3) := by decide +kernel
theorem dX0_greatestHeightOfArea_18 : decode cX0_greatestHeightOfArea 18 = .ok (.iload_n 2, 1) := by decide +kernel
theorem dX0_greatestHeightOfArea_19 : decode cX0_greatestHeightOfArea 19 = .ok (.aload_n 0, 1) := by decide +kernel
theorem dX0_greatestHeightOfArea_20 : decode cX0_greatestHeightOfArea 20 = .ok (.iload_n 3, 1) := by decide +kernel
theorem dX0_greatestHeightOfArea_21 : decode cX0_greatestHeightOfArea 21 = .ok (.invokevirtual 69, 3) := by decide +kernel
theorem dX0_greatestHeightOfArea_24 : decode cX0_greatestHeightOfArea 24 = .ok (.invokestatic 95, 3) := by decide +kernel
theorem dX0_greatestHeightOfArea_27 : decode cX0_greatestHeightOfArea 27 = .ok (.istore_n 2, 1) := by decide +kernel
theorem dX0_greatestHeightOfArea_28 : decode cX0_greatestHeightOfArea 28 = .ok (.iinc 3 1, 3) := by decide +kernel
theorem dX0_greatestHeightOfArea_31 : decode cX0_greatestHeightOfArea 31 = .ok (.goto (-27), 3) := by decide +kernel
theorem dX0_greatestHeightOfArea_34 : decode cX0_greatestHeightOfArea 34 = .ok (.iload_n 2, 1) := by decide +kernel
theorem dX0_greatestHeightOfArea_35 : decode cX0_greatestHeightOfArea 35 = .ok (.ireturn, 1) := by decide +kernel
set_option maxRecDepth 20000 in
theorem ggX0_allSand_X0_sum : GoodIn wsX0_allSand wsX0_sum := goodIn_r _ [5] (by decide +kernel) (by decide +kernel)
set_option maxRecDepth 20000 in
theorem gX0_allSand_X0_sum : GoodIn wsX0_allSand (va_wsS RX0 118 yX0_sum wsX0_sum) := goodIn_app (goodIn_of _ (by decide +kernel)) ggX0_allSand_X0_sum
theorem dX0_allSand_0 : decode cX0_allSand 0 = .ok (.aload_n 0, 1) := by decide +kernel
theorem dX0_allSand_1 : decode cX0_allSand 1 = .ok (.getfield 9, 3) := by decide +kernel
theorem dX0_allSand_4 : decode cX0_allSand 4 = .ok (.invokestatic 118, 3) := by decide +kernel
theorem dX0_allSand_7 : decode cX0_allSand 7 = .ok (.ireturn, 1) := by decide +kernel
set_option maxRecDepth 20000 in
theorem ggX0_allWater_X0_sum : GoodIn wsX0_allWater wsX0_sum := goodIn_r _ [5] (by decide +kernel) (by decide +kernel)
set_option maxRecDepth 20000 in
theorem gX0_allWater_X0_sum : GoodIn wsX0_allWater (va_wsS RX0 118 yX0_sum wsX0_sum) := goodIn_app (goodIn_of _ (by decide +kernel)) ggX0_allWater_X0_sum
theorem dX0_allWater_0 : decode cX0_allWater 0 = .ok (.aload_n 0, 1) := by decide +kernel
theorem dX0_allWater_1 : decode cX0_allWater 1 = .ok (.getfield 18, 3) := by decide +kernel
theorem dX0_allWater_4 : decode cX0_allWater 4 = .ok (.invokestatic 118, 3) := by decide +kernel
theorem dX0_allWater_7 : decode cX0_allWater 7 = .ok (.ireturn, 1) := by decide +kernel
set_option maxRecDepth 20000 in
theorem ggX0_allHeights_X0_height : GoodIn wsX0_allHeights wsX0_height := goodIn_r _ [5, 6, 7, 8, 9, 10, 11, 12, 13, 14, 15] (by decide +kernel) (by decide +kernel)
set_option maxRecDepth 20000 in
theorem gX0_allHeights_X0_height : GoodIn wsX0_allHeights (wsV RX0 69 RX0 yX0_height wsX0_height) := goodIn_app (goodIn_of _ (by decide +kernel)) ggX0_allHeights_X0_height
theorem dX0_allHeights_0 : decode cX0_allHeights 0 = .ok (.iconst 0, 1) := by decide +kernel
theorem dX0_allHeights_1 : decode cX0_allHeights 1 = .ok (.istore_n 1, 1) := by decide +kernel
theorem dX0_allHeights_2 : decode cX0_allHeights 2 = .ok (.iconst 0, 1) := by decide +kernel
theorem dX0_allHeights_3 : decode cX0_allHeights 3 = .ok (.istore_n 2, 1) := by decide +kernel
theorem dX0_allHeights_4 : decode cX0_allHeights 4 = .ok (.iload_n 2, 1) := by decide +kernel
theorem dX0_allHeights_5 : decode cX0_allHeights 5 = .ok (.bipush 120, 2) := by decide +kernel
theorem dX0_allHeights_7 : decode cX0_allHeights 7 = .ok (.if_icmp .ge 17, 3) := by decide +kernel
theorem dX0_allHeights_10 : decode cX0_allHeights 10 = .ok (.iload_n 1, 1) := by decide +kernel
theorem dX0_allHeights_11 : decode cX0_allHeights 11 = .ok (.aload_n 0, 1) := by decide +kernel
theorem dX0_allHeights_12 : decode cX0_allHeights 12 = .ok (.iload_n 2, 1) := by decide +kernel
theorem dX0_allHeights_13 : decode cX0_allHeights 13 = .ok (.invokevirtual 69, 3) := by decide +kernel
theorem dX0_allHeights_16 : decode cX0_allHeights 16 = .ok (.iadd, 1) := by decide +kernel
theorem dX0_allHeights_17 : decode cX0_allHeights 17 = .ok (.istore_n 1, 1) := by decide +kernel
theorem dX0_allHeights_18 : decode cX0_allHeights 18 = .ok (.iinc 2 1, 3) := by decide +kernel
theorem dX0_allHeights_21 : decode cX0_allHeights 21 = .ok (.goto (-17), 3) := by decide +kernel
theorem dX0_allHeights_24 : decode cX0_allHeights 24 = .ok (.iload_n 1, 1) := by decide +kernel
theorem dX0_allHeights_25 : decode cX0_allHeights 25 = .ok (.ireturn, 1) := by decide +kernel
set_option maxRecDepth 20000 in
theorem ggX0_allSticks_X0_hasStick : GoodIn wsX0_allSticks wsX0_hasStick := goodIn_r _ [5, 6, 7, 8, 9, 10, 11, 12, 13, 14, 15] (by decide +kernel) (by decide +kernel)
set_option maxRecDepth 20000 in
theorem gX0_allSticks_X0_hasStick : GoodIn wsX0_allSticks (wsV RX0 108 RX0 yX0_hasStick wsX0_hasStick) := goodIn_app (goodIn_of _ (by decide +kernel)) ggX0_allSticks_X0_hasStick
theorem dX0_allSticks_0 : decode cX0_allSticks 0 = .ok (.iconst 0, 1) := by decide +kernel
theorem dX0_allSticks_1 : decode cX0_allSticks 1 = .ok (.istore_n 1, 1) := by decide +kernel
theorem dX0_allSticks_2 : decode cX0_allSticks 2 = .ok (.iconst 0, 1) := by decide +kernel
theorem dX0_allSticks_3 : decode cX0_allSticks 3 = .ok (.istore_n 2, 1) := by decide +kernel
theorem dX0_allSticks_4 : decode cX0_allSticks 4 = .ok (.iload_n 2, 1) := by decide +kernel
theorem dX0_allSticks_5 : decode cX0_allSticks 5 = .ok (.bipush 120, 2) := by decide +kernel
theorem dX0_allSticks_7 : decode cX0_allSticks 7 = .ok (.if_icmp .ge 20, 3) := by decide +kernel
theorem dX0_allSticks_10 : decode cX0_allSticks 10 = .ok (.aload_n 0, 1) := by decide +kernel
theorem dX0_allSticks_11 : decode cX0_allSticks 11 = .ok (.iload_n 2, 1) := by decide +kernel
theorem dX0_allSticks_12 : decode cX0_allSticks 12 = .ok (.invokevirtual 108, 3) := by decide +kernel
theorem dX0_allSticks_15 : decode cX0_allSticks 15 = .ok (.ifCond .eq 6, 3) := by decide +kernel
theorem dX0_allSticks_18 : decode cX0_allSticks 18 = .ok (.iinc 1 1, 3) := by decide +kernel
theorem dX0_allSticks_21 : decode cX0_allSticks 21 = .ok (.iinc 2 1, 3) := by decide +kernel
theorem dX0_allSticks_24 : decode cX0_allSticks 24 = .ok (.goto (-20), 3) := by decide +kernel
theorem dX0_allSticks_27 : decode cX0_allSticks 27 = .ok (.iload_n 1, 1) := by decide +kernel
theorem dX0_allSticks_28 : decode cX0_allSticks 28 = .ok (.ireturn, 1) := by decide +kernel
theorem dX0_sum_0 : decode cX0_sum 0 = .ok (.iconst 0, 1) := by decide +kernel
theorem dX0_sum_1 : decode cX0_sum 1 = .ok (.istore_n 1, 1) := by decide +kernel
theorem dX0_sum_2 : decode cX0_sum 2 = .ok (.aload_n 0, 1) := by decide +kernel
theorem dX0_sum_3 : decode cX0_sum 3 = .ok (.astore_n 2, 1) := by decide +kernel
theorem dX0_sum_4 : decode cX0_sum 4 = .ok (.aload_n 2, 1) := by decide +kernel
theorem dX0_sum_5 : decode cX0_sum 5 = .ok (.arraylength, 1) := by decide +kernel
theorem dX0_sum_6 : decode cX0_sum 6 = .ok (.istore_n 3, 1) := by decide +kernel
theorem dX0_sum_7 : decode cX0_sum 7 = .ok (.iconst 0, 1) := by decide +kernel
theorem dX0_sum_8 : decode cX0_sum 8 = .ok (.istore 4, 2) := by decide +kernel
theorem dX0_sum_10 : decode cX0_sum 10 = .ok (.iload 4, 2) := by decide +kernel
theorem dX0_sum_12 : decode cX0_sum 12 = .ok (.iload_n 3, 1) := by decide +kernel
theorem dX0_sum_13 : decode cX0_sum 13 = .ok (.if_icmp .ge 20, 3) := by decide +kernel
theorem dX0_sum_16 : decode cX0_sum 16 = .ok (.aload_n 2, 1) := by decide +kernel
theorem dX0_sum_17 : decode cX0_sum 17 = .ok (.iload 4, 2) := by decide +kernel
theorem dX0_sum_19 : decode cX0_sum 19 = .ok (.iaload, 1) := by decide +kernel
theorem dX0_sum_20 : decode cX0_sum 20 = .ok (.istore 5, 2) := by decide +kernel
theorem dX0_sum_22 : decode cX0_sum 22 = .ok (.iload_n 1, 1) := by decide +kernel
theorem dX0_sum_23 : decode cX0_sum 23 = .ok (.iload 5, 2) := by decide +kernel
theorem dX0_sum_25 : decode cX0_sum 25 = .ok (.iadd, 1) := by decide +kernel
theorem dX0_sum_26 : decode cX0_sum 26 = .ok (.istore_n 1, 1) := by decide +kernel
theorem dX0_sum_27 : decode cX0_sum 27 = .ok (.iinc 4 1, 3) := by decide +kernel
theorem dX0_sum_30 : decode cX0_sum 30 = .ok (.goto (-20), 3) := by decide +kernel
theorem dX0_sum_33 : decode cX0_sum 33 = .ok (.iload_n 1, 1) := by decide +kernel
theorem dX0_sum_34 : decode cX0_sum 34 = .ok (.ireturn, 1) := by decide +kernel
set_option maxRecDepth 20000 in
theorem ggX0_sumOfArea_X1_isInArea : GoodIn wsX0_sumOfArea wsX1_isInArea := goodIn_r _ [3] (by decide +kernel) (by decide +kernel)
set_option maxRecDepth 20000 in
theorem gX0_sumOfArea_X1_isInArea_n115 : GoodIn wsX0_sumOfArea (wsX1_isInArea) := ggX0_sumOfArea_X1_isInArea
theorem dX0_sumOfArea_0 : decode cX0_sumOfArea 0 = .ok (.iconst 0, 1) := by decide +kernel
theorem dX0_sumOfArea_1 : decode cX0_sumOfArea 1 = .ok (.istore_n 2, 1) := by decide +kernel
theorem dX0_sumOfArea_2 : decode cX0_sumOfArea 2 = .ok (.iconst 0, 1) := by decide +kernel
theorem dX0_sumOfArea_3 : decode cX0_sumOfArea 3 = .ok (.istore_n 3, 1) := by decide +kernel
theorem dX0_sumOfArea_4 : decode cX0_sumOfArea 4 = .ok (.iload_n 3, 1) := by decide +kernel
theorem dX0_sumOfArea_5 : decode cX0_sumOfArea 5 = .ok (.bipush 120, 2) := by decide +kernel
theorem dX0_sumOfArea_7 : decode cX0_sumOfArea 7 = .ok (.if_icmp .ge 29, 3) := by decide +kernel
theorem dX0_sumOfArea_10 : decode cX0_sumOfArea 10 = .ok (.iload_n 3, 1) := by decide +kernel
theorem dX0_sumOfArea_11 : decode cX0_sumOfArea 11 = .ok (.aload_n 0, 1) := by decide +kernel
theorem dX0_sumOfArea_12 : decode cX0_sumOfArea 12 = .ok (.arraylength, 1) := by decide +kernel
theorem dX0_sumOfArea_13 : decode cX0_sumOfArea 13 = .ok (.if_icmp .ge 23, 3) := by decide +kernel
theorem dX0_sumOfArea_16 : decode cX0_sumOfArea 16 = .ok (.iload_n 1, 1) := by decide +kernel
theorem dX0_sumOfArea_17 : decode cX0_sumOfArea 17 = .ok (.iload_n 3, 1) := by decide +kernel
theorem dX0_sumOfArea_18 : decode cX0_sumOfArea 18 = .ok (.invokestatic 115, 3) := by decide +kernel
theorem dX0_sumOfArea_21 : decode cX0_sumOfArea 21 = .ok (.ifCond .eq 9, 3) := by decide +kernel
theorem dX0_sumOfArea_24 : decode cX0_sumOfArea 24 = .ok (.iload_n 2, 1) := by decide +kernel
theorem dX0_sumOfArea_25 : decode cX0_sumOfArea 25 = .ok (.aload_n 0, 1) := by decide +kernel
theorem dX0_sumOfArea_26 : decode cX0_sumOfArea 26 = .ok (.iload_n 3, 1) := by decide +kernel
theorem dX0_sumOfArea_27 : decode cX0_sumOfArea 27 = .ok (.iaload, 1) := by decide +kernel
theorem dX0_sumOfArea_28 : decode cX0_sumOfArea 28 = .ok (.iadd, 1) := by decide +kernel
theorem dX0_sumOfArea_29 : decode cX0_sumOfArea 29 = .ok (.istore_n 2, 1) := by decide +kernel
theorem dX0_sumOfArea_30 : decode cX0_sumOfArea 30 = .ok (.iinc 3 1, 3) := by decide +kernel
theorem dX0_sumOfArea_33 : decode cX0_sumOfArea 33 = .ok (.goto (-29), 3) := by decide +kernel
theorem dX0_sumOfArea_36 : decode cX0_sumOfArea 36 = .ok (.iload_n 2, 1) := by decide +kernel
theorem dX0_sumOfArea_37 : decode cX0_sumOfArea 37 = .ok (.ireturn, 1) := by decide +kernel
set_option maxRecDepth 20000 in
theorem dJ9_floorMod_7cf53_0 : decode cJ9_floorMod_7cf53 0 = .ok (.iload_n 0, 1) := by decide +kernel
theorem dJ9_floorMod_7cf53_1 : decode cJ9_floorMod_7cf53 1 = .ok (.iload_n 1, 1) := by decide +kernel
theorem dJ9_floorMod_7cf53_2 : decode cJ9_floorMod_7cf53 2 = .ok (.irem, 1) := by decide +kernel
theorem dJ9_floorMod_7cf53_3 : decode cJ9_floorMod_7cf53 3 = .ok (.istore_n 2, 1) := by decide +kernel
theorem dJ9_floorMod_7cf53_4 : decode cJ9_floorMod_7cf53 4 = .ok (.iload_n 0, 1) := by decide +kernel
theorem dJ9_floorMod_7cf53_5 : decode cJ9_floorMod_7cf53 5 = .ok (.iload_n 1, 1) := by decide +kernel
theorem dJ9_floorMod_7cf53_6 : decode cJ9_floorMod_7cf53 6 = .ok (.ixor, 1) := by decide +kernel
theorem dJ9_floorMod_7cf53_7 : decode cJ9_floorMod_7cf53 7 = .ok (.ifCond .ge 11, 3) := by decide +kernel
theorem dJ9_floorMod_7cf53_10 : decode cJ9_floorMod_7cf53 10 = .ok (.iload_n 2, 1) := by decide +kernel
theorem dJ9_floorMod_7cf53_11 : decode cJ9_floorMod_7cf53 11 = .ok (.ifCond .eq 7, 3) := by decide +kernel
theorem dJ9_floorMod_7cf53_14 : decode cJ9_floorMod_7cf53 14 = .ok (.iload_n 2, 1) := by decide +kernel
theorem dJ9_floorMod_7cf53_15 : decode cJ9_floorMod_7cf53 15 = .ok (.iload_n 1, 1) := by decide +kernel
theorem dJ9_floorMod_7cf53_16 : decode cJ9_floorMod_7cf53 16 = .ok (.iadd, 1) := by decide +kernel
theorem dJ9_floorMod_7cf53_17 : decode cJ9_floorMod_7cf53 17 = .ok (.ireturn, 1) := by decide +kernel
theorem dJ9_floorMod_7cf53_18 : decode cJ9_floorMod_7cf53 18 = .ok (.iload_n 2, 1) := by decide +kernel
theorem dJ9_floorMod_7cf53_19 : decode cJ9_floorMod_7cf53 19 = .ok (.ireturn, 1) := by decide +kernel
theorem dJ9_max_7cf53_0 : decode cJ9_max_7cf53 0 = .ok (.iload_n 0, 1) := by decide +kernel
theorem dJ9_max_7cf53_1 : decode cJ9_max_7cf53 1 = .ok (.iload_n 1, 1) := by decide +kernel
theorem dJ9_max_7cf53_2 : decode cJ9_max_7cf53 2 = .ok (.if_icmp .lt 7, 3) := by decide +kernel
theorem dJ9_max_7cf53_5 : decode cJ9_max_7cf53 5 = .ok (.iload_n 0, 1) := by decide +kernel
theorem dJ9_max_7cf53_6 : decode cJ9_max_7cf53 6 = .ok (.goto 4, 3) := by decide +kernel
theorem dJ9_max_7cf53_9 : decode cJ9_max_7cf53 9 = .ok (.iload_n 1, 1) := by decide +kernel
theorem dJ9_max_7cf53_10 : decode cJ9_max_7cf53 10 = .ok (.ireturn, 1) := by decide +kernel
theorem dJ9_min_7cf53_0 : decode cJ9_min_7cf53 0 = .ok (.iload_n 0, 1) := by decide +kernel
theorem dJ9_min_7cf53_1 : decode cJ9_min_7cf53 1 = .ok (.iload_n 1, 1) := by decide +kernel
theorem dJ9_min_7cf53_2 : decode cJ9_min_7cf53 2 = .ok (.if_icmp .gt 7, 3) := by decide +kernel
theorem dJ9_min_7cf53_5 : decode cJ9_min_7cf53 5 = .ok (.iload_n 0, 1) := by decide +kernel
theorem dJ9_min_7cf53_6 : decode cJ9_min_7cf53 6 = .ok (.goto 4, 3) := by decide +kernel
theorem dJ9_min_7cf53_9 : decode cJ9_min_7cf53 9 = .ok (.iload_n 1, 1) := by decide +kernel
theorem dJ9_min_7cf53_10 : decode cJ9_min_7cf53 10 = .ok (.ireturn, 1) := by decide +kernel
theorem dJ7_fill_53178_0 : decode cJ7_fill_53178 0 = .ok (.iconst 0, 1) := by decide +kernel
theorem dJ7_fill_53178_1 : decode cJ7_fill_53178 1 = .ok (.istore_n 2, 1) := by decide +kernel
theorem dJ7_fill_53178_2 : decode cJ7_fill_53178 2 = .ok (.aload_n 0, 1) := by decide +kernel
theorem dJ7_fill_53178_3 : decode cJ7_fill_53178 3 = .ok (.arraylength, 1) := by decide +kernel
theorem dJ7_fill_53178_4 : decode cJ7_fill_53178 4 = .ok (.istore_n 3, 1) := by decide +kernel
theorem dJ7_fill_53178_5 : decode cJ7_fill_53178 5 = .ok (.iload_n 2, 1) := by decide +kernel
theorem dJ7_fill_53178_6 : decode cJ7_fill_53178 6 = .ok (.iload_n 3, 1) := by decide +kernel
theorem dJ7_fill_53178_7 : decode cJ7_fill_53178 7 = .ok (.if_icmp .ge 13, 3) := by decide +kernel
theorem dJ7_fill_53178_10 : decode cJ7_fill_53178 10 = .ok (.aload_n 0, 1) := by decide +kernel
theorem dJ7_fill_53178_11 : decode cJ7_fill_53178 11 = .ok (.iload_n 2, 1) := by decide +kernel
theorem dJ7_fill_53178_12 : decode cJ7_fill_53178 12 = .ok (.iload_n 1, 1) := by decide +kernel
theorem dJ7_fill_53178_13 : decode cJ7_fill_53178 13 = .ok (.iastore, 1) := by decide +kernel
theorem dJ7_fill_53178_14 : decode cJ7_fill_53178 14 = .ok (.iinc 2 1, 3) := by decide +kernel
theorem dJ7_fill_53178_17 : decode cJ7_fill_53178 17 = .ok (.goto (-12), 3) := by decide +kernel
theorem dJ7_fill_53178_20 : decode cJ7_fill_53178 20 = .ok (.return_, 1) := by decide +kernel
set_option maxRecDepth 20000 in
abbrev vwCl : List vw_C := [(RX0, TX0, 9), (RX1, TX1, 9), (RX2, TX2, 14)]
end
section
/-! The walk's own words: whole numbers as Int, a walk's state without its heap -/
def iI (z : Int) : Int32 := Int32.ofInt z
theorem iI_toInt {z : Int} (h : -2147483648 ≤ z ∧ z ≤ 2147483647) : (iI z).toInt = z := by
  unfold iI
  have hs : (Int32.size : Int) = 4294967296 := rfl
  rw [Int32.toInt_ofInt, Int.bmod_eq_of_le] <;> omega
theorem iI_of (x : Int32) : x = iI x.toInt := by
  unfold iI
  exact (Int32.ofInt_toInt x).symm
theorem iI_rg (x : Int32) : -2147483648 ≤ x.toInt ∧ x.toInt ≤ 2147483647 := ⟨Int32.le_toInt x, by have := Int32.toInt_lt x; omega⟩
theorem iI_add (a b : Int) : iI a + iI b = iI (a + b) := (Int32.ofInt_add a b).symm
theorem iI_mul (a b : Int) : iI a * iI b = iI (a * b) := (Int32.ofInt_mul a b).symm
theorem iI_neg (a : Int) : - iI a = iI (-a) := (Int32.ofInt_neg a).symm
theorem iI_sub (a b : Int) : iI a - iI b = iI (a - b) := (Int32.ofInt_sub a b).symm
theorem iI_inj {a b : Int} (ha : -2147483648 ≤ a ∧ a ≤ 2147483647) (hb : -2147483648 ≤ b ∧ b ≤ 2147483647) : iI a = iI b ↔ a = b := ⟨fun h => by rw [← iI_toInt ha, ← iI_toInt hb, h], fun h => by rw [h]⟩
theorem iI_lt {a b : Int} (ha : -2147483648 ≤ a ∧ a ≤ 2147483647) (hb : -2147483648 ≤ b ∧ b ≤ 2147483647) : iI a < iI b ↔ a < b := by
  rw [Int32.lt_iff_toInt_lt, iI_toInt ha, iI_toInt hb]
theorem iI_le {a b : Int} (ha : -2147483648 ≤ a ∧ a ≤ 2147483647) (hb : -2147483648 ≤ b ∧ b ≤ 2147483647) : iI a ≤ iI b ↔ a ≤ b := by
  rw [Int32.le_iff_toInt_le, iI_toInt ha, iI_toInt hb]
theorem iI_0 : iI 0 = 0 := rfl
theorem iI_nI {a : Int} (h : 0 ≤ a) : iI a = nI a.toNat := by
  unfold iI nI
  rw [← Int32.ofInt_eq_ofNat, Int.toNat_of_nonneg h]
theorem iI_cl {a : Int} (h : 0 ≤ a) (h2 : a < 2147483648) : (iI a).toNatClampNeg = a.toNat := by
  show (iI a).toInt.toNat = a.toNat
  rw [iI_toInt ⟨by omega, by omega⟩]
theorem iI_in {a : Int} {N : Nat} (h : 0 ≤ a) (h2 : a < (N : Int)) (hN : N < 2147483648) : vp_in (iI a) N := by
  rw [vp_in_iff, iI_toInt ⟨by omega, by omega⟩]
  exact ⟨h, h2⟩
theorem iI_div {a b : Int} (ha : 0 ≤ a ∧ a ≤ 2147483647) (hb : 0 < b ∧ b ≤ 2147483647) : iI a / iI b = iI (a / b) := by
  have h0 : 0 < b.toNat := by omega
  rw [iI_nI ha.1, iI_nI (by omega : 0 ≤ b), pk_div (by omega) h0 (by omega), iI_nI (Int.ediv_nonneg ha.1 (by omega))]
  congr 1
  apply Int.ofNat.inj
  show ((a.toNat / b.toNat : Nat) : Int) = ((a / b).toNat : Int)
  rw [Int.natCast_ediv, Int.toNat_of_nonneg ha.1, Int.toNat_of_nonneg (by omega : 0 ≤ b), Int.toNat_of_nonneg (Int.ediv_nonneg ha.1 (by omega))]
theorem iI_rem {a b : Int} (ha : 0 ≤ a ∧ a ≤ 2147483647) (hb : 0 < b ∧ b ≤ 2147483647) : iI a - iI a / iI b * iI b = iI (a % b) := by
  rw [iI_div ha hb, iI_mul, iI_sub]
  congr 1
  have := Int.mul_ediv_add_emod a b
  rw [Int.mul_comm] at this
  omega
theorem iI_ne0 {b : Int} (hb : 0 < b ∧ b ≤ 2147483647) : ¬ iI b = 0 := by
  rw [← iI_0, iI_inj (by omega) (by omega)]
  omega
def ia (f : Int → Int) : Nat → Int32 := fun j => iI (f (j : Int))
def up (f : Int → Int) (k v : Int) : Int → Int := fun j => if j = k then v else f j
theorem ia_up (f : Int → Int) {i v : Int} (h : 0 ≤ i) (h2 : i < 2147483648) : upd (ia f) (iI i).toNatClampNeg (iI v) = ia (up f i v) := by
  rw [iI_cl h h2]
  funext j
  unfold upd ia up
  by_cases hj : j = i.toNat
  · have hj2 : (j : Int) = i := by omega
    rw [if_pos hj, if_pos hj2]
  · have hj2 : ¬ (j : Int) = i := by omega
    rw [if_neg hj, if_neg hj2]
theorem ia_at (f : Int → Int) {i : Int} (h : 0 ≤ i) (h2 : i < 2147483648) : ia f (iI i).toNatClampNeg = iI (f i) := by
  rw [iI_cl h h2]
  unfold ia
  rw [Int.toNat_of_nonneg h]
theorem zfm {α β : Type} {is : List α} {f : α → Option β} {ws : List β} (h : is.map f = ws.map some) : is.filterMap f = ws := by
  have : is.filterMap f = (is.map f).filterMap id := by simp [List.filterMap_map]
  rw [this, h]
  simp [List.filterMap_map]
theorem nle {a b : Nat} (h : Nat.ble a b = true) : a ≤ b := Nat.le_of_ble_eq_true h
theorem zfk {α : Type} {x : α} {l l' : List α} (h : l = l') : x :: l = x :: l' := by rw [h]
theorem zlc {i : Nat} {a b : Int} {l l' : List (Nat × Value)} (h : a = b) (hl : l = l') : (i, Value.int (iI a)) :: l = (i, Value.int (iI b)) :: l' := by rw [h, hl]
theorem zfc {a b : Int} {l l' : List Value} (h : a = b) (hl : l = l') : Value.int (iI a) :: l = Value.int (iI b) :: l' := by rw [h, hl]
theorem znb {z : Int} (h : z = 0 ∨ z = 1) : narrow .boolean (.int (iI z)) = .int (iI z) := by
  rcases h with rfl | rfl <;> decide
/-- two cells that hold the same -/
def zE1 (q q' : Nat × va_E) : Prop := q'.1 = q.1 ∧ ∀ (D : va_G) (H : Heap), va_at D vwCl q H → va_at D vwCl q' H
theorem zE1.rf {q : Nat × va_E} : zE1 q q := ⟨rfl, fun _ _ h => h⟩
theorem zE1.arr {a N : Nat} {cA : ClassId} {f f' : Int → Int} (h : ∀ j : Int, 0 ≤ j → j < (N : Int) → f j = f' j) : zE1 (a, .inl (cA, N, .inl (ia f))) (a, .inl (cA, N, .inl (ia f'))) := by
  refine ⟨rfl, fun D H hq => ?_⟩
  have e : vp_cell cA (N, .inl (ia f)) = vp_cell cA (N, .inl (ia f')) := by
    simp only [vp_cell_i, arrV]
    congr 1
    apply congrArg
    funext j
    unfold ia
    rw [h j.val (by omega) (by have := j.isLt; omega)]
  show H[a]? = some (vp_cell cA (N, .inl (ia f')))
  rw [← e]
  exact hq
theorem zE1.arrR {a N : Nat} {cA : ClassId} {f f' : Nat → Int32} (h : ∀ j : Nat, j < N → f j = f' j) : zE1 (a, .inl (cA, N, .inl f)) (a, .inl (cA, N, .inl f')) := by
  refine ⟨rfl, fun D H hq => ?_⟩
  have e : vp_cell cA (N, .inl f) = vp_cell cA (N, .inl f') := by
    simp only [vp_cell_i, arrV]
    congr 1
    apply congrArg
    funext j
    rw [h j.val j.isLt]
  show H[a]? = some (vp_cell cA (N, .inl f'))
  rw [← e]
  exact hq
theorem zE1.obj {a ci : Nat} {fs fs' : List Value} (h : fs = fs') : zE1 (a, .inr (ci, fs)) (a, .inr (ci, fs')) := by
  subst h
  exact zE1.rf
def zEq (ws ws' : va_W) : Prop := (∀ (D : va_G) (H : Heap), va_P D vwCl ws H → va_P D vwCl ws' H) ∧ ws'.map Prod.fst = ws.map Prod.fst
theorem zEq.nil : zEq [] [] := ⟨fun _ _ h => h, rfl⟩
theorem zEq.cons {q q' : Nat × va_E} {ws ws' : va_W} (h : zE1 q q') (t : zEq ws ws') : zEq (q :: ws) (q' :: ws') := by
  refine ⟨fun D H hP => ?_, by simp only [List.map_cons, h.1, t.2]⟩
  intro k x hx
  cases k with
  | zero =>
    simp only [List.getElem?_cons_zero, Option.some.injEq] at hx
    subst hx
    exact h.2 D H (hP 0 q rfl)
  | succ k =>
    have : va_P D vwCl ws H := fun i y hy => hP (i + 1) y (by simpa using hy)
    exact t.1 D H this k x (by simpa using hx)
theorem zEq.P {ws ws' : va_W} (h : zEq ws ws') {D : va_G} {H : Heap} (hP : va_P D vwCl ws H) : va_P D vwCl ws' H := h.1 D H hP
theorem zEq.D {ws ws' : va_W} (h : zEq ws ws') {A : Nat → Prop} (hD : va_D A ws) : va_D A ws' := by
  have key : ∀ (i : Nat) (p : Nat × va_E), ws'[i]? = some p → ∃ q, ws[i]? = some q ∧ q.1 = p.1 := by
    intro i p hp
    have h1 : (ws'.map Prod.fst)[i]? = some p.1 := by rw [List.getElem?_map, hp]; rfl
    rw [h.2, List.getElem?_map] at h1
    cases hq : ws[i]? with
    | none => rw [hq] at h1; cases h1
    | some q => rw [hq] at h1; exact ⟨q, rfl, by simpa using h1⟩
  refine ⟨fun i j p q hp hq e => ?_, fun k q hq => ?_⟩
  · obtain ⟨p', hp', ep⟩ := key i p hp
    obtain ⟨q', hq', eq⟩ := key j q hq
    exact hD.1 i j p' q' hp' hq' (by rw [ep, eq, e])
  · obtain ⟨q', hq', eq⟩ := key k q hq
    rw [← eq]
    exact hD.2 k q' hq'
def Bd (f : Int → Int) (N a b : Int) : Prop := ∀ j : Int, 0 ≤ j → j < N → a ≤ f j ∧ f j ≤ b
theorem Bd_up {f : Int → Int} {N a b k v : Int} (h : Bd f N a b) (hv : a ≤ v ∧ v ≤ b) : Bd (up f k v) N a b := by
  intro j h0 h1
  by_cases e : j = k
  · have e2 : up f k v j = v := if_pos e
    rw [e2]
    exact hv
  · have e2 : up f k v j = f j := if_neg e
    rw [e2]
    exact h j h0 h1
theorem up_same (f : Int → Int) (k v : Int) : up f k v k = v := if_pos rfl
theorem up_ne {f : Int → Int} {k v j : Int} (h : ¬ j = k) : up f k v j = f j := if_neg h
theorem iI_min {a b : Int} (ha : -2147483648 ≤ a ∧ a ≤ 2147483647) (hb : -2147483648 ≤ b ∧ b ≤ 2147483647) : (if iI b < iI a then iI b else iI a) = iI (min a b) := by
  by_cases h : b < a
  · rw [if_pos ((iI_lt hb ha).mpr h), Int.min_eq_right (by omega)]
  · rw [if_neg (fun x => h ((iI_lt hb ha).mp x)), Int.min_eq_left (by omega)]
theorem zEq.rf {ws : va_W} : zEq ws ws := ⟨fun _ _ h => h, rfl⟩
theorem zEq.set {ws : va_W} {q : Nat} {x y : Nat × va_E} (h : zE1 x y) : zEq (ws.set q x) (ws.set q y) := by
  induction ws generalizing q with
  | nil => exact zEq.nil
  | cons z ws ih =>
    cases q with
    | zero => exact zEq.cons h zEq.rf
    | succ q => exact zEq.cons zE1.rf ih
theorem iI_max {a b : Int} (ha : -2147483648 ≤ a ∧ a ≤ 2147483647) (hb : -2147483648 ≤ b ∧ b ≤ 2147483647) : (if iI a < iI b then iI b else iI a) = iI (max a b) := by
  by_cases h : a < b
  · rw [if_pos ((iI_lt ha hb).mpr h), Int.max_eq_right (by omega)]
  · rw [if_neg (fun x => h ((iI_lt ha hb).mp x)), Int.max_eq_left (by omega)]
/-- the kinds of arrays: int, long, boolean, int[] -/
def zT (g : Nat → ClassId) : List (ClassId × FieldType) := [(g 0, .int), (g 1, .long), (g 2, .boolean), (g 3, .array .int)]
abbrev ZE : Type := Program × Launch × Env × Room × State × MethodId × Array Value × List Frame × Method × Code × (State → Prop) × (Nat → Prop) × va_G × (Nat → ClassId) × Nat
/-- the walk's state: world, locals, cells, slots, place, stack, over any heap that holds the world -/
def Z (E : ZE) (ws : va_W) (lv : List (Nat × Value)) (k n pc : Nat) (st : List Value) : Prop :=
  match E with
  | (p, l, e, R, s, m, args, below, meth, c, Q, A, D, _, nL) => ∀ (H : Heap) (locs : List Loc) (ls : Array Slot), va_P D vwCl ws H → va_D A ws → va_S A s.heap H locs → lv_has ls nL lv → W p l e R s m args below meth c H locs k n Q (F0 m pc ls st)
/-- what the walk knows all the way -/
def ZC (E : ZE) (cc : ByteArray) (own : String) (Ts : List Cond) (rm : Room) (nL : Nat) (D : va_G) (g : Nat → ClassId) (l : Launch) : Prop :=
  match E with
  | (p, l', _, R, s, m, args, _, _, c, _, A, D', g', nL') => p.tables.exec = Jvm.exec ∧ c.code = cc ∧ c.maxLocals = nL ∧ nL' = nL ∧ R = rm ∧ D' = D ∧ g' = g ∧ l' = l ∧ s.vm.findClass own = some m.cls ∧ (∀ w ∈ Ts, w.before args s = true) ∧ va_K D vwCl (zT g) s ∧ (∀ q, s.heap.size ≤ q → A q)
section ZR
variable {E : ZE} {cc : ByteArray} {own : String} {Ts : List Cond} {rm : Room} {nL : Nat} {D : va_G} {g : Nat → ClassId} {l : Launch} {ws ws' : va_W} {lv lv' : List (Nat × Value)} {k n pc : Nat} {st : List Value}
theorem z_iconst (q : Nat) (hC : ZC E cc own Ts rm nL D g l) {a : Int} (d : decode cc pc = .ok (.iconst a, 1)) (hq : pc + 1 = q)  (kk : Z E ws lv k n q (.int (iI a) :: st)) : Z E ws lv k n pc (st) := by
  subst hq
  obtain ⟨p, l', e, R, s, m, args, below, meth, c, Q, A, D', g', nL'⟩ := E
  obtain ⟨hx, hb, hml, rfl, rfl, rfl, rfl, rfl, hown, hts, hK, hA⟩ := hC
  intro H locs ls hP hD hS hl
  exact lv_iconst hx hb d rfl (kk H locs ls hP hD hS hl)
theorem z_bipush (q : Nat) (hC : ZC E cc own Ts rm nL D g l) {a : Int} (d : decode cc pc = .ok (.bipush a, 2)) (hv : (Int8.ofInt a).toInt32 = iI a) (hq : pc + 2 = q) (kk : Z E ws lv k n q (.int (iI a) :: st)) : Z E ws lv k n pc (st) := by
  subst hq
  obtain ⟨p, l', e, R, s, m, args, below, meth, c, Q, A, D', g', nL'⟩ := E
  obtain ⟨hx, hb, hml, rfl, rfl, rfl, rfl, rfl, hown, hts, hK, hA⟩ := hC
  intro H locs ls hP hD hS hl
  exact lv_bipush hx hb d hv (kk H locs ls hP hD hS hl)
theorem z_iloadn (q : Nat) (hC : ZC E cc own Ts rm nL D g l) (t : Nat) {kf : Fin 4} {i : Nat} {x : Int32} (d : decode cc pc = .ok (.iload_n kf, 1)) (hq : pc + 1 = q) (hi : (kf : Nat) = i) (hk : lv[t]? = some (i, .int x)) (kk : Z E ws lv k n q (.int x :: st)) : Z E ws lv k n pc (st) := by
  subst hq
  obtain ⟨p, l', e, R, s, m, args, below, meth, c, Q, A, D', g', nL'⟩ := E
  obtain ⟨hx, hb, hml, rfl, rfl, rfl, rfl, rfl, hown, hts, hK, hA⟩ := hC
  intro H locs ls hP hD hS hl
  exact lv_iload_n hx hb d hi (lv_at hl t hk) (kk H locs ls hP hD hS hl)
theorem z_iload (q : Nat) (hC : ZC E cc own Ts rm nL D g l) (t : Nat) {i : Nat} {x : Int32} (d : decode cc pc = .ok (.iload i, 2)) (hq : pc + 2 = q) (hk : lv[t]? = some (i, .int x)) (kk : Z E ws lv k n q (.int x :: st)) : Z E ws lv k n pc (st) := by
  subst hq
  obtain ⟨p, l', e, R, s, m, args, below, meth, c, Q, A, D', g', nL'⟩ := E
  obtain ⟨hx, hb, hml, rfl, rfl, rfl, rfl, rfl, hown, hts, hK, hA⟩ := hC
  intro H locs ls hP hD hS hl
  exact lv_iload hx hb d (lv_at hl t hk) (kk H locs ls hP hD hS hl)
theorem z_aloadn (q : Nat) (hC : ZC E cc own Ts rm nL D g l) (t : Nat) {kf : Fin 4} {i x : Nat} (d : decode cc pc = .ok (.aload_n kf, 1)) (hq : pc + 1 = q) (hi : (kf : Nat) = i) (hk : lv[t]? = some (i, .ref x)) (kk : Z E ws lv k n q (.ref x :: st)) : Z E ws lv k n pc (st) := by
  subst hq
  obtain ⟨p, l', e, R, s, m, args, below, meth, c, Q, A, D', g', nL'⟩ := E
  obtain ⟨hx, hb, hml, rfl, rfl, rfl, rfl, rfl, hown, hts, hK, hA⟩ := hC
  intro H locs ls hP hD hS hl
  exact lv_aload_n hx hb d hi (lv_at hl t hk) (kk H locs ls hP hD hS hl)
theorem z_aload (q : Nat) (hC : ZC E cc own Ts rm nL D g l) (t : Nat) {i x : Nat} (d : decode cc pc = .ok (.aload i, 2)) (hq : pc + 2 = q) (hk : lv[t]? = some (i, .ref x)) (kk : Z E ws lv k n q (.ref x :: st)) : Z E ws lv k n pc (st) := by
  subst hq
  obtain ⟨p, l', e, R, s, m, args, below, meth, c, Q, A, D', g', nL'⟩ := E
  obtain ⟨hx, hb, hml, rfl, rfl, rfl, rfl, rfl, hown, hts, hK, hA⟩ := hC
  intro H locs ls hP hD hS hl
  exact lv_aload hx hb d (lv_at hl t hk) (kk H locs ls hP hD hS hl)
theorem z_lloadn (q : Nat) (hC : ZC E cc own Ts rm nL D g l) (t : Nat) {kf : Fin 4} {i : Nat} {x : Int64} (d : decode cc pc = .ok (.lload_n kf, 1)) (hq : pc + 1 = q) (hi : (kf : Nat) = i) (hk : lv[t]? = some (i, .long x)) (kk : Z E ws lv k n q (.long x :: st)) : Z E ws lv k n pc (st) := by
  subst hq
  obtain ⟨p, l', e, R, s, m, args, below, meth, c, Q, A, D', g', nL'⟩ := E
  obtain ⟨hx, hb, hml, rfl, rfl, rfl, rfl, rfl, hown, hts, hK, hA⟩ := hC
  intro H locs ls hP hD hS hl
  exact lv_lload_n hx hb d hi (lv_at hl t hk) (kk H locs ls hP hD hS hl)
theorem z_istoren (q : Nat) (hC : ZC E cc own Ts rm nL D g l) {kf : Fin 4} {i : Nat} {x : Int32} (d : decode cc pc = .ok (.istore_n kf, 1)) (hq : pc + 1 = q) (hi : (kf : Nat) = i) (hn : i < nL) (hl9 : (i, Value.int x) :: lv.filter (fun q => !(q.1 == i) && !(q.1 + 1 == i && q.2.category == 2)) = lv') (kk : Z E ws lv' k n q st) : Z E ws lv k n pc (.int x :: st) := by
  subst hq
  obtain ⟨p, l', e, R, s, m, args, below, meth, c, Q, A, D', g', nL'⟩ := E
  obtain ⟨hx, hb, hml, rfl, rfl, rfl, rfl, rfl, hown, hts, hK, hA⟩ := hC
  intro H locs ls hP hD hS hl
  exact lv_istore_n hx hb d hi hl hn hl9 (fun ls hl => kk H locs ls hP hD hS hl)
theorem z_istore (q : Nat) (hC : ZC E cc own Ts rm nL D g l) {i : Nat} {x : Int32} (d : decode cc pc = .ok (.istore i, 2)) (hq : pc + 2 = q) (hn : i < nL) (hl9 : (i, Value.int x) :: lv.filter (fun q => !(q.1 == i) && !(q.1 + 1 == i && q.2.category == 2)) = lv') (kk : Z E ws lv' k n q st) : Z E ws lv k n pc (.int x :: st) := by
  subst hq
  obtain ⟨p, l', e, R, s, m, args, below, meth, c, Q, A, D', g', nL'⟩ := E
  obtain ⟨hx, hb, hml, rfl, rfl, rfl, rfl, rfl, hown, hts, hK, hA⟩ := hC
  intro H locs ls hP hD hS hl
  exact lv_istore hx hb d hl hn hl9 (fun ls hl => kk H locs ls hP hD hS hl)
theorem z_astoren (q : Nat) (hC : ZC E cc own Ts rm nL D g l) {kf : Fin 4} {i x : Nat} (d : decode cc pc = .ok (.astore_n kf, 1)) (hq : pc + 1 = q) (hi : (kf : Nat) = i) (hn : i < nL) (hl9 : (i, Value.ref x) :: lv.filter (fun q => !(q.1 == i) && !(q.1 + 1 == i && q.2.category == 2)) = lv') (kk : Z E ws lv' k n q st) : Z E ws lv k n pc (.ref x :: st) := by
  subst hq
  obtain ⟨p, l', e, R, s, m, args, below, meth, c, Q, A, D', g', nL'⟩ := E
  obtain ⟨hx, hb, hml, rfl, rfl, rfl, rfl, rfl, hown, hts, hK, hA⟩ := hC
  intro H locs ls hP hD hS hl
  exact lv_astore_n hx hb d hi hl hn hl9 (fun ls hl => kk H locs ls hP hD hS hl)
theorem z_astore (q : Nat) (hC : ZC E cc own Ts rm nL D g l) {i x : Nat} (d : decode cc pc = .ok (.astore i, 2)) (hq : pc + 2 = q) (hn : i < nL) (hl9 : (i, Value.ref x) :: lv.filter (fun q => !(q.1 == i) && !(q.1 + 1 == i && q.2.category == 2)) = lv') (kk : Z E ws lv' k n q st) : Z E ws lv k n pc (.ref x :: st) := by
  subst hq
  obtain ⟨p, l', e, R, s, m, args, below, meth, c, Q, A, D', g', nL'⟩ := E
  obtain ⟨hx, hb, hml, rfl, rfl, rfl, rfl, rfl, hown, hts, hK, hA⟩ := hC
  intro H locs ls hP hD hS hl
  exact lv_astore hx hb d hl hn hl9 (fun ls hl => kk H locs ls hP hD hS hl)
theorem z_lstoren (q : Nat) (hC : ZC E cc own Ts rm nL D g l) {kf : Fin 4} {i : Nat} {x : Int64} (d : decode cc pc = .ok (.lstore_n kf, 1)) (hq : pc + 1 = q) (hi : (kf : Nat) = i) (hn : i + 1 < nL) (hl9 : (i, Value.long x) :: lv.filter (fun q => !(q.1 == i) && (!(q.1 == i + 1) && !(q.1 + 1 == i && q.2.category == 2))) = lv') (kk : Z E ws lv' k n q st) : Z E ws lv k n pc (.long x :: st) := by
  subst hq
  obtain ⟨p, l', e, R, s, m, args, below, meth, c, Q, A, D', g', nL'⟩ := E
  obtain ⟨hx, hb, hml, rfl, rfl, rfl, rfl, rfl, hown, hts, hK, hA⟩ := hC
  intro H locs ls hP hD hS hl
  exact lv_lstore_n hx hb d hi hl hn hl9 (fun ls hl => kk H locs ls hP hD hS hl)
theorem z_iinc (q t : Nat) (hC : ZC E cc own Ts rm nL D g l) {i : Nat} {a b : Int} (d : decode cc pc = .ok (.iinc i b, 3)) (hq : pc + 3 = q) (hk : lv[t]? = some (i, .int (iI a))) (hn : i < nL) (hl9 : (i, Value.int (iI (a + b))) :: lv.filter (fun q => !(q.1 == i) && !(q.1 + 1 == i && q.2.category == 2)) = lv') (kk : Z E ws lv' k n q st) : Z E ws lv k n pc st := by
  subst hq
  obtain ⟨p, l', e, R, s, m, args, below, meth, c, Q, A, D', g', nL'⟩ := E
  obtain ⟨hx, hb, hml, rfl, rfl, rfl, rfl, rfl, hown, hts, hK, hA⟩ := hC
  intro H locs ls hP hD hS hl
  exact lv_iinc hx hb d hl hk (iI_add a b) hn hl9 (fun ls hl => kk H locs ls hP hD hS hl)
theorem z_dup (q : Nat) (hC : ZC E cc own Ts rm nL D g l) {v : Value} (d : decode cc pc = .ok (.dup, 1)) (hq : pc + 1 = q) (hv : v.category = 1) (kk : Z E ws lv k n q (v :: v :: st)) : Z E ws lv k n pc (v :: st) := by
  subst hq
  obtain ⟨p, l', e, R, s, m, args, below, meth, c, Q, A, D', g', nL'⟩ := E
  obtain ⟨hx, hb, hml, rfl, rfl, rfl, rfl, rfl, hown, hts, hK, hA⟩ := hC
  intro H locs ls hP hD hS hl
  exact lv_dup hx hb d hv (kk H locs ls hP hD hS hl)
theorem z_pop (q : Nat) (hC : ZC E cc own Ts rm nL D g l) {v : Value} (d : decode cc pc = .ok (.pop, 1)) (hq : pc + 1 = q) (hv : v.category = 1) (kk : Z E ws lv k n q (st)) : Z E ws lv k n pc (v :: st) := by
  subst hq
  obtain ⟨p, l', e, R, s, m, args, below, meth, c, Q, A, D', g', nL'⟩ := E
  obtain ⟨hx, hb, hml, rfl, rfl, rfl, rfl, rfl, hown, hts, hK, hA⟩ := hC
  intro H locs ls hP hD hS hl
  exact lv_pop hx hb d hv (kk H locs ls hP hD hS hl)
theorem z_dup2 (q : Nat) (hC : ZC E cc own Ts rm nL D g l) {v v2 : Value} (d : decode cc pc = .ok (.dup2, 1)) (hq : pc + 1 = q) (hv : v.category = 1) (hv2 : v2.category = 1) (kk : Z E ws lv k n q (v :: v2 :: v :: v2 :: st)) : Z E ws lv k n pc (v :: v2 :: st) := by
  subst hq
  obtain ⟨p, l', e, R, s, m, args, below, meth, c, Q, A, D', g', nL'⟩ := E
  obtain ⟨hx, hb, hml, rfl, rfl, rfl, rfl, rfl, hown, hts, hK, hA⟩ := hC
  intro H locs ls hP hD hS hl
  exact lv_dup2_11 hx hb d hv hv2 (kk H locs ls hP hD hS hl)
theorem z_iadd (q : Nat) (hC : ZC E cc own Ts rm nL D g l) {a b : Int} (d : decode cc pc = .ok (.iadd, 1)) (hq : pc + 1 = q) (kk : Z E ws lv k n q (.int (iI (a + b)) :: st)) : Z E ws lv k n pc (.int (iI b) :: .int (iI a) :: st) := by
  subst hq
  obtain ⟨p, l', e, R, s, m, args, below, meth, c, Q, A, D', g', nL'⟩ := E
  obtain ⟨hx, hb, hml, rfl, rfl, rfl, rfl, rfl, hown, hts, hK, hA⟩ := hC
  intro H locs ls hP hD hS hl
  exact lv_iadd hx hb d (by rw [iI_add]; exact kk H locs ls hP hD hS hl)
theorem z_isub (q : Nat) (hC : ZC E cc own Ts rm nL D g l) {a b : Int} (d : decode cc pc = .ok (.isub, 1)) (hq : pc + 1 = q) (kk : Z E ws lv k n q (.int (iI (a - b)) :: st)) : Z E ws lv k n pc (.int (iI b) :: .int (iI a) :: st) := by
  subst hq
  obtain ⟨p, l', e, R, s, m, args, below, meth, c, Q, A, D', g', nL'⟩ := E
  obtain ⟨hx, hb, hml, rfl, rfl, rfl, rfl, rfl, hown, hts, hK, hA⟩ := hC
  intro H locs ls hP hD hS hl
  exact lv_isub hx hb d (by rw [iI_sub]; exact kk H locs ls hP hD hS hl)
theorem z_imul (q : Nat) (hC : ZC E cc own Ts rm nL D g l) {a b : Int} (d : decode cc pc = .ok (.imul, 1)) (hq : pc + 1 = q) (kk : Z E ws lv k n q (.int (iI (a * b)) :: st)) : Z E ws lv k n pc (.int (iI b) :: .int (iI a) :: st) := by
  subst hq
  obtain ⟨p, l', e, R, s, m, args, below, meth, c, Q, A, D', g', nL'⟩ := E
  obtain ⟨hx, hb, hml, rfl, rfl, rfl, rfl, rfl, hown, hts, hK, hA⟩ := hC
  intro H locs ls hP hD hS hl
  exact lv_imul hx hb d (by rw [iI_mul]; exact kk H locs ls hP hD hS hl)
theorem z_idiv (q : Nat) (hC : ZC E cc own Ts rm nL D g l) {a b : Int} (d : decode cc pc = .ok (.idiv, 1)) (hq : pc + 1 = q) (ha : 0 ≤ a ∧ a ≤ 2147483647) (hb0 : 0 < b ∧ b ≤ 2147483647) (kk : Z E ws lv k n q (.int (iI (a / b)) :: st)) : Z E ws lv k n pc (.int (iI b) :: .int (iI a) :: st) := by
  subst hq
  obtain ⟨p, l', e, R, s, m, args, below, meth, c, Q, A, D', g', nL'⟩ := E
  obtain ⟨hx, hb, hml, rfl, rfl, rfl, rfl, rfl, hown, hts, hK, hA⟩ := hC
  intro H locs ls hP hD hS hl
  exact lv_idiv hx hb d (iI_ne0 hb0) (by rw [iI_div ha hb0]; exact kk H locs ls hP hD hS hl)
theorem z_irem (q : Nat) (hC : ZC E cc own Ts rm nL D g l) {a b : Int} (d : decode cc pc = .ok (.irem, 1)) (hq : pc + 1 = q) (ha : 0 ≤ a ∧ a ≤ 2147483647) (hb0 : 0 < b ∧ b ≤ 2147483647) (kk : Z E ws lv k n q (.int (iI (a % b)) :: st)) : Z E ws lv k n pc (.int (iI b) :: .int (iI a) :: st) := by
  subst hq
  obtain ⟨p, l', e, R, s, m, args, below, meth, c, Q, A, D', g', nL'⟩ := E
  obtain ⟨hx, hb, hml, rfl, rfl, rfl, rfl, rfl, hown, hts, hK, hA⟩ := hC
  intro H locs ls hP hD hS hl
  exact lv_irem hx hb d (iI_ne0 hb0) (by rw [iI_rem ha hb0]; exact kk H locs ls hP hD hS hl)
theorem z_ineg (q : Nat) (hC : ZC E cc own Ts rm nL D g l) {a : Int} (d : decode cc pc = .ok (.ineg, 1)) (hq : pc + 1 = q) (kk : Z E ws lv k n q (.int (iI (-a)) :: st)) : Z E ws lv k n pc (.int (iI a) :: st) := by
  subst hq
  obtain ⟨p, l', e, R, s, m, args, below, meth, c, Q, A, D', g', nL'⟩ := E
  obtain ⟨hx, hb, hml, rfl, rfl, rfl, rfl, rfl, hown, hts, hK, hA⟩ := hC
  intro H locs ls hP hD hS hl
  exact lv_ineg hx hb d (by rw [iI_neg]; exact kk H locs ls hP hD hS hl)
theorem z_goto (t : Nat) (hC : ZC E cc own Ts rm nL D g l) {off : Int} (d : decode cc pc = .ok (.goto off, 3)) (ht : (pc : Int) + off = (t : Int)) (kk : Z E ws lv k n t st) : Z E ws lv k n pc st := by
  obtain ⟨p, l', e, R, s, m, args, below, meth, c, Q, A, D', g', nL'⟩ := E
  obtain ⟨hx, hb, hml, rfl, rfl, rfl, rfl, rfl, hown, hts, hK, hA⟩ := hC
  intro H locs ls hP hD hS hl
  exact lv_goto hx hb d ht (kk H locs ls hP hD hS hl)
theorem z_icmp_eq (t q : Nat) (hC : ZC E cc own Ts rm nL D g l) {a b off : Int} (d : decode cc pc = .ok (.if_icmp .eq off, 3)) (ht : (pc : Int) + off = (t : Int)) (hq : pc + 3 = q) (ha : -2147483648 ≤ a ∧ a ≤ 2147483647) (hb : -2147483648 ≤ b ∧ b ≤ 2147483647) (kt : a = b → Z E ws lv k n t st) (kf : ¬ a = b → Z E ws lv k n q st) : Z E ws lv k n pc (.int (iI b) :: .int (iI a) :: st) := by
  subst hq
  obtain ⟨p, l', e, R, s, m, args, below, meth, c, Q, A, D', g', nL'⟩ := E
  obtain ⟨hx, hb9, hml, rfl, rfl, rfl, rfl, rfl, hown, hts, hK, hA⟩ := hC
  intro H locs ls hP hD hS hl
  exact lv_icmp_eq hx hb9 d ht (fun h => kt ((iI_inj ha hb).mp h) H locs ls hP hD hS hl) (fun h => kf ((not_congr (iI_inj ha hb)).mp h) H locs ls hP hD hS hl)
theorem z_if_eq (t q : Nat) (hC : ZC E cc own Ts rm nL D g l) {a off : Int} (d : decode cc pc = .ok (.ifCond .eq off, 3)) (ht : (pc : Int) + off = (t : Int)) (hq : pc + 3 = q) (ha : -2147483648 ≤ a ∧ a ≤ 2147483647) (kt : a = 0 → Z E ws lv k n t st) (kf : ¬ a = 0 → Z E ws lv k n q st) : Z E ws lv k n pc (.int (iI a) :: st) := by
  subst hq
  obtain ⟨p, l', e, R, s, m, args, below, meth, c, Q, A, D', g', nL'⟩ := E
  obtain ⟨hx, hb, hml, rfl, rfl, rfl, rfl, rfl, hown, hts, hK, hA⟩ := hC
  intro H locs ls hP hD hS hl
  exact lv_if_eq hx hb d ht (fun h => kt ((iI_inj ha (by omega : -2147483648 ≤ (0 : Int) ∧ (0 : Int) ≤ 2147483647)).mp h) H locs ls hP hD hS hl) (fun h => kf ((not_congr (iI_inj ha (by omega : -2147483648 ≤ (0 : Int) ∧ (0 : Int) ≤ 2147483647))).mp h) H locs ls hP hD hS hl)
theorem z_icmp_ne (t q : Nat) (hC : ZC E cc own Ts rm nL D g l) {a b off : Int} (d : decode cc pc = .ok (.if_icmp .ne off, 3)) (ht : (pc : Int) + off = (t : Int)) (hq : pc + 3 = q) (ha : -2147483648 ≤ a ∧ a ≤ 2147483647) (hb : -2147483648 ≤ b ∧ b ≤ 2147483647) (kt : ¬ a = b → Z E ws lv k n t st) (kf : a = b → Z E ws lv k n q st) : Z E ws lv k n pc (.int (iI b) :: .int (iI a) :: st) := by
  subst hq
  obtain ⟨p, l', e, R, s, m, args, below, meth, c, Q, A, D', g', nL'⟩ := E
  obtain ⟨hx, hb9, hml, rfl, rfl, rfl, rfl, rfl, hown, hts, hK, hA⟩ := hC
  intro H locs ls hP hD hS hl
  exact lv_icmp_ne hx hb9 d ht (fun h => kt ((not_congr (iI_inj ha hb)).mp h) H locs ls hP hD hS hl) (fun h => kf ((iI_inj ha hb).mp h) H locs ls hP hD hS hl)
theorem z_if_ne (t q : Nat) (hC : ZC E cc own Ts rm nL D g l) {a off : Int} (d : decode cc pc = .ok (.ifCond .ne off, 3)) (ht : (pc : Int) + off = (t : Int)) (hq : pc + 3 = q) (ha : -2147483648 ≤ a ∧ a ≤ 2147483647) (kt : ¬ a = 0 → Z E ws lv k n t st) (kf : a = 0 → Z E ws lv k n q st) : Z E ws lv k n pc (.int (iI a) :: st) := by
  subst hq
  obtain ⟨p, l', e, R, s, m, args, below, meth, c, Q, A, D', g', nL'⟩ := E
  obtain ⟨hx, hb, hml, rfl, rfl, rfl, rfl, rfl, hown, hts, hK, hA⟩ := hC
  intro H locs ls hP hD hS hl
  exact lv_if_ne hx hb d ht (fun h => kt ((not_congr (iI_inj ha (by omega : -2147483648 ≤ (0 : Int) ∧ (0 : Int) ≤ 2147483647))).mp h) H locs ls hP hD hS hl) (fun h => kf ((iI_inj ha (by omega : -2147483648 ≤ (0 : Int) ∧ (0 : Int) ≤ 2147483647)).mp h) H locs ls hP hD hS hl)
theorem z_icmp_lt (t q : Nat) (hC : ZC E cc own Ts rm nL D g l) {a b off : Int} (d : decode cc pc = .ok (.if_icmp .lt off, 3)) (ht : (pc : Int) + off = (t : Int)) (hq : pc + 3 = q) (ha : -2147483648 ≤ a ∧ a ≤ 2147483647) (hb : -2147483648 ≤ b ∧ b ≤ 2147483647) (kt : a < b → Z E ws lv k n t st) (kf : ¬ a < b → Z E ws lv k n q st) : Z E ws lv k n pc (.int (iI b) :: .int (iI a) :: st) := by
  subst hq
  obtain ⟨p, l', e, R, s, m, args, below, meth, c, Q, A, D', g', nL'⟩ := E
  obtain ⟨hx, hb9, hml, rfl, rfl, rfl, rfl, rfl, hown, hts, hK, hA⟩ := hC
  intro H locs ls hP hD hS hl
  exact lv_icmp_lt hx hb9 d ht (fun h => kt ((iI_lt ha hb).mp h) H locs ls hP hD hS hl) (fun h => kf ((not_congr (iI_lt ha hb)).mp h) H locs ls hP hD hS hl)
theorem z_if_lt (t q : Nat) (hC : ZC E cc own Ts rm nL D g l) {a off : Int} (d : decode cc pc = .ok (.ifCond .lt off, 3)) (ht : (pc : Int) + off = (t : Int)) (hq : pc + 3 = q) (ha : -2147483648 ≤ a ∧ a ≤ 2147483647) (kt : a < 0 → Z E ws lv k n t st) (kf : ¬ a < 0 → Z E ws lv k n q st) : Z E ws lv k n pc (.int (iI a) :: st) := by
  subst hq
  obtain ⟨p, l', e, R, s, m, args, below, meth, c, Q, A, D', g', nL'⟩ := E
  obtain ⟨hx, hb, hml, rfl, rfl, rfl, rfl, rfl, hown, hts, hK, hA⟩ := hC
  intro H locs ls hP hD hS hl
  exact lv_if_lt hx hb d ht (fun h => kt ((iI_lt ha (by omega : -2147483648 ≤ (0 : Int) ∧ (0 : Int) ≤ 2147483647)).mp h) H locs ls hP hD hS hl) (fun h => kf ((not_congr (iI_lt ha (by omega : -2147483648 ≤ (0 : Int) ∧ (0 : Int) ≤ 2147483647))).mp h) H locs ls hP hD hS hl)
theorem z_icmp_ge (t q : Nat) (hC : ZC E cc own Ts rm nL D g l) {a b off : Int} (d : decode cc pc = .ok (.if_icmp .ge off, 3)) (ht : (pc : Int) + off = (t : Int)) (hq : pc + 3 = q) (ha : -2147483648 ≤ a ∧ a ≤ 2147483647) (hb : -2147483648 ≤ b ∧ b ≤ 2147483647) (kt : b ≤ a → Z E ws lv k n t st) (kf : ¬ b ≤ a → Z E ws lv k n q st) : Z E ws lv k n pc (.int (iI b) :: .int (iI a) :: st) := by
  subst hq
  obtain ⟨p, l', e, R, s, m, args, below, meth, c, Q, A, D', g', nL'⟩ := E
  obtain ⟨hx, hb9, hml, rfl, rfl, rfl, rfl, rfl, hown, hts, hK, hA⟩ := hC
  intro H locs ls hP hD hS hl
  exact lv_icmp_ge hx hb9 d ht (fun h => kt ((iI_le hb ha).mp h) H locs ls hP hD hS hl) (fun h => kf ((not_congr (iI_le hb ha)).mp h) H locs ls hP hD hS hl)
theorem z_if_ge (t q : Nat) (hC : ZC E cc own Ts rm nL D g l) {a off : Int} (d : decode cc pc = .ok (.ifCond .ge off, 3)) (ht : (pc : Int) + off = (t : Int)) (hq : pc + 3 = q) (ha : -2147483648 ≤ a ∧ a ≤ 2147483647) (kt : 0 ≤ a → Z E ws lv k n t st) (kf : ¬ 0 ≤ a → Z E ws lv k n q st) : Z E ws lv k n pc (.int (iI a) :: st) := by
  subst hq
  obtain ⟨p, l', e, R, s, m, args, below, meth, c, Q, A, D', g', nL'⟩ := E
  obtain ⟨hx, hb, hml, rfl, rfl, rfl, rfl, rfl, hown, hts, hK, hA⟩ := hC
  intro H locs ls hP hD hS hl
  exact lv_if_ge hx hb d ht (fun h => kt ((iI_le (by omega : -2147483648 ≤ (0 : Int) ∧ (0 : Int) ≤ 2147483647) ha).mp h) H locs ls hP hD hS hl) (fun h => kf ((not_congr (iI_le (by omega : -2147483648 ≤ (0 : Int) ∧ (0 : Int) ≤ 2147483647) ha)).mp h) H locs ls hP hD hS hl)
theorem z_icmp_gt (t q : Nat) (hC : ZC E cc own Ts rm nL D g l) {a b off : Int} (d : decode cc pc = .ok (.if_icmp .gt off, 3)) (ht : (pc : Int) + off = (t : Int)) (hq : pc + 3 = q) (ha : -2147483648 ≤ a ∧ a ≤ 2147483647) (hb : -2147483648 ≤ b ∧ b ≤ 2147483647) (kt : b < a → Z E ws lv k n t st) (kf : ¬ b < a → Z E ws lv k n q st) : Z E ws lv k n pc (.int (iI b) :: .int (iI a) :: st) := by
  subst hq
  obtain ⟨p, l', e, R, s, m, args, below, meth, c, Q, A, D', g', nL'⟩ := E
  obtain ⟨hx, hb9, hml, rfl, rfl, rfl, rfl, rfl, hown, hts, hK, hA⟩ := hC
  intro H locs ls hP hD hS hl
  exact lv_icmp_gt hx hb9 d ht (fun h => kt ((iI_lt hb ha).mp h) H locs ls hP hD hS hl) (fun h => kf ((not_congr (iI_lt hb ha)).mp h) H locs ls hP hD hS hl)
theorem z_if_gt (t q : Nat) (hC : ZC E cc own Ts rm nL D g l) {a off : Int} (d : decode cc pc = .ok (.ifCond .gt off, 3)) (ht : (pc : Int) + off = (t : Int)) (hq : pc + 3 = q) (ha : -2147483648 ≤ a ∧ a ≤ 2147483647) (kt : 0 < a → Z E ws lv k n t st) (kf : ¬ 0 < a → Z E ws lv k n q st) : Z E ws lv k n pc (.int (iI a) :: st) := by
  subst hq
  obtain ⟨p, l', e, R, s, m, args, below, meth, c, Q, A, D', g', nL'⟩ := E
  obtain ⟨hx, hb, hml, rfl, rfl, rfl, rfl, rfl, hown, hts, hK, hA⟩ := hC
  intro H locs ls hP hD hS hl
  exact lv_if_gt hx hb d ht (fun h => kt ((iI_lt (by omega : -2147483648 ≤ (0 : Int) ∧ (0 : Int) ≤ 2147483647) ha).mp h) H locs ls hP hD hS hl) (fun h => kf ((not_congr (iI_lt (by omega : -2147483648 ≤ (0 : Int) ∧ (0 : Int) ≤ 2147483647) ha)).mp h) H locs ls hP hD hS hl)
theorem z_icmp_le (t q : Nat) (hC : ZC E cc own Ts rm nL D g l) {a b off : Int} (d : decode cc pc = .ok (.if_icmp .le off, 3)) (ht : (pc : Int) + off = (t : Int)) (hq : pc + 3 = q) (ha : -2147483648 ≤ a ∧ a ≤ 2147483647) (hb : -2147483648 ≤ b ∧ b ≤ 2147483647) (kt : a ≤ b → Z E ws lv k n t st) (kf : ¬ a ≤ b → Z E ws lv k n q st) : Z E ws lv k n pc (.int (iI b) :: .int (iI a) :: st) := by
  subst hq
  obtain ⟨p, l', e, R, s, m, args, below, meth, c, Q, A, D', g', nL'⟩ := E
  obtain ⟨hx, hb9, hml, rfl, rfl, rfl, rfl, rfl, hown, hts, hK, hA⟩ := hC
  intro H locs ls hP hD hS hl
  exact lv_icmp_le hx hb9 d ht (fun h => kt ((iI_le ha hb).mp h) H locs ls hP hD hS hl) (fun h => kf ((not_congr (iI_le ha hb)).mp h) H locs ls hP hD hS hl)
theorem z_if_le (t q : Nat) (hC : ZC E cc own Ts rm nL D g l) {a off : Int} (d : decode cc pc = .ok (.ifCond .le off, 3)) (ht : (pc : Int) + off = (t : Int)) (hq : pc + 3 = q) (ha : -2147483648 ≤ a ∧ a ≤ 2147483647) (kt : a ≤ 0 → Z E ws lv k n t st) (kf : ¬ a ≤ 0 → Z E ws lv k n q st) : Z E ws lv k n pc (.int (iI a) :: st) := by
  subst hq
  obtain ⟨p, l', e, R, s, m, args, below, meth, c, Q, A, D', g', nL'⟩ := E
  obtain ⟨hx, hb, hml, rfl, rfl, rfl, rfl, rfl, hown, hts, hK, hA⟩ := hC
  intro H locs ls hP hD hS hl
  exact lv_if_le hx hb d ht (fun h => kt ((iI_le ha (by omega : -2147483648 ≤ (0 : Int) ∧ (0 : Int) ≤ 2147483647)).mp h) H locs ls hP hD hS hl) (fun h => kf ((not_congr (iI_le ha (by omega : -2147483648 ≤ (0 : Int) ∧ (0 : Int) ≤ 2147483647))).mp h) H locs ls hP hD hS hl)
theorem z_get (q q0 kf : Nat) (hC : ZC E cc own Ts rm nL D g l) {C : String} {T : u_T} {N ci index a : Nat} {fs : List Value} {v : Value} (hin : ∀ w ∈ u_ws C T N, w ∈ Ts) (hL : Cond.fieldLink own index (T kf).1 (T kf).2.1 (T kf).2.2.1 ∈ Ts) (d : decode cc pc = .ok (.getfield index, 3)) (hq : pc + 3 = q) (he : ws[q0]? = some (a, .inr (ci, fs))) (hc : vwCl[ci]? = some (C, T, N)) (hk : kf < N) (hv : fs[kf]? = some v) (kk : Z E ws lv k n q (v :: st)) : Z E ws lv k n pc (.ref a :: st) := by
  subst hq
  obtain ⟨p, l', e, R, s, m, args, below, meth, c, Q, A, D', g', nL'⟩ := E
  obtain ⟨hx, hb, hml, rfl, rfl, rfl, rfl, rfl, hown, hts, hK, hA⟩ := hC
  intro H locs ls hP hD hS hl
  exact va_get hx hb hts hin hown hK hP q0 he hc kf hk (hts _ hL) (fun _ h9 => h9) hv d (kk H locs ls hP hD hS hl)
theorem z_put (q q0 kf : Nat) (hC : ZC E cc own Ts rm nL D g l) {C : String} {T : u_T} {N ci index a : Nat} {fs : List Value} {v : Value} {ty : FieldType} (ty0 : Nat → FieldType) (hty : ∀ k, k < N → parseFieldDescriptor (T k).2.2.1 = some (ty0 k)) (hnm : ∀ a, a < N → ∀ b, b < N → a ≠ b → (T a).2.1 ≠ (T b).2.1) (hin : ∀ w ∈ u_ws C T N, w ∈ Ts) (hL : Cond.fieldLink own index (T kf).1 (T kf).2.1 (T kf).2.2.1 ∈ Ts) (d : decode cc pc = .ok (.putfield index, 3)) (hq : pc + 3 = q) (he : ws[q0]? = some (a, .inr (ci, fs))) (hc : vwCl[ci]? = some (C, T, N)) (hk : kf < N) (hfin : (T kf).2.2.2 = false) (hd : parseFieldDescriptor (T kf).2.2.1 = some ty) (hn : narrow ty v = v) (hfit : fits ty v = true) (hlen : kf < fs.length) (hw : ws.set q0 (a, .inr (ci, fs.set kf v)) = ws') (kk : Z E ws' lv k n q st) : Z E ws lv k n pc (v :: .ref a :: st) := by
  subst hq; subst hw
  obtain ⟨p, l', e, R, s, m, args, below, meth, c, Q, A, D', g', nL'⟩ := E
  obtain ⟨hx, hb, hml, rfl, rfl, rfl, rfl, rfl, hown, hts, hK, hA⟩ := hC
  intro H locs ls hP hD hS hl
  exact va_put hx hb hts hin ty0 hty hnm hown hK hP hD hS q0 he hc kf hk (hts _ hL) (fun _ h9 => h9) hfin hd hn hfit hlen d (fun H locs hP hD hS => kk H locs ls hP hD hS hl)
theorem z_iald (q q0 : Nat) (hC : ZC E cc own Ts rm nL D g l) {a N : Nat} {f : Int → Int} {i : Int} (d : decode cc pc = .ok (.iaload, 1)) (hq : pc + 1 = q) (he : ws[q0]? = some (a, .inl (g 0, N, .inl (ia f)))) (hN : N < 2147483648) (hi : 0 ≤ i ∧ i < (N : Int)) (kk : Z E ws lv k n q (.int (iI (f i)) :: st)) : Z E ws lv k n pc (.int (iI i) :: .ref a :: st) := by
  subst hq
  obtain ⟨p, l', e, R, s, m, args, below, meth, c, Q, A, D', g', nL'⟩ := E
  obtain ⟨hx, hb, hml, rfl, rfl, rfl, rfl, rfl, hown, hts, hK, hA⟩ := hC
  intro H locs ls hP hD hS hl
  exact va_iald hx hb hK hP q0 0 he rfl (iI_in hi.1 hi.2 hN) d (by rw [ia_at f hi.1 (by omega)]; exact kk H locs ls hP hD hS hl)
theorem z_iast (q q0 : Nat) (hC : ZC E cc own Ts rm nL D g l) {a N : Nat} {f : Int → Int} {i v : Int} (d : decode cc pc = .ok (.iastore, 1)) (hq : pc + 1 = q) (he : ws[q0]? = some (a, .inl (g 0, N, .inl (ia f)))) (hN : N < 2147483648) (hi : 0 ≤ i ∧ i < (N : Int)) (hw : ws.set q0 (a, .inl (g 0, N, .inl (ia (up f i v)))) = ws') (kk : Z E ws' lv k n q st) : Z E ws lv k n pc (.int (iI v) :: .int (iI i) :: .ref a :: st) := by
  subst hq; subst hw
  obtain ⟨p, l', e, R, s, m, args, below, meth, c, Q, A, D', g', nL'⟩ := E
  obtain ⟨hx, hb, hml, rfl, rfl, rfl, rfl, rfl, hown, hts, hK, hA⟩ := hC
  intro H locs ls hP hD hS hl
  exact va_iast hx hb hK hP hD hS q0 0 he rfl (iI_in hi.1 hi.2 hN) d (fun H locs hP hD hS => by rw [ia_up f hi.1 (by omega)] at hP hD; exact kk H locs ls hP hD hS hl)
theorem z_alen (q q0 : Nat) (hC : ZC E cc own Ts rm nL D g l) {a N : Nat} {f : Nat → Int32} (d : decode cc pc = .ok (.arraylength, 1)) (hq : pc + 1 = q) (he : ws[q0]? = some (a, .inl (g 0, N, .inl f))) (hv : Int32.ofNat N = iI (N : Int)) (kk : Z E ws lv k n q (.int (iI (N : Int)) :: st)) : Z E ws lv k n pc (.ref a :: st) := by
  subst hq
  obtain ⟨p, l', e, R, s, m, args, below, meth, c, Q, A, D', g', nL'⟩ := E
  obtain ⟨hx, hb, hml, rfl, rfl, rfl, rfl, rfl, hown, hts, hK, hA⟩ := hC
  intro H locs ls hP hD hS hl
  exact va_alen hx hb hK hP q0 0 he rfl hv d (kk H locs ls hP hD hS hl)
theorem z_mmax (q : Nat) (hC : ZC E cc own Ts rm nL D g l) {a b : Int} {index : Nat} (h1 : Cond.methodLink own index Lib.Math.max.name ∈ Ts) (h2 : Cond.static Lib.Math.max.name ∈ Ts) (h3 : Cond.initialized "java/lang/Math" ∈ Ts) (h4 : Cond.code Lib.Math.max.name Lib.Math.max.code 2 (some .int) ∈ Ts) (hf : 1 ≤ rm.frames) (hlo : (st.map fun v => v.category).sum + 13 ≤ rm.locals) (hk : k ≤ rm.cells) (hn : n ≤ rm.slots) (ha : -2147483648 ≤ a ∧ a ≤ 2147483647) (hb : -2147483648 ≤ b ∧ b ≤ 2147483647) (d : decode cc pc = .ok (.invokestatic index, 3)) (hq : pc + 3 = q) (kk : Z E ws lv k n q (.int (iI (max a b)) :: st)) : Z E ws lv k n pc (.int (iI b) :: .int (iI a) :: st) := by
  subst hq
  obtain ⟨p, l', e, R, s, m, args, below, meth, c, Q, A, D', g', nL'⟩ := E
  obtain ⟨hx, hb9, hml, rfl, rfl, rfl, rfl, rfl, hown, hts, hK, hA⟩ := hC
  intro H locs ls hP hD hS hl
  exact va_mmax hx hb9 (hml.trans hl.1.symm) hown (hts _ h1) (hts _ h2) (hts _ h3) (hts _ h4) hf hlo hk hn d (by rw [iI_max ha hb]; exact kk H locs ls hP hD hS hl)
theorem z_mmin (q : Nat) (hC : ZC E cc own Ts rm nL D g l) {a b : Int} {index : Nat} (h1 : Cond.methodLink own index Lib.Math.min.name ∈ Ts) (h2 : Cond.static Lib.Math.min.name ∈ Ts) (h3 : Cond.initialized "java/lang/Math" ∈ Ts) (h4 : Cond.code Lib.Math.min.name Lib.Math.min.code 2 (some .int) ∈ Ts) (hf : 1 ≤ rm.frames) (hlo : (st.map fun v => v.category).sum + 13 ≤ rm.locals) (hk : k ≤ rm.cells) (hn : n ≤ rm.slots) (ha : -2147483648 ≤ a ∧ a ≤ 2147483647) (hb : -2147483648 ≤ b ∧ b ≤ 2147483647) (d : decode cc pc = .ok (.invokestatic index, 3)) (hq : pc + 3 = q) (kk : Z E ws lv k n q (.int (iI (min a b)) :: st)) : Z E ws lv k n pc (.int (iI b) :: .int (iI a) :: st) := by
  subst hq
  obtain ⟨p, l', e, R, s, m, args, below, meth, c, Q, A, D', g', nL'⟩ := E
  obtain ⟨hx, hb9, hml, rfl, rfl, rfl, rfl, rfl, hown, hts, hK, hA⟩ := hC
  intro H locs ls hP hD hS hl
  exact va_mmin hx hb9 (hml.trans hl.1.symm) hown (hts _ h1) (hts _ h2) (hts _ h3) (hts _ h4) hf hlo hk hn d (by rw [iI_min ha hb]; exact kk H locs ls hP hD hS hl)
theorem z_copy (q q0 q1 : Nat) (hC : ZC E cc own Ts rm nL D g l) {index a0 a N : Nat} {f f' : Int → Int} (h1 : Cond.methodLink own index arraycopyName ∈ Ts) (h2 : Cond.native arraycopyName ∈ Ts) (h3 : Cond.static arraycopyName ∈ Ts) (h4 : Cond.initialized "java/lang/System" ∈ Ts) (hf : 1 ≤ rm.frames) (hlo : (st.map fun v => v.category).sum + (nativeFrameWords "java/lang/System" "arraycopy" 5 + 11) ≤ rm.locals) (d : decode cc pc = .ok (.invokestatic index, 3)) (hq : pc + 3 = q) (he0 : ws[q0]? = some (a0, .inl (g 0, N, .inl (ia f)))) (he1 : ws[q1]? = some (a, .inl (g 0, N, .inl (ia f')))) (hN : N < 2147483648) (hw : ws.set q1 (a, .inl (g 0, N, .inl (ia f))) = ws') (kk : Z E ws' lv k n q st) : Z E ws lv k n pc (.int (iI (N : Int)) :: .int (iI 0) :: .ref a :: .int (iI 0) :: .ref a0 :: st) := by
  subst hq; subst hw
  obtain ⟨p, l', e, R, s, m, args, below, meth, c, Q, A, D', g', nL'⟩ := E
  obtain ⟨hx, hb, hml, rfl, rfl, rfl, rfl, rfl, hown, hts, hK, hA⟩ := hC
  intro H locs ls hP hD hS hl
  have eN : (iI (N : Int)).toNatClampNeg = N := by rw [iI_cl (by omega) (by omega)]; omega
  have e0 : (iI 0).toNatClampNeg = 0 := by rw [iI_cl (by omega) (by omega)]; rfl
  have n0 : ¬ iI (N : Int) < 0 := by rw [← iI_0, iI_lt (by omega) (by omega)]; omega
  have n1 : ¬ iI 0 < 0 := by decide
  refine va_copyi hx hb (hml.trans hl.1.symm) hown (hts _ h1) (hts _ h2) (hts _ h3) (hts _ h4) hK hP hD hS q0 q1 0 0 he0 he1 rfl rfl rfl n1 n1 n0 (by rw [eN, e0]; omega) (by rw [eN, e0]; omega) (fun i hi => rfl) hf hlo d (fun H locs hP hD hS => ?_)
  rw [eN, e0] at hP hD
  have hcell : zE1 (a, .inl (g' 0, N, .inl (va_cpy (ia f) (ia f') 0 0 N))) (a, .inl (g' 0, N, .inl (ia f))) := zE1.arrR (fun j hj => by simp only [va_cpy]; rw [if_pos ⟨Nat.zero_le _, by omega⟩]; congr 1; omega)
  have hset := zEq.set (ws := ws) (q := q1) hcell
  exact kk H locs ls (hset.P hP) (hset.D hD) hS hl
theorem z_tabIn (t j : Nat) (hC : ZC E cc own Ts rm nL D g l) {a dflt lo hi off v : Int} {offs : Array Int} {len : Nat} (d : decode cc pc = .ok (.tableswitch dflt lo hi offs, len)) (hv : a = v) (h1 : -2147483648 ≤ v ∧ v ≤ 2147483647 ∧ lo ≤ v ∧ v ≤ hi) (hj : (v - lo).toNat = j) (ho : offs[j]? = some off) (ht : (pc : Int) + off = (t : Int)) (kk : Z E ws lv k n t st) : Z E ws lv k n pc (.int (iI a) :: st) := by
  subst hv
  obtain ⟨p, l', e, R, s, m, args, below, meth, c, Q, A, D', g', nL'⟩ := E
  obtain ⟨hx, hb, hml, rfl, rfl, rfl, rfl, rfl, hown, hts, hK, hA⟩ := hC
  intro H locs ls hP hD hS hl
  have e : (iI a).toInt = a := iI_toInt ⟨h1.1, h1.2.1⟩
  exact lv_tableIn hx hb d (by rw [e]; omega) (by rw [e]; omega) (by rw [e, hj]; exact ho) ht (kk H locs ls hP hD hS hl)
theorem z_tabOut (t : Nat) (hC : ZC E cc own Ts rm nL D g l) {a dflt lo hi : Int} {offs : Array Int} {len : Nat} (d : decode cc pc = .ok (.tableswitch dflt lo hi offs, len)) (ha : -2147483648 ≤ a ∧ a ≤ 2147483647) (h1 : a < lo ∨ hi < a) (ht : (pc : Int) + dflt = (t : Int)) (kk : Z E ws lv k n t st) : Z E ws lv k n pc (.int (iI a) :: st) := by
  obtain ⟨p, l', e, R, s, m, args, below, meth, c, Q, A, D', g', nL'⟩ := E
  obtain ⟨hx, hb, hml, rfl, rfl, rfl, rfl, rfl, hown, hts, hK, hA⟩ := hC
  intro H locs ls hP hD hS hl
  exact lv_tableOut hx hb d (by rw [iI_toInt ha]; exact h1) ht (kk H locs ls hP hD hS hl)
/-- the locals in another order, fewer -/
theorem z_lv (ps : List Nat) (hE : lv_pick lv ps = lv') (kk : Z E ws lv' k n pc st) : Z E ws lv k n pc st := by
  obtain ⟨p, l', e, R, s, m, args, below, meth, c, Q, A, D', g', nL'⟩ := E
  intro H locs ls hP hD hS hl
  exact kk H locs ls hP hD hS (lv_sub hl ps hE)
/-- room is taken by rounding up -/
theorem z_widen {k2 n2 : Nat} (h1 : k ≤ k2) (h2 : n ≤ n2) (kk : Z E ws lv k2 n2 pc st) : Z E ws lv k n pc st := by
  obtain ⟨p, l', e, R, s, m, args, below, meth, c, Q, A, D', g', nL'⟩ := E
  intro H locs ls hP hD hS hl
  exact W.widen h1 h2 (kk H locs ls hP hD hS hl)
/-- the world in another order, fewer -/
theorem z_sub (ps : List Nat) (hn : va_nd ps = true) (hw : ps.map (fun i => ws[i]?) = ws'.map some) (kk : Z E ws' lv k n pc st) : Z E ws lv k n pc st := by
  obtain ⟨p, l', e, R, s, m, args, below, meth, c, Q, A, D', g', nL'⟩ := E
  intro H locs ls hP hD hS hl
  exact kk H locs ls (hP.sub ps (zfm hw)) (hD.sub ps hn hw) hS hl
theorem z_weq (h : zEq ws ws') (kk : Z E ws' lv k n pc st) : Z E ws lv k n pc st := by
  obtain ⟨p, l', e, R, s, m, args, below, meth, c, Q, A, D', g', nL'⟩ := E
  intro H locs ls hP hD hS hl
  exact kk H locs ls (h.P hP) (h.D hD) hS hl
theorem z_lveq (h : lv = lv') (kk : Z E ws lv' k n pc st) : Z E ws lv k n pc st := by
  subst h
  exact kk
end ZR
end
section
/-! contracts of methods and their calls, in the walk's own words -/
def zXi : String := "java/lang/IndexOutOfBoundsException"
def zXa : String := "java/lang/IllegalArgumentException"
def zXs : String := "java/lang/IllegalStateException"
def zNestF : List Cond := [.fieldLinkNest RX1 141 RX0 "lostSand" "I" RX1, .fieldLinkNest RX1 144 RX0 "slides" "I" RX1, .fieldLinkNest RX1 150 RX0 "fallenSticks" "I" RX1]
def zNestM : List Cond := [.methodLinkNest RX1 9 yX0_init RX1, .methodLinkNest RX0 115 yX1_isInArea RX1]
def zCasts : List Cond := [.castable "[I" "java/lang/Cloneable", .castable zXi zXi, .castable zXa zXa, .castable zXs zXs]
def zDecs : List Cond := [.declares (Bundle.initS "java/lang/RuntimeException"), .declares (Bundle.initS "java/lang/Exception"), .declares (Bundle.initS Bundle.tN)]
/-- words that are no list's, but hold all the way -/
def zNest : List Cond := zNestF ++ zNestM ++ zCasts ++ zDecs
def zNcs : List (String × String) := [(zXa, zXi), (zXs, zXi), (zXs, zXa), (zXi, zXa)]
def zNs (U : State) : Prop := (∀ w ∈ zNest, va_Nw w U) ∧ ∀ q ∈ zNcs, va_Nc q.1 q.2 U
theorem zNs.same {u U : State} (h : u.vm = U.vm) (hN : zNs u) : zNs U := by
  refine ⟨fun w hw => ?_, fun q hq => va_Nc.moved (by rw [h]; exact Vm.Alike.refl _) (hN.2 q hq)⟩
  refine va_Nw.same ?_ h (hN.1 w hw)
  revert w
  decide +kernel
theorem zNs.warm {s U : State} (h : s.WarmedH U.vm) (hN : zNs s) : zNs U := by
  refine ⟨fun w hw => ?_, fun q hq => va_Nc.moved h.alike (hN.2 q hq)⟩
  have hw0 := hN.1 w hw
  simp only [zNest, List.mem_append] at hw
  rcases hw with ((hw | hw) | hw) | hw
  · simp only [zNestF, List.mem_cons, List.not_mem_nil, or_false] at hw
    rcases hw with rfl | rfl | rfl <;> exact va_Nw.warmF h hw0
  · simp only [zNestM, List.mem_cons, List.not_mem_nil, or_false] at hw
    rcases hw with rfl | rfl <;> exact va_Nw.warmM h hw0
  · simp only [zCasts, List.mem_cons, List.not_mem_nil, or_false] at hw
    rcases hw with rfl | rfl | rfl | rfl <;> exact va_Nw.warmC h hw0
  · simp only [zDecs, List.mem_cons, List.not_mem_nil, or_false] at hw
    rcases hw with rfl | rfl | rfl <;> exact va_Nw.warmD h hw0
/-- the start of a contract -/
def zPc (D : va_G) (g : Nat → ClassId) (av : List Value) (w0 : va_W) (X : State → Prop) (sz : Nat) : Array Value → State → Prop := va_Pc av (fun U => U.heap.size = sz ∧ va_P D vwCl w0 U.heap ∧ va_K D vwCl (zT g) U ∧ va_D (fun _ => True) w0 ∧ zNs U ∧ X U)
/-- the world behind it -/
def zB {S : Type} (D : va_G) (g : Nat → ClassId) (w0 : va_W) (sz : Nat) (w1 : S → va_W) : S → State → Prop := fun u t => va_P D vwCl (w1 u) t.heap ∧ va_K D vwCl (zT g) t ∧ va_D (va_A w0 sz) (w1 u)
def zTr (_ : State) : Prop := True
/-- contracts by what is answered: int, nothing, long, double, a reference -/
def ZMi {S : Type} (l : Launch) (y : MethodName) (wsY : List Cond) (rm : Room) (D : va_G) (g : Nat → ClassId) (av : List Value) (w0 : va_W) (post : Int → S → Prop) (w1 : S → va_W) (mc ms : Nat) : Prop :=
  ∀ sz : Nat, Met l y wsY rm (zPc D g av w0 zTr sz) (va_Qi (fun r u => ∃ z, r = iI z ∧ post z u) (zB D g w0 sz w1) (va_A w0 sz)) mc ms (va_A w0 sz)
def ZMv {S : Type} (l : Launch) (y : MethodName) (wsY : List Cond) (rm : Room) (D : va_G) (g : Nat → ClassId) (av : List Value) (w0 : va_W) (post : S → Prop) (w1 : S → va_W) (mc ms : Nat) : Prop :=
  ∀ sz : Nat, Met l y wsY rm (zPc D g av w0 zTr sz) (va_Qv post (zB D g w0 sz w1) (va_A w0 sz)) mc ms (va_A w0 sz)
def ZMl {S : Type} (l : Launch) (y : MethodName) (wsY : List Cond) (rm : Room) (D : va_G) (g : Nat → ClassId) (av : List Value) (w0 : va_W) (post : Int64 → S → Prop) (w1 : S → va_W) (mc ms : Nat) : Prop :=
  ∀ sz : Nat, Met l y wsY rm (zPc D g av w0 zTr sz) (va_Ql post (zB D g w0 sz w1) (va_A w0 sz)) mc ms (va_A w0 sz)
def ZMd {S : Type} (l : Launch) (y : MethodName) (wsY : List Cond) (rm : Room) (D : va_G) (g : Nat → ClassId) (av : List Value) (w0 : va_W) (post : UInt64 → S → Prop) (w1 : S → va_W) (mc ms : Nat) : Prop :=
  ∀ sz : Nat, Met l y wsY rm (zPc D g av w0 zTr sz) (va_Qd post (zB D g w0 sz w1) (va_A w0 sz)) mc ms (va_A w0 sz)
def ZMr {S : Type} (l : Launch) (y : MethodName) (wsY : List Cond) (rm : Room) (D : va_G) (g : Nat → ClassId) (av : List Value) (w0 : va_W) (post : S → Prop) (w1 : S → Nat → va_W) (mc ms : Nat) : Prop :=
  ∀ sz : Nat, Met l y wsY rm (zPc D g av w0 zTr sz) (va_Qr post (fun u a t => zB D g w0 sz (fun u => w1 u a) u t) (va_A w0 sz)) mc ms (va_A w0 sz)
/-- a constructor's frame -/
def ZIn (E : ZE) : Prop := match E with
  | (_, _, _, _, _, _, _, _, meth, _, _, _, _, _, _) => meth.name = "<init>"
def ZNst (E : ZE) : Prop := match E with
  | (_, _, _, _, s, _, _, _, _, _, _, _, _, _, _) => zNs s
section ZGN
variable {E : ZE} {cc : ByteArray} {own : String} {Ts : List Cond} {rm : Room} {nL : Nat} {D : va_G} {g : Nat → ClassId} {l : Launch} {ws : va_W} {lv : List (Nat × Value)} {k n pc : Nat} {st : List Value}
theorem z_getN (q q0 kf : Nat) (hC : ZC E cc own Ts rm nL D g l) (hN : ZNst E) {C host : String} {T : u_T} {N ci index a : Nat} {fs : List Value} {v : Value} (hin : ∀ w ∈ u_ws C T N, w ∈ Ts) (hL : Cond.fieldLinkNest own index (T kf).1 (T kf).2.1 (T kf).2.2.1 host ∈ zNest) (d : decode cc pc = .ok (.getfield index, 3)) (hq : pc + 3 = q) (he : ws[q0]? = some (a, .inr (ci, fs))) (hc : vwCl[ci]? = some (C, T, N)) (hk : kf < N) (hv : fs[kf]? = some v) (kk : Z E ws lv k n q (v :: st)) : Z E ws lv k n pc (.ref a :: st) := by
  subst hq
  obtain ⟨p, l', e, R, s, m, args, below, meth, c, Q, A, D', g', nL'⟩ := E
  obtain ⟨hx, hb, hml, rfl, rfl, rfl, rfl, rfl, hown, hts, hK, hA⟩ := hC
  intro H locs ls hP hD hS hl
  exact va_getN hx hb hts hin hown hK hP q0 he hc kf hk (va_Nw.use rfl (hN.1 _ hL)) (fun _ h9 => h9) hv d (kk H locs ls hP hD hS hl)
end ZGN
theorem ZMi.of {S : Type} {l : Launch} {y : MethodName} {wsY ws' : List Cond} {rm : Room} {D : va_G} {g : Nat → ClassId} {av : List Value} {w0 : va_W} {post : Int → S → Prop} {w1 : S → va_W} {mc ms : Nat} {own : String} (cc : ByteArray) (maxL : Nat) {ty : FieldType} (lv0 : List (Nat × Value)) (hy : plainName y.cls = true) (hw : wsY = Cond.code y cc maxL (some ty) :: ws') (hlen : (lg_sl av).length ≤ maxL) (hlv : lv_args 0 av = lv0) (hown : y.cls = own)
    (body : ∀ E : ZE, ZC E cc own wsY rm maxL D g l → ZNst E → (∀ {pc : Nat} {lv : List (Nat × Value)} {z : Int} (u : S), decode cc pc = .ok (.ireturn, 1) → narrow ty (.int (iI z)) = .int (iI z) → post z u → Z E (w1 u) lv mc ms pc [.int (iI z)]) → Z E w0 lv0 0 0 0 []) : ZMi l y wsY rm D g av w0 post w1 mc ms := by
  intro sz
  refine Met.ofW (cc := cc) (maxL := maxL) (ret := some ty) hy hw ?_
  intro p e s m args below meth c s₁ B hml hv
  obtain ⟨rfl, hsz, hP, hK, hD0, hN, -⟩ := hv
  subst hsz
  have hE := body (p, l, e, (headSpec wsY rm).room, s, m, av.toArray, below, meth, c, MQ below (va_Qi (fun r u => ∃ z, r = iI z ∧ post z u) (zB D g w0 s.heap.size w1) (va_A w0 s.heap.size)) av.toArray s mc ms (va_A w0 s.heap.size), va_A w0 s.heap.size, D, g, maxL) ⟨B.exec, B.bytes, hml, rfl, rfl, rfl, rfl, rfl, by rw [← hown]; exact findClass_of_methodNamed B.named, atoms_spec B.pre, hK, fun q h => Or.inr h⟩ hN ?_
  · have hl := lv_entry av (n := maxL) hlen
    rw [lg_entry_eq]
    exact hE s.heap [] _ hP hD0.self va_S.rf (by rw [← hlv]; exact hl)
  · intro pc lv z u hd hn hp
    intro H locs ls hP hD hS hl
    exact W.zret (v := iI z) B.exec B.bytes B.returns hn (fun t ht hW => ⟨⟨iI z, u, rfl, ⟨z, rfl, hp⟩, ⟨by rw [ht]; exact hP, va_K.moved hW.alike hK, hD⟩⟩, hS.F ht⟩) hS.2.2 hd B.notSynchronized
theorem ZMv.of {S : Type} {l : Launch} {y : MethodName} {wsY ws' : List Cond} {rm : Room} {D : va_G} {g : Nat → ClassId} {av : List Value} {w0 : va_W} {post : S → Prop} {w1 : S → va_W} {mc ms : Nat} {own : String} (cc : ByteArray) (maxL : Nat) {ty : FieldType} (lv0 : List (Nat × Value)) (hy : plainName y.cls = true) (hw : wsY = Cond.code y cc maxL (none) :: ws') (hlen : (lg_sl av).length ≤ maxL) (hlv : lv_args 0 av = lv0) (hown : y.cls = own)
    (body : ∀ E : ZE, ZC E cc own wsY rm maxL D g l → ZNst E → (∀ {pc : Nat} {lv : List (Nat × Value)}  (u : S), decode cc pc = .ok (.return_, 1) → post u → Z E (w1 u) lv mc ms pc []) → Z E w0 lv0 0 0 0 []) : ZMv l y wsY rm D g av w0 post w1 mc ms := by
  intro sz
  refine Met.ofW (cc := cc) (maxL := maxL) (ret := none) hy hw ?_
  intro p e s m args below meth c s₁ B hml hv
  obtain ⟨rfl, hsz, hP, hK, hD0, hN, -⟩ := hv
  subst hsz
  have hE := body (p, l, e, (headSpec wsY rm).room, s, m, av.toArray, below, meth, c, MQ below (va_Qv post (zB D g w0 s.heap.size w1) (va_A w0 s.heap.size)) av.toArray s mc ms (va_A w0 s.heap.size), va_A w0 s.heap.size, D, g, maxL) ⟨B.exec, B.bytes, hml, rfl, rfl, rfl, rfl, rfl, by rw [← hown]; exact findClass_of_methodNamed B.named, atoms_spec B.pre, hK, fun q h => Or.inr h⟩ hN ?_
  · have hl := lv_entry av (n := maxL) hlen
    rw [lg_entry_eq]
    exact hE s.heap [] _ hP hD0.self va_S.rf (by rw [← hlv]; exact hl)
  · intro pc lv u hd hp
    intro H locs ls hP hD hS hl
    exact W.vret B.exec B.bytes B.returns (fun t ht hW => ⟨⟨u, rfl, hp, ⟨by rw [ht]; exact hP, va_K.moved hW.alike hK, hD⟩⟩, hS.F ht⟩) hS.2.2 hd B.notSynchronized
theorem ZMl.of {S : Type} {l : Launch} {y : MethodName} {wsY ws' : List Cond} {rm : Room} {D : va_G} {g : Nat → ClassId} {av : List Value} {w0 : va_W} {post : Int64 → S → Prop} {w1 : S → va_W} {mc ms : Nat} {own : String} (cc : ByteArray) (maxL : Nat) {ty : FieldType} (lv0 : List (Nat × Value)) (hy : plainName y.cls = true) (hw : wsY = Cond.code y cc maxL (some .long) :: ws') (hlen : (lg_sl av).length ≤ maxL) (hlv : lv_args 0 av = lv0) (hown : y.cls = own)
    (body : ∀ E : ZE, ZC E cc own wsY rm maxL D g l → ZNst E → (∀ {pc : Nat} {lv : List (Nat × Value)} {z : Int64} (u : S), decode cc pc = .ok (.lreturn, 1) → post z u → Z E (w1 u) lv mc ms pc [.long z]) → Z E w0 lv0 0 0 0 []) : ZMl l y wsY rm D g av w0 post w1 mc ms := by
  intro sz
  refine Met.ofW (cc := cc) (maxL := maxL) (ret := some .long) hy hw ?_
  intro p e s m args below meth c s₁ B hml hv
  obtain ⟨rfl, hsz, hP, hK, hD0, hN, -⟩ := hv
  subst hsz
  have hE := body (p, l, e, (headSpec wsY rm).room, s, m, av.toArray, below, meth, c, MQ below (va_Ql post (zB D g w0 s.heap.size w1) (va_A w0 s.heap.size)) av.toArray s mc ms (va_A w0 s.heap.size), va_A w0 s.heap.size, D, g, maxL) ⟨B.exec, B.bytes, hml, rfl, rfl, rfl, rfl, rfl, by rw [← hown]; exact findClass_of_methodNamed B.named, atoms_spec B.pre, hK, fun q h => Or.inr h⟩ hN ?_
  · have hl := lv_entry av (n := maxL) hlen
    rw [lg_entry_eq]
    exact hE s.heap [] _ hP hD0.self va_S.rf (by rw [← hlv]; exact hl)
  · intro pc lv z u hd hp
    intro H locs ls hP hD hS hl
    exact W.lret (v := z) B.exec B.bytes B.returns (fun t ht hW => ⟨⟨z, u, rfl, hp, ⟨by rw [ht]; exact hP, va_K.moved hW.alike hK, hD⟩⟩, hS.F ht⟩) hS.2.2 hd B.notSynchronized
theorem ZMd.of {S : Type} {l : Launch} {y : MethodName} {wsY ws' : List Cond} {rm : Room} {D : va_G} {g : Nat → ClassId} {av : List Value} {w0 : va_W} {post : UInt64 → S → Prop} {w1 : S → va_W} {mc ms : Nat} {own : String} (cc : ByteArray) (maxL : Nat) {ty : FieldType} (lv0 : List (Nat × Value)) (hy : plainName y.cls = true) (hw : wsY = Cond.code y cc maxL (some .double) :: ws') (hlen : (lg_sl av).length ≤ maxL) (hlv : lv_args 0 av = lv0) (hown : y.cls = own)
    (body : ∀ E : ZE, ZC E cc own wsY rm maxL D g l → ZNst E → (∀ {pc : Nat} {lv : List (Nat × Value)} {z : UInt64} (u : S), decode cc pc = .ok (.dreturn, 1) → post z u → Z E (w1 u) lv mc ms pc [.double z]) → Z E w0 lv0 0 0 0 []) : ZMd l y wsY rm D g av w0 post w1 mc ms := by
  intro sz
  refine Met.ofW (cc := cc) (maxL := maxL) (ret := some .double) hy hw ?_
  intro p e s m args below meth c s₁ B hml hv
  obtain ⟨rfl, hsz, hP, hK, hD0, hN, -⟩ := hv
  subst hsz
  have hE := body (p, l, e, (headSpec wsY rm).room, s, m, av.toArray, below, meth, c, MQ below (va_Qd post (zB D g w0 s.heap.size w1) (va_A w0 s.heap.size)) av.toArray s mc ms (va_A w0 s.heap.size), va_A w0 s.heap.size, D, g, maxL) ⟨B.exec, B.bytes, hml, rfl, rfl, rfl, rfl, rfl, by rw [← hown]; exact findClass_of_methodNamed B.named, atoms_spec B.pre, hK, fun q h => Or.inr h⟩ hN ?_
  · have hl := lv_entry av (n := maxL) hlen
    rw [lg_entry_eq]
    exact hE s.heap [] _ hP hD0.self va_S.rf (by rw [← hlv]; exact hl)
  · intro pc lv z u hd hp
    intro H locs ls hP hD hS hl
    exact W.dret (v := z) B.exec B.bytes B.returns (fun t ht hW => ⟨⟨z, u, rfl, hp, ⟨by rw [ht]; exact hP, va_K.moved hW.alike hK, hD⟩⟩, hS.F ht⟩) hS.2.2 hd B.notSynchronized
theorem ZMr.of {S : Type} {l : Launch} {y : MethodName} {wsY ws' : List Cond} {rm : Room} {D : va_G} {g : Nat → ClassId} {av : List Value} {w0 : va_W} {post : S → Prop} {w1 : S → Nat → va_W} {mc ms : Nat} {own : String} (cc : ByteArray) (maxL : Nat) {ty : FieldType} (lv0 : List (Nat × Value)) (hy : plainName y.cls = true) (hw : wsY = Cond.code y cc maxL (some (.array ty)) :: ws') (hlen : (lg_sl av).length ≤ maxL) (hlv : lv_args 0 av = lv0) (hown : y.cls = own)
    (body : ∀ E : ZE, ZC E cc own wsY rm maxL D g l → ZNst E → (∀ {pc : Nat} {lv : List (Nat × Value)} {a : Nat} (u : S), decode cc pc = .ok (.areturn, 1) → post u → Z E (w1 u a) lv mc ms pc [.ref a]) → Z E w0 lv0 0 0 0 []) : ZMr l y wsY rm D g av w0 post w1 mc ms := by
  intro sz
  refine Met.ofW (cc := cc) (maxL := maxL) (ret := some (.array ty)) hy hw ?_
  intro p e s m args below meth c s₁ B hml hv
  obtain ⟨rfl, hsz, hP, hK, hD0, hN, -⟩ := hv
  subst hsz
  have hE := body (p, l, e, (headSpec wsY rm).room, s, m, av.toArray, below, meth, c, MQ below (va_Qr post (fun u a t => zB D g w0 s.heap.size (fun u => w1 u a) u t) (va_A w0 s.heap.size)) av.toArray s mc ms (va_A w0 s.heap.size), va_A w0 s.heap.size, D, g, maxL) ⟨B.exec, B.bytes, hml, rfl, rfl, rfl, rfl, rfl, by rw [← hown]; exact findClass_of_methodNamed B.named, atoms_spec B.pre, hK, fun q h => Or.inr h⟩ hN ?_
  · have hl := lv_entry av (n := maxL) hlen
    rw [lg_entry_eq]
    exact hE s.heap [] _ hP hD0.self va_S.rf (by rw [← hlv]; exact hl)
  · intro pc lv a u hd hp
    intro H locs ls hP hD hS hl
    exact W.aret (v := .ref a) B.exec B.bytes B.returns (Or.inr ⟨ty, rfl⟩) (Or.inr ⟨a, rfl⟩) (fun t ht hW => ⟨⟨u, a, rfl, hp, ⟨by rw [ht]; exact hP, va_K.moved hW.alike hK, hD⟩⟩, hS.F ht⟩) hS.2.2 hd B.notSynchronized
theorem ZMv.ofI {S : Type} {l : Launch} {y : MethodName} {wsY ws' : List Cond} {rm : Room} {D : va_G} {g : Nat → ClassId} {av : List Value} {w0 : va_W} {post : S → Prop} {w1 : S → va_W} {mc ms : Nat} {own : String} (cc : ByteArray) (maxL : Nat) (lv0 : List (Nat × Value)) (hy : plainName y.cls = true) (hyn : y.name = "<init>") (hw : wsY = Cond.code y cc maxL none :: ws') (hlen : (lg_sl av).length ≤ maxL) (hlv : lv_args 0 av = lv0) (hown : y.cls = own)
    (body : ∀ E : ZE, ZC E cc own wsY rm maxL D g l → ZNst E → ZIn E → (∀ {pc : Nat} {lv : List (Nat × Value)} (u : S), decode cc pc = .ok (.return_, 1) → post u → Z E (w1 u) lv mc ms pc []) → Z E w0 lv0 0 0 0 []) : ZMv l y wsY rm D g av w0 post w1 mc ms := by
  intro sz
  refine Met.ofW (cc := cc) (maxL := maxL) (ret := none) hy hw ?_
  intro p e s m args below meth c s₁ B hml hv
  obtain ⟨rfl, hsz, hP, hK, hD0, hN, -⟩ := hv
  subst hsz
  have hin : meth.name = "<init>" := by rw [← hyn]; exact (name_of_methodNamed B.named B.method).1
  have hE := body (p, l, e, (headSpec wsY rm).room, s, m, av.toArray, below, meth, c, MQ below (va_Qv post (zB D g w0 s.heap.size w1) (va_A w0 s.heap.size)) av.toArray s mc ms (va_A w0 s.heap.size), va_A w0 s.heap.size, D, g, maxL) ⟨B.exec, B.bytes, hml, rfl, rfl, rfl, rfl, rfl, by rw [← hown]; exact findClass_of_methodNamed B.named, atoms_spec B.pre, hK, fun q h => Or.inr h⟩ hN hin ?_
  · have hl := lv_entry av (n := maxL) hlen
    rw [lg_entry_eq]
    exact hE s.heap [] _ hP hD0.self va_S.rf (by rw [← hlv]; exact hl)
  · intro pc lv u hd hp
    intro H locs ls hP hD hS hl
    exact W.vret B.exec B.bytes B.returns (fun t ht hW => ⟨⟨u, rfl, hp, ⟨by rw [ht]; exact hP, va_K.moved hW.alike hK, hD⟩⟩, hS.F ht⟩) hS.2.2 hd B.notSynchronized
/-- a call that runs from here -/
def ZRun (E : ZE) (ws : va_W) (lv : List (Nat × Value)) (k n pc : Nat) (st rest : List Value) (mc ms : Nat) (Qa : Nat → State → Outcome → State → Prop) (w0 : va_W) : Prop := match E with
  | (p, l, e, R, s, m, args, below, meth, c, _, A, D, _, nL) => ∀ (H : Heap) (locs : List Loc) (ls : Array Slot), va_P D vwCl ws H → va_D A ws → va_S A s.heap H locs → lv_has ls nL lv → va_Run p l e R s m args below meth c H locs k n mc ms (F0 m pc ls st) rest (Qa H.size) (va_A w0 H.size)
theorem zPc_blind {D : va_G} {g : Nat → ClassId} {av : List Value} {w0 : va_W} {sz : Nat} : FrameBlind (zPc D g av w0 zTr sz) := fun a U g9 mk q => by
  obtain ⟨q0, q1, qP, qK, qD, qN, _⟩ := q
  exact ⟨q0, q1, qP, va_K.moved (u := U) (U := U.calling g9 mk a) (Vm.Alike.refl U.vm) qK, qD, zNs.same (u := U) (U := U.calling g9 mk a) rfl qN, trivial⟩
section ZCALL
variable {E : ZE} {cc : ByteArray} {own : String} {Ts : List Cond} {rm : Room} {nL : Nat} {D : va_G} {g : Nat → ClassId} {l : Launch} {ws ws' w0 wr : va_W} {lv lv' : List (Nat × Value)} {k n k2 n2 pc mc ms index maxL nA b : Nat} {st As rest : List Value} {y : MethodName} {wsY wsY' : List Cond} {rmY : Room} {bytes : ByteArray} {ret : Option FieldType} {Qa : Nat → Array Value → State → Outcome → State → Prop}
theorem z_runV (hC : ZC E cc own Ts rm nL D g l) (hN : ZNst E) (hM : ∀ sz, Met l y wsY rmY (zPc D g (.ref b :: As) w0 zTr sz) (Qa sz) mc ms (va_A w0 sz)) (isC : List Nat) (hCp : isC.map (fun i => ws[i]?) = w0.map some) (hCn : va_nd isC = true) {C : String} {T : u_T} {N ci : Nat} {fs : List Value} (hT : GoodIn Ts (wsV own index C y wsY)) (hd : y.cls = C ∧ y.cls ≠ "java/lang/invoke/MethodHandle" ∧ y.cls ≠ "java/lang/invoke/VarHandle" ∧ (parseMethodDescriptor y.desc).map (fun d => d.parameters.length) = some nA) (hw : wsY = Cond.code y bytes maxL ret :: wsY') (hrc : rmY.cells = mc) (hrs : rmY.slots = ms) (hR : rmY.frames + 1 ≤ rm.frames ∧ 8 + (maxL + 11) + rmY.locals ≤ rm.locals) (hnA : As.length = nA) (hst : st = As.reverse ++ .ref b :: rest) (hcat : (rest.map fun v => v.category).sum ≤ 8) (d : decode cc pc = .ok (.invokevirtual index, 3)) (hf : k + mc ≤ rm.cells ∧ n + ms ≤ rm.slots) (q0 : Nat) (he : ws[q0]? = some (b, .inr (ci, fs))) (hc : vwCl[ci]? = some (C, T, N)) : ZRun E ws lv k n pc st rest mc ms (fun sz => Qa sz ((.ref b :: As) : List Value).toArray) w0 := by
  obtain ⟨p, l', e, R, s, m, args, below, meth, c, Q, A, D', g', nL'⟩ := E
  obtain ⟨hx, hb, hml, rfl, rfl, rfl, rfl, rfl, hown, hts, hK, hA⟩ := hC
  intro H locs ls hP hD hS hl
  have hPc := hP.sub isC (zfm hCp)
  have hDc := hD.sub isC hCn hCp
  exact va_runV ⟨hx, hb, hml, hown, hts⟩ (hM H.size) (cwV nA hts hT hw hrc hrs hd hR) ⟨zPc_blind, va_recv hK hP hc he, fun U hU hW => ⟨rfl, by rw [hU], by rw [hU]; exact hPc, va_K.moved hW.alike hK, hDc.weaken (fun _ _ _ _ => trivial), zNs.warm hW hN, trivial⟩⟩ rfl hnA hl.1 hst (lv_room hcat) d hf
theorem z_runS (hC : ZC E cc own Ts rm nL D g l) (hN : ZNst E) (hM : ∀ sz, Met l y wsY rmY (zPc D g (As) w0 zTr sz) (Qa sz) mc ms (va_A w0 sz)) (isC : List Nat) (hCp : isC.map (fun i => ws[i]?) = w0.map some) (hCn : va_nd isC = true) (hT : GoodIn Ts (va_wsS own index y wsY)) (hd : y.cls ≠ "java/lang/invoke/MethodHandle" ∧ y.cls ≠ "java/lang/invoke/VarHandle" ∧ (parseMethodDescriptor y.desc).map (fun d => d.parameters.length) = some nA) (hw : wsY = Cond.code y bytes maxL ret :: wsY') (hrc : rmY.cells = mc) (hrs : rmY.slots = ms) (hR : rmY.frames + 1 ≤ rm.frames ∧ 8 + (maxL + 11) + rmY.locals ≤ rm.locals) (hnA : As.length = nA) (hst : st = As.reverse ++ rest) (hcat : (rest.map fun v => v.category).sum ≤ 8) (d : decode cc pc = .ok (.invokestatic index, 3)) (hf : k + mc ≤ rm.cells ∧ n + ms ≤ rm.slots)  : ZRun E ws lv k n pc st rest mc ms (fun sz => Qa sz ((As) : List Value).toArray) w0 := by
  obtain ⟨p, l', e, R, s, m, args, below, meth, c, Q, A, D', g', nL'⟩ := E
  obtain ⟨hx, hb, hml, rfl, rfl, rfl, rfl, rfl, hown, hts, hK, hA⟩ := hC
  intro H locs ls hP hD hS hl
  have hPc := hP.sub isC (zfm hCp)
  have hDc := hD.sub isC hCn hCp
  exact va_runS ⟨hx, hb, hml, hown, hts⟩ (hM H.size) (va_cwS nA hts hT hw hrc hrs hd hR) ⟨zPc_blind, fun U hU hW => ⟨rfl, by rw [hU], by rw [hU]; exact hPc, va_K.moved hW.alike hK, hDc.weaken (fun _ _ _ _ => trivial), zNs.warm hW hN, trivial⟩⟩ rfl hnA hl.1 hst (lv_room hcat) d hf
theorem z_runSN (hC : ZC E cc own Ts rm nL D g l) (hN : ZNst E) (hM : ∀ sz, Met l y wsY rmY (zPc D g (As) w0 zTr sz) (Qa sz) mc ms (va_A w0 sz)) (isC : List Nat) (hCp : isC.map (fun i => ws[i]?) = w0.map some) (hCn : va_nd isC = true) {host : String} (hT : GoodIn Ts wsY) (hlk : Cond.methodLinkNest own index y host ∈ zNest) (hini : Cond.initialized y.cls ∈ Ts) (hst9 : Cond.static y ∈ Ts) (hd : y.cls ≠ "java/lang/invoke/MethodHandle" ∧ y.cls ≠ "java/lang/invoke/VarHandle" ∧ (parseMethodDescriptor y.desc).map (fun d => d.parameters.length) = some nA) (hw : wsY = Cond.code y bytes maxL ret :: wsY') (hrc : rmY.cells = mc) (hrs : rmY.slots = ms) (hR : rmY.frames + 1 ≤ rm.frames ∧ 8 + (maxL + 11) + rmY.locals ≤ rm.locals) (hnA : As.length = nA) (hst : st = As.reverse ++ rest) (hcat : (rest.map fun v => v.category).sum ≤ 8) (d : decode cc pc = .ok (.invokestatic index, 3)) (hf : k + mc ≤ rm.cells ∧ n + ms ≤ rm.slots)  : ZRun E ws lv k n pc st rest mc ms (fun sz => Qa sz ((As) : List Value).toArray) w0 := by
  obtain ⟨p, l', e, R, s, m, args, below, meth, c, Q, A, D', g', nL'⟩ := E
  obtain ⟨hx, hb, hml, rfl, rfl, rfl, rfl, rfl, hown, hts, hK, hA⟩ := hC
  intro H locs ls hP hD hS hl
  have hPc := hP.sub isC (zfm hCp)
  have hDc := hD.sub isC hCn hCp
  exact va_runSN ⟨hx, hb, hml, hown, hts⟩ (hM H.size) (⟨va_cnB nA hts hT hw hrc hrs (hN.1 _ hlk) (hts _ hini) hd hR, hts _ hst9, trivial⟩) ⟨zPc_blind, fun U hU hW => ⟨rfl, by rw [hU], by rw [hU]; exact hPc, va_K.moved hW.alike hK, hDc.weaken (fun _ _ _ _ => trivial), zNs.warm hW hN, trivial⟩⟩ rfl hnA hl.1 hst (lv_room hcat) d hf
theorem z_calli (q : Nat) (hC : ZC E cc own Ts rm nL D g l) {S : Type} {a : Array Value} {post : Int → S → Prop} {w1 w2 : S → va_W} (isC isR isO : List Nat) (hr : ZRun E ws lv k n pc st rest mc ms (fun sz => va_Qi (fun r u => ∃ z, r = iI z ∧ post z u) (zB D g w0 sz w1) (va_A w0 sz) a) w0) (hCp : isC.map (fun i => ws[i]?) = w0.map some) (hRp : isR.map (fun i => ws[i]?) = wr.map some) (hnd : va_nd isR = true) (hdis : ∀ i ∈ isR, i ∉ isC) (hO : ∀ u, isO.map (fun i => (wr ++ w1 u)[i]?) = (w2 u).map some) (hndO : va_nd isO = true) (hq : pc + 3 = q) (hk2 : k + mc = k2) (hn2 : n + ms = n2) (kk : ∀ (z : Int) (u : S), post z u → Z E (w2 u) lv k2 n2 q (.int (iI z) :: rest)) : Z E ws lv k n pc st := by
  subst hq; subst hk2; subst hn2
  obtain ⟨p, l', e, R, s, m, args, below, meth, c, Q, A, D', g', nL'⟩ := E
  obtain ⟨hx, hb, hml, rfl, rfl, rfl, rfl, rfl, hown, hts, hK, hA⟩ := hC
  intro H locs ls hP hD hS hl
  have hFc := va_free (wc := w0) hD hS hA isC hCp
  refine va_calli (hr H locs ls hP hD hS hl) hS (fun q _ h => hFc q h) hFc (fun r u t H1 locs ht hvm hw hB hz1 hk1 hS => ?_)
  obtain ⟨hP1, hK1, hD1⟩ := hB
  rw [ht] at hP1
  obtain ⟨z, rfl, hz⟩ := hw
  obtain ⟨hP2, hD2⟩ := va_join (wr := wr) (w1 := w1 u) hP hD isC isR hCp hRp hnd hdis hk1 hFc hP1 hD1
  exact kk z u hz H1 locs ls (hP2.sub isO (zfm (hO u))) (hD2.sub isO hndO (hO u)) hS hl
theorem z_callv (q : Nat) (hC : ZC E cc own Ts rm nL D g l) {S : Type} {a : Array Value} {post : S → Prop} {w1 w2 : S → va_W} (isC isR isO : List Nat) (hr : ZRun E ws lv k n pc st rest mc ms (fun sz => va_Qv post (zB D g w0 sz w1) (va_A w0 sz) a) w0) (hCp : isC.map (fun i => ws[i]?) = w0.map some) (hRp : isR.map (fun i => ws[i]?) = wr.map some) (hnd : va_nd isR = true) (hdis : ∀ i ∈ isR, i ∉ isC) (hO : ∀ u, isO.map (fun i => (wr ++ w1 u)[i]?) = (w2 u).map some) (hndO : va_nd isO = true) (hq : pc + 3 = q) (hk2 : k + mc = k2) (hn2 : n + ms = n2) (kk : ∀ (u : S), post u → Z E (w2 u) lv k2 n2 q rest) : Z E ws lv k n pc st := by
  subst hq; subst hk2; subst hn2
  obtain ⟨p, l', e, R, s, m, args, below, meth, c, Q, A, D', g', nL'⟩ := E
  obtain ⟨hx, hb, hml, rfl, rfl, rfl, rfl, rfl, hown, hts, hK, hA⟩ := hC
  intro H locs ls hP hD hS hl
  have hFc := va_free (wc := w0) hD hS hA isC hCp
  refine va_callv (hr H locs ls hP hD hS hl) hS (fun q _ h => hFc q h) hFc (fun u t H1 locs ht hvm hw hB hz1 hk1 hS => ?_)
  obtain ⟨hP1, hK1, hD1⟩ := hB
  rw [ht] at hP1
  obtain ⟨hP2, hD2⟩ := va_join (wr := wr) (w1 := w1 u) hP hD isC isR hCp hRp hnd hdis hk1 hFc hP1 hD1
  exact kk u hw H1 locs ls (hP2.sub isO (zfm (hO u))) (hD2.sub isO hndO (hO u)) hS hl
theorem z_calll (q : Nat) (hC : ZC E cc own Ts rm nL D g l) {S : Type} {a : Array Value} {post : Int64 → S → Prop} {w1 w2 : S → va_W} (isC isR isO : List Nat) (hr : ZRun E ws lv k n pc st rest mc ms (fun sz => va_Ql post (zB D g w0 sz w1) (va_A w0 sz) a) w0) (hCp : isC.map (fun i => ws[i]?) = w0.map some) (hRp : isR.map (fun i => ws[i]?) = wr.map some) (hnd : va_nd isR = true) (hdis : ∀ i ∈ isR, i ∉ isC) (hO : ∀ u, isO.map (fun i => (wr ++ w1 u)[i]?) = (w2 u).map some) (hndO : va_nd isO = true) (hq : pc + 3 = q) (hk2 : k + mc = k2) (hn2 : n + ms = n2) (kk : ∀ (z : Int64) (u : S), post z u → Z E (w2 u) lv k2 n2 q (.long z :: rest)) : Z E ws lv k n pc st := by
  subst hq; subst hk2; subst hn2
  obtain ⟨p, l', e, R, s, m, args, below, meth, c, Q, A, D', g', nL'⟩ := E
  obtain ⟨hx, hb, hml, rfl, rfl, rfl, rfl, rfl, hown, hts, hK, hA⟩ := hC
  intro H locs ls hP hD hS hl
  have hFc := va_free (wc := w0) hD hS hA isC hCp
  refine va_calll (hr H locs ls hP hD hS hl) hS (fun q _ h => hFc q h) hFc (fun r u t H1 locs ht hvm hw hB hz1 hk1 hS => ?_)
  obtain ⟨hP1, hK1, hD1⟩ := hB
  rw [ht] at hP1
  obtain ⟨hP2, hD2⟩ := va_join (wr := wr) (w1 := w1 u) hP hD isC isR hCp hRp hnd hdis hk1 hFc hP1 hD1
  exact kk r u hw H1 locs ls (hP2.sub isO (zfm (hO u))) (hD2.sub isO hndO (hO u)) hS hl
theorem z_calld (q : Nat) (hC : ZC E cc own Ts rm nL D g l) {S : Type} {a : Array Value} {post : UInt64 → S → Prop} {w1 w2 : S → va_W} (isC isR isO : List Nat) (hr : ZRun E ws lv k n pc st rest mc ms (fun sz => va_Qd post (zB D g w0 sz w1) (va_A w0 sz) a) w0) (hCp : isC.map (fun i => ws[i]?) = w0.map some) (hRp : isR.map (fun i => ws[i]?) = wr.map some) (hnd : va_nd isR = true) (hdis : ∀ i ∈ isR, i ∉ isC) (hO : ∀ u, isO.map (fun i => (wr ++ w1 u)[i]?) = (w2 u).map some) (hndO : va_nd isO = true) (hq : pc + 3 = q) (hk2 : k + mc = k2) (hn2 : n + ms = n2) (kk : ∀ (z : UInt64) (u : S), post z u → Z E (w2 u) lv k2 n2 q (.double z :: rest)) : Z E ws lv k n pc st := by
  subst hq; subst hk2; subst hn2
  obtain ⟨p, l', e, R, s, m, args, below, meth, c, Q, A, D', g', nL'⟩ := E
  obtain ⟨hx, hb, hml, rfl, rfl, rfl, rfl, rfl, hown, hts, hK, hA⟩ := hC
  intro H locs ls hP hD hS hl
  have hFc := va_free (wc := w0) hD hS hA isC hCp
  refine va_calld (hr H locs ls hP hD hS hl) hS (fun q _ h => hFc q h) hFc (fun r u t H1 locs ht hvm hw hB hz1 hk1 hS => ?_)
  obtain ⟨hP1, hK1, hD1⟩ := hB
  rw [ht] at hP1
  obtain ⟨hP2, hD2⟩ := va_join (wr := wr) (w1 := w1 u) hP hD isC isR hCp hRp hnd hdis hk1 hFc hP1 hD1
  exact kk r u hw H1 locs ls (hP2.sub isO (zfm (hO u))) (hD2.sub isO hndO (hO u)) hS hl
theorem z_callr (q : Nat) (hC : ZC E cc own Ts rm nL D g l) {S : Type} {a : Array Value} {post : S → Prop} {w1 w2 : S → Nat → va_W} (isC isR isO : List Nat) (hr : ZRun E ws lv k n pc st rest mc ms (fun sz => va_Qr post (fun u a t => zB D g w0 sz (fun u => w1 u a) u t) (va_A w0 sz) a) w0) (hCp : isC.map (fun i => ws[i]?) = w0.map some) (hRp : isR.map (fun i => ws[i]?) = wr.map some) (hnd : va_nd isR = true) (hdis : ∀ i ∈ isR, i ∉ isC) (hO : ∀ u a, isO.map (fun i => (wr ++ w1 u a)[i]?) = (w2 u a).map some) (hndO : va_nd isO = true) (hq : pc + 3 = q) (hk2 : k + mc = k2) (hn2 : n + ms = n2) (kk : ∀ (u : S) (a : Nat), post u → Z E (w2 u a) lv k2 n2 q (.ref a :: rest)) : Z E ws lv k n pc st := by
  subst hq; subst hk2; subst hn2
  obtain ⟨p, l', e, R, s, m, args, below, meth, c, Q, A, D', g', nL'⟩ := E
  obtain ⟨hx, hb, hml, rfl, rfl, rfl, rfl, rfl, hown, hts, hK, hA⟩ := hC
  intro H locs ls hP hD hS hl
  have hFc := va_free (wc := w0) hD hS hA isC hCp
  refine va_callr (hr H locs ls hP hD hS hl) hS (fun q _ h => hFc q h) hFc (fun u a t H1 locs ht hvm hw hB hz1 hk1 hS => ?_)
  obtain ⟨hP1, hK1, hD1⟩ := hB
  rw [ht] at hP1
  obtain ⟨hP2, hD2⟩ := va_join (wr := wr) (w1 := w1 u a) hP hD isC isR hCp hRp hnd hdis hk1 hFc hP1 hD1
  exact kk u a hw H1 locs ls (hP2.sub isO (zfm (hO u a))) (hD2.sub isO hndO (hO u a)) hS hl
end ZCALL
end
section
/-! the beach in whole numbers -/
abbrev ar (g : Nat → ClassId) (N : Nat) (f : Int → Int) : va_E := .inl (g 0, N, .inl (ia f))
/-- the cells of a Shore -/
def wSh (g : Nat → ClassId) (h : Nat) (a : Nat → Nat) (s f w o p t : Int → Int) (lo sl fa : Int) : va_W := [(h, .inr (0, [.ref (a 0), .ref (a 1), .ref (a 2), .ref (a 3), .ref (a 4), .ref (a 5), .int (iI lo), .int (iI sl), .int (iI fa)])), (a 0, ar g 120 s), (a 1, ar g 120 f), (a 2, ar g 120 w), (a 3, ar g 120 o), (a 4, ar g 120 p), (a 5, ar g 120 t)]
/-- a fold over 0 .. i - 1 -/
def foN {α : Type} (F : Int → α → α) (x : α) : Nat → α
  | 0 => x
  | n + 1 => F n (foN F x n)
def foI {α : Type} (F : Int → α → α) (x : α) (i : Int) : α := foN F x i.toNat
theorem foI_0 {α : Type} (F : Int → α → α) (x : α) : foI F x 0 = x := rfl
theorem foI_s {α : Type} (F : Int → α → α) (x : α) {i : Int} (h : 0 ≤ i) : foI F x (i + 1) = F i (foI F x i) := by
  unfold foI
  have e : (i + 1).toNat = i.toNat + 1 := by omega
  rw [e]
  show F (i.toNat : Int) _ = _
  rw [Int.toNat_of_nonneg h]
theorem foI_ind {α : Type} {F : Int → α → α} {x : α} {P : Int → α → Prop} (h0 : P 0 x) (hs : ∀ (j : Int) (y : α), 0 ≤ j → P j y → P (j + 1) (F j y)) {i : Int} (h : 0 ≤ i) : P i (foI F x i) := by
  have key : ∀ n : Nat, P (n : Int) (foI F x (n : Int)) := by
    intro n
    induction n with
    | zero => exact h0
    | succ n ih =>
      have e : ((n + 1 : Nat) : Int) = (n : Int) + 1 := by omega
      rw [e, foI_s F x (by omega)]
      exact hs _ _ (by omega) ih
  have := key i.toNat
  rwa [Int.toNat_of_nonneg h] at this
theorem foI_congr {α : Type} {F G : Int → α → α} {x : α} {i : Int} (h : ∀ (j : Int) (y : α), 0 ≤ j → j < i → F j y = G j y) : foI F x i = foI G x i := by
  unfold foI
  have key : ∀ n : Nat, (n : Int) ≤ i → foN F x n = foN G x n := by
    intro n
    induction n with
    | zero => intro _; rfl
    | succ n ih =>
      intro hn
      show F n (foN F x n) = G n (foN G x n)
      rw [ih (by omega), h n _ (by omega) (by omega)]
  rcases (by omega : i < 0 ∨ 0 ≤ i) with hi | hi
  · have : i.toNat = 0 := by omega
    rw [this]
    rfl
  · exact key _ (by omega)
def sumI (f : Int → Int) (i : Int) : Int := foI (fun j x => x + f j) 0 i
theorem sumI_0 (f : Int → Int) : sumI f 0 = 0 := rfl
theorem sumI_s (f : Int → Int) {i : Int} (h : 0 ≤ i) : sumI f (i + 1) = sumI f i + f i := foI_s _ _ h
theorem sumI_congr {f f' : Int → Int} {i : Int} (h : ∀ j : Int, 0 ≤ j → j < i → f j = f' j) : sumI f i = sumI f' i := foI_congr (fun j y h0 h1 => by rw [h j h0 h1])
theorem sumI_bd {f : Int → Int} {N a b i : Int} (h : Bd f N a b) (h0 : 0 ≤ i) (h1 : i ≤ N) : a * i ≤ sumI f i ∧ sumI f i ≤ b * i := by
  have key : ∀ n : Nat, (n : Int) ≤ N → a * (n : Int) ≤ sumI f (n : Int) ∧ sumI f (n : Int) ≤ b * (n : Int) := by
    intro n
    induction n with
    | zero => intro _; simp [sumI_0]
    | succ n ih =>
      intro hn
      have e : ((n + 1 : Nat) : Int) = (n : Int) + 1 := by omega
      have hi := ih (by omega)
      have hb := h n (by omega) (by omega)
      rw [e, sumI_s f (by omega), Int.mul_add, Int.mul_add, Int.mul_one, Int.mul_one]
      omega
  have := key i.toNat (by omega)
  rwa [Int.toNat_of_nonneg h0] at this
def maxI (f : Int → Int) (i : Int) : Int := foI (fun j x => max x (f j)) 0 i
def hg (s : Int → Int) (c : Int) : Int := 2 * (c / 12) + s c
def bsd (c k : Int) : Int := if k = 0 then (if 12 ≤ c then c - 12 else -1) else if k = 1 then (if 0 < c % 12 then c - 1 else -1) else if k = 2 then (if c % 12 < 11 then c + 1 else -1) else (if c < 108 then c + 12 else -1)
theorem bsd_rg {c : Int} (hc : 0 ≤ c ∧ c < 120) (k : Int) : -1 ≤ bsd c k ∧ bsd c k < 120 := by
  unfold bsd
  omega
def area (x c : Int) : Prop := c % 12 / 3 = x
def ar01 (x c : Int) : Int := if c % 12 / 3 = x then 1 else 0
/-- the lowest beside, among the first k -/
def lowk (s : Int → Int) (c k : Int) : Int := foI (fun j acc => if bsd c j ≠ -1 ∧ (acc = -1 ∨ hg s (bsd c j) < hg s acc) then bsd c j else acc) (-1) k
theorem lowk_0 (s : Int → Int) (c : Int) : lowk s c 0 = -1 := rfl
theorem lowk_s (s : Int → Int) (c : Int) {k : Int} (h : 0 ≤ k) : lowk s c (k + 1) = if bsd c k ≠ -1 ∧ (lowk s c k = -1 ∨ hg s (bsd c k) < hg s (lowk s c k)) then bsd c k else lowk s c k := foI_s _ _ h
def low (s : Int → Int) (c : Int) : Int := lowk s c 4
theorem lowk_rg (s : Int → Int) {c : Int} (hc : 0 ≤ c ∧ c < 120) {k : Int} (hk : 0 ≤ k) : -1 ≤ lowk s c k ∧ lowk s c k < 120 := by
  refine foI_ind (P := fun _ y => -1 ≤ y ∧ y < 120) (by omega) (fun j y _ hy => ?_) hk
  have := bsd_rg hc j
  split <;> omega
theorem lowk_ne (s : Int → Int) {c : Int} {k : Int} (hk : 0 ≤ k) (h : lowk s c k ≠ -1) : lowk s c (k + 1) ≠ -1 := by
  rw [lowk_s s c hk]
  split <;> omega
theorem low_rg (s : Int → Int) {c : Int} (hc : 0 ≤ c ∧ c < 120) : 0 ≤ low s c ∧ low s c < 120 := by
  have h4 := lowk_rg s hc (k := 4) (by omega)
  have : lowk s c 4 ≠ -1 := by
    by_cases h0 : 12 ≤ c
    · have b0 : bsd c 0 = c - 12 := by unfold bsd; omega
      have e1 : lowk s c 1 ≠ -1 := by
        have := lowk_s s c (k := 0) (by omega)
        rw [lowk_0] at this
        have e : lowk s c 1 = lowk s c (0 + 1) := rfl
        rw [e, this, if_pos ⟨by omega, Or.inl rfl⟩]
        omega
      exact lowk_ne s (k := 3) (by omega) (lowk_ne s (k := 2) (by omega) (lowk_ne s (k := 1) (by omega) e1))
    · have b3 : bsd c 3 = c + 12 := by unfold bsd; omega
      have e : lowk s c 4 = lowk s c (3 + 1) := rfl
      rw [e, lowk_s s c (by omega)]
      split <;> omega
  unfold low
  omega
/-- the lowest is one that lies beside -/
theorem lowk_bs (s : Int → Int) (c : Int) {k : Int} (hk : 0 ≤ k) : lowk s c k = -1 ∨ ∃ j, bsd c j = lowk s c k := by
  refine foI_ind (P := fun _ y => y = -1 ∨ ∃ j, bsd c j = y) (Or.inl rfl) (fun j y _ hy => ?_) hk
  split
  · exact Or.inr ⟨j, rfl⟩
  · exact hy
theorem bsd_ne (c k : Int) (h : bsd c k ≠ -1) : bsd c k ≠ c := by
  revert h
  unfold bsd
  omega
theorem low_ne (s : Int → Int) {c : Int} (hc : 0 ≤ c ∧ c < 120) : low s c ≠ c := by
  have h := low_rg s hc
  rcases lowk_bs s c (k := 4) (by omega) with e | ⟨j, e⟩
  · unfold low at h; omega
  · have e2 : bsd c j = low s c := e
    rw [← e2]
    exact bsd_ne c j (by omega)
/-- water that a cell is open to -/
def opn (w : Int → Int) (c : Int) : Prop := c < 12 ∨ ∃ k : Int, 0 ≤ k ∧ k < 4 ∧ bsd c k ≠ -1 ∧ w (bsd c k) ≠ 0
/-- closed: what the water rises over -/
def clo (s : Int → Int) (L : Int) (Q : Int → Prop) : Prop := ∀ c : Int, 0 ≤ c → c < 120 → hg s c < L → (c < 12 ∨ ∃ k : Int, 0 ≤ k ∧ k < 4 ∧ bsd c k ≠ -1 ∧ Q (bsd c k)) → Q c
def wetP (s : Int → Int) (L c : Int) : Prop := ∀ Q : Int → Prop, clo s L Q → Q c
noncomputable def wet (s : Int → Int) (L c : Int) : Int := @ite Int (wetP s L c) (Classical.propDecidable _) 1 0
theorem wet_1 {s : Int → Int} {L c : Int} (h : wetP s L c) : wet s L c = 1 := by unfold wet; exact if_pos h
theorem wet_0 {s : Int → Int} {L c : Int} (h : ¬ wetP s L c) : wet s L c = 0 := by unfold wet; exact if_neg h
theorem wet_01 (s : Int → Int) (L c : Int) : wet s L c = 0 ∨ wet s L c = 1 := by
  by_cases h : wetP s L c
  · exact Or.inr (wet_1 h)
  · exact Or.inl (wet_0 h)
theorem wet_bd (s : Int → Int) (L : Int) : Bd (wet s L) 120 0 1 := fun j _ _ => by have := wet_01 s L j; omega
theorem wetP_clo (s : Int → Int) (L : Int) : clo s L (wetP s L) := by
  intro c h0 h1 h2 h3 Q hQ
  refine hQ c h0 h1 h2 ?_
  rcases h3 with h | ⟨k, a, b, e, h⟩
  · exact Or.inl h
  · exact Or.inr ⟨k, a, b, e, h Q hQ⟩
theorem wet_lt {s : Int → Int} {L c : Int} (h : wet s L c ≠ 0) : hg s c < L := by
  by_cases hp : wetP s L c
  · refine (hp (fun j => hg s j < L) ?_)
    intro c _ _ h _
    exact h
  · exact absurd (wet_0 hp) h
/-- one sweep, so far -/
def swI (s w : Int → Int) (L i r : Int) (v : Int → Int) : Prop :=
  (r = 0 ∨ r = 1) ∧ Bd v 120 0 1 ∧ (∀ j : Int, 0 ≤ j → j < 120 → w j ≠ 0 → v j ≠ 0) ∧
  (∀ Q : Int → Prop, clo s L Q → (∀ j : Int, 0 ≤ j → j < 120 → w j ≠ 0 → Q j) → ∀ j : Int, 0 ≤ j → j < 120 → v j ≠ 0 → Q j) ∧
  (r = 0 → (∀ j : Int, 0 ≤ j → j < 120 → v j = w j) ∧ ∀ j : Int, 0 ≤ j → j < i → w j = 0 → hg s j < L → ¬ opn w j) ∧
  (r = 1 → sumI w 120 < sumI v 120)
theorem swI_0 {s w : Int → Int} (L : Int) (hw : Bd w 120 0 1) : swI s w L 0 0 w := ⟨Or.inl rfl, hw, fun _ _ _ h => h, fun Q _ h => h, fun _ => ⟨fun _ _ _ => rfl, fun j h0 h1 => absurd h1 (by omega)⟩, fun h => absurd h (by decide)⟩
theorem opn_congr {w v : Int → Int} {c : Int} (hc : 0 ≤ c ∧ c < 120) (h : ∀ j : Int, 0 ≤ j → j < 120 → v j = w j) : opn v c ↔ opn w c := by
  unfold opn
  constructor
  · rintro (h1 | ⟨k, a, b, e, x⟩)
    · exact Or.inl h1
    · have := bsd_rg hc k
      exact Or.inr ⟨k, a, b, e, by rw [← h _ (by omega) (by omega)]; exact x⟩
  · rintro (h1 | ⟨k, a, b, e, x⟩)
    · exact Or.inl h1
    · have := bsd_rg hc k
      exact Or.inr ⟨k, a, b, e, by rw [h _ (by omega) (by omega)]; exact x⟩
theorem swI_skip {s w : Int → Int} {L i r : Int} {v : Int → Int} (h : swI s w L i r v) (hi : 0 ≤ i ∧ i < 120) (hn : v i = 0 → hg s i < L → ¬ opn v i) : swI s w L (i + 1) r v := by
  obtain ⟨h1, h2, h3, h4, h5, h6⟩ := h
  refine ⟨h1, h2, h3, h4, fun hr => ?_, h6⟩
  obtain ⟨e, n⟩ := h5 hr
  refine ⟨e, fun j h0 hj hw hh ho => ?_⟩
  by_cases hji : j = i
  · subst hji
    exact hn (by rw [e j h0 (by omega)]; exact hw) hh ((opn_congr hi e).mpr ho)
  · exact n j h0 (by omega) hw hh ho
theorem sumI_up {f : Int → Int} {k v N : Int} (h0 : 0 ≤ k) (h1 : k < N) : sumI (up f k v) N = sumI f N + (v - f k) := by
  have key : ∀ n : Nat, sumI (up f k v) (n : Int) = sumI f (n : Int) + (if k < (n : Int) then v - f k else 0) := by
    intro n
    induction n with
    | zero => rw [if_neg (by omega)]; rfl
    | succ n ih =>
      have e : ((n + 1 : Nat) : Int) = (n : Int) + 1 := by omega
      rw [e, sumI_s _ (by omega), sumI_s _ (by omega), ih]
      by_cases hk : (n : Int) = k
      · rw [hk, up_same, if_neg (by omega), if_pos (by omega)]
        omega
      · rw [up_ne hk]
        by_cases hlt : k < (n : Int)
        · rw [if_pos hlt, if_pos (by omega)]; omega
        · rw [if_neg hlt, if_neg (by omega)]; omega
  have := key N.toNat
  rw [Int.toNat_of_nonneg (by omega), if_pos h1] at this
  exact this
theorem sumI_mono {f f' : Int → Int} {N : Int} (hN : 0 ≤ N) (h : ∀ j : Int, 0 ≤ j → j < N → f j ≤ f' j) : sumI f N ≤ sumI f' N := by
  have key : ∀ n : Nat, (n : Int) ≤ N → sumI f (n : Int) ≤ sumI f' (n : Int) := by
    intro n
    induction n with
    | zero => intro _; exact Int.le_refl _
    | succ n ih =>
      intro hn
      have e : ((n + 1 : Nat) : Int) = (n : Int) + 1 := by omega
      rw [e, sumI_s _ (by omega), sumI_s _ (by omega)]
      have := ih (by omega)
      have := h n (by omega) (by omega)
      omega
  have := key N.toNat (by omega)
  rwa [Int.toNat_of_nonneg hN] at this
theorem swI_set {s w : Int → Int} {L i r : Int} {v : Int → Int} (h : swI s w L i r v) (hw : Bd w 120 0 1) (hi : 0 ≤ i ∧ i < 120) (hv : v i = 0) (hh : hg s i < L) (ho : opn v i) : swI s w L (i + 1) 1 (up v i 1) := by
  obtain ⟨h1, h2, h3, h4, h5, h6⟩ := h
  refine ⟨Or.inr rfl, Bd_up h2 (by omega), fun j a b c => ?_, fun Q hQ hq j a b c => ?_, fun e => absurd e (by decide), fun _ => ?_⟩
  · by_cases e : j = i
    · rw [e, up_same]; decide
    · rw [up_ne e]; exact h3 j a b c
  · by_cases e : j = i
    · subst e
      refine hQ j a b hh ?_
      rcases ho with x | ⟨k, k0, k1, kn, x⟩
      · exact Or.inl x
      · have := bsd_rg hi k
        exact Or.inr ⟨k, k0, k1, kn, h4 Q hQ hq _ (by omega) (by omega) x⟩
    · rw [up_ne e] at c
      exact h4 Q hQ hq j a b c
  · rw [sumI_up hi.1 hi.2, hv]
    have : sumI w 120 ≤ sumI v 120 := by
      refine sumI_mono (by omega) (fun j a b => ?_)
      have b1 := hw j a b
      have b2 := h2 j a b
      have b3 := h3 j a b
      omega
    omega
/-- what a sweep has done -/
def swQ (s w : Int → Int) (L z : Int) (v : Int → Int) : Prop := swI s w L 120 z v
/-- the search for the water, so far -/
def fwI (s : Int → Int) (L i z : Int) (v : Int → Int) : Prop :=
  (z = 0 ∨ z = 1) ∧ Bd v 120 0 1 ∧ (∀ j : Int, 0 ≤ j → j < 120 → v j ≠ 0 → wetP s L j) ∧
  (z = 0 → ∀ j : Int, 0 ≤ j → j < 120 → v j = 0 → hg s j < L → ¬ opn v j) ∧ (z = 1 → i ≤ sumI v 120)
theorem fwI_0 (s : Int → Int) (L : Int) : fwI s L 0 1 (fun _ => 0) := by
  refine ⟨Or.inr rfl, fun j _ _ => ⟨Int.le_refl 0, (by decide : (0 : Int) ≤ 1)⟩, fun j _ _ h => absurd rfl h, fun h => absurd h (by decide), fun _ => ?_⟩
  have := sumI_bd (f := fun _ => 0) (N := 120) (a := 0) (b := 0) (i := 120) (fun j _ _ => ⟨Int.le_refl 0, Int.le_refl 0⟩) (by omega) (by omega)
  omega
theorem fwI_s {s : Int → Int} {L i z z2 : Int} {v v2 : Int → Int} (h : fwI s L i z v) (hz : ¬ z = 0) (hs : swQ s v L z2 v2) : fwI s L (i + 1) z2 v2 := by
  obtain ⟨h1, h2, h3, h4, h5⟩ := h
  obtain ⟨g1, g2, g3, g4, g5, g6⟩ := hs
  refine ⟨g1, g2, fun j a b c => g4 _ (wetP_clo s L) h3 j a b c, fun e j a b c d o => ?_, fun e => ?_⟩
  · obtain ⟨q, n⟩ := g5 e
    exact n j a b (by rw [← q j a b]; exact c) d ((opn_congr ⟨a, b⟩ q).mp o)
  · have := h5 (by omega)
    have := g6 e
    omega
theorem fwI_done {s : Int → Int} {L i z : Int} {v : Int → Int} (h : fwI s L i z v) (hx : z = 0 ∨ 120 < i) : ∀ j : Int, 0 ≤ j → j < 120 → v j = wet s L j := by
  obtain ⟨h1, h2, h3, h4, h5⟩ := h
  have hz : z = 0 := by
    rcases hx with e | e
    · exact e
    · rcases h1 with e1 | e1
      · exact e1
      · have := h5 e1
        have := sumI_bd h2 (i := 120) (by omega) (by omega)
        omega
  have hcl : clo s L (fun j => 0 ≤ j ∧ j < 120 → v j ≠ 0) := by
    intro c h0 h1 hh ho _ hv
    refine h4 hz c h0 h1 hv hh ?_
    rcases ho with x | ⟨k, k0, k1, kn, x⟩
    · exact Or.inl x
    · have := bsd_rg ⟨h0, h1⟩ k
      exact Or.inr ⟨k, k0, k1, kn, x ⟨by omega, by omega⟩⟩
  intro j a b
  have := h2 j a b
  by_cases hj : v j = 0
  · rw [hj, wet_0]
    intro hw
    exact hw _ hcl ⟨a, b⟩ hj
  · rw [wet_1 (h3 j a b hj)]
    omega
/-- what the water takes -/
def ls (s f : Int → Int) (L c : Int) : Int := min (max (1 + (L - hg s c) / 3 - f c / 2) 0) (s c)
theorem ls_bd {s f : Int → Int} (L : Int) {c : Int} (h : 0 ≤ s c) : 0 ≤ ls s f L c ∧ ls s f L c ≤ s c := by
  unfold ls
  omega
def wsh (s f w : Int → Int) (L i : Int) : Int → Int := fun j => if j < i ∧ w j ≠ 0 then s j - ls s f L j else s j
def wshF (f w : Int → Int) (i : Int) : Int → Int := fun j => if j < i ∧ w j ≠ 0 ∧ 0 < f j then f j - 1 else f j
def wshL (s f w : Int → Int) (L i : Int) : Int := sumI (fun j => if w j ≠ 0 then ls s f L j else 0) i
theorem wsh_at (s f w : Int → Int) (L i : Int) : wsh s f w L i i = s i := if_neg (fun h => absurd h.1 (by omega))
theorem wshF_at (f w : Int → Int) (i : Int) : wshF f w i i = f i := if_neg (fun h => absurd h.1 (by omega))
theorem wsh_bd {s : Int → Int} (f w : Int → Int) (L i : Int) (h : Bd s 120 0 20) : Bd (wsh s f w L i) 120 0 20 := by
  intro j a b
  have h1 := h j a b
  have h2 := ls_bd (f := f) L (c := j) h1.1
  unfold wsh
  split <;> omega
theorem wshF_bd {f : Int → Int} (w : Int → Int) (i : Int) (h : Bd f 120 0 5) : Bd (wshF f w i) 120 0 5 := by
  intro j a b
  have h1 := h j a b
  unfold wshF
  split <;> omega
theorem wsh_s {s f w : Int → Int} {L i x : Int} (hw : w i ≠ 0) (hx : x = ls s f L i) (j : Int) : up (wsh s f w L i) i (wsh s f w L i i - x) j = wsh s f w L (i + 1) j := by
  rw [wsh_at]
  by_cases e : j = i
  · subst e
    rw [up_same]
    unfold wsh
    rw [if_pos ⟨by omega, hw⟩, hx]
  · rw [up_ne e]
    unfold wsh
    by_cases h : j < i ∧ w j ≠ 0
    · rw [if_pos h, if_pos ⟨by omega, h.2⟩]
    · rw [if_neg h, if_neg (fun q => h ⟨by omega, q.2⟩)]
theorem wsh_k {s f w : Int → Int} {L i : Int} (hw : w i = 0) (j : Int) : wsh s f w L i j = wsh s f w L (i + 1) j := by
  unfold wsh
  by_cases h : j < i ∧ w j ≠ 0
  · rw [if_pos h, if_pos ⟨by omega, h.2⟩]
  · rw [if_neg h, if_neg]
    intro q
    by_cases e : j = i
    · subst e; exact q.2 hw
    · exact h ⟨by omega, q.2⟩
theorem wshF_s {f w : Int → Int} {i : Int} (hw : w i ≠ 0) (j : Int) : up (wshF f w i) i (if 0 < wshF f w i i then wshF f w i i - 1 else wshF f w i i) j = wshF f w (i + 1) j := by
  rw [wshF_at]
  by_cases e : j = i
  · subst e
    rw [up_same]
    unfold wshF
    by_cases h : 0 < f j
    · rw [if_pos h, if_pos ⟨by omega, hw, h⟩]
    · rw [if_neg h, if_neg (fun q => h q.2.2)]
  · rw [up_ne e]
    unfold wshF
    by_cases h : j < i ∧ w j ≠ 0 ∧ 0 < f j
    · rw [if_pos h, if_pos ⟨by omega, h.2⟩]
    · rw [if_neg h, if_neg (fun q => h ⟨by omega, q.2⟩)]
theorem wshF_k {f w : Int → Int} {i : Int} (hw : w i = 0) (j : Int) : wshF f w i j = wshF f w (i + 1) j := by
  unfold wshF
  by_cases h : j < i ∧ w j ≠ 0 ∧ 0 < f j
  · rw [if_pos h, if_pos ⟨by omega, h.2⟩]
  · rw [if_neg h, if_neg]
    intro q
    by_cases e : j = i
    · subst e; exact q.2.1 hw
    · exact h ⟨by omega, q.2⟩
theorem wshL_s {s f w : Int → Int} {L i x : Int} (h : 0 ≤ i) (hw : w i ≠ 0) (hx : x = ls s f L i) : wshL s f w L i + x = wshL s f w L (i + 1) := by
  unfold wshL
  rw [sumI_s _ h, if_pos hw, hx]
theorem wshL_k {s f w : Int → Int} {L i : Int} (h : 0 ≤ i) (hw : w i = 0) : wshL s f w L i = wshL s f w L (i + 1) := by
  unfold wshL
  rw [sumI_s _ h, if_neg (fun q => q hw)]
  omega
/-- one cell slides -/
def sld (f : Int → Int) (j : Int) (x : (Int → Int) × Int) : (Int → Int) × Int :=
  if 0 < x.1 j ∧ hg x.1 (low x.1 j) + 4 + f j < hg x.1 j ∧ x.1 (low x.1 j) < 20 then (up (up x.1 j (x.1 j - 1)) (low x.1 j) (up x.1 j (x.1 j - 1) (low x.1 j) + 1), x.2 + 1) else x
/-- a round of slides, its first i cells -/
def rnd (f s : Int → Int) (i : Int) : (Int → Int) × Int := foI (sld f) (s, 0) i
theorem rnd_0 (f s : Int → Int) : rnd f s 0 = (s, 0) := rfl
theorem rnd_s (f s : Int → Int) {i : Int} (h : 0 ≤ i) : rnd f s (i + 1) = sld f i (rnd f s i) := foI_s _ _ h
theorem sld_bd {f : Int → Int} {j : Int} (hj : 0 ≤ j ∧ j < 120) {x : (Int → Int) × Int} (h : Bd x.1 120 0 20) : Bd (sld f j x).1 120 0 20 := by
  unfold sld
  split
  · rename_i hc
    have h1 := h j hj.1 hj.2
    have h2 := low_rg x.1 hj
    have h3 := h _ h2.1 h2.2
    have h4 := low_ne x.1 hj
    refine Bd_up (Bd_up h (by omega)) ?_
    rw [up_ne h4]
    omega
  · exact h
theorem rnd_bd {f s : Int → Int} (h : Bd s 120 0 20) {i : Int} (h0 : 0 ≤ i) (h1 : i ≤ 120) : Bd (rnd f s i).1 120 0 20 := by
  have key : ∀ n : Nat, (n : Int) ≤ 120 → Bd (rnd f s (n : Int)).1 120 0 20 := by
    intro n
    induction n with
    | zero => intro _; exact h
    | succ n ih =>
      intro hn
      have e : ((n + 1 : Nat) : Int) = (n : Int) + 1 := by omega
      rw [e, rnd_s f s (by omega)]
      exact sld_bd ⟨by omega, by omega⟩ (ih (by omega))
  have := key i.toNat (by omega)
  rwa [Int.toNat_of_nonneg h0] at this
theorem rnd_ct (f s : Int → Int) {i : Int} (h0 : 0 ≤ i) : 0 ≤ (rnd f s i).2 ∧ (rnd f s i).2 ≤ i := by
  refine foI_ind (P := fun (i : Int) (x : (Int → Int) × Int) => 0 ≤ x.2 ∧ x.2 ≤ i) ⟨Int.le_refl 0, Int.le_refl 0⟩ (fun j y _ hy => ?_) h0
  unfold sld
  split
  · exact ⟨by show 0 ≤ y.2 + 1; omega, by show y.2 + 1 ≤ j + 1; omega⟩
  · omega
theorem rnd_none (f s : Int → Int) {i : Int} (h0 : 0 ≤ i) : (rnd f s i).2 = 0 → (rnd f s i).1 = s := by
  refine foI_ind (P := fun (i : Int) (x : (Int → Int) × Int) => 0 ≤ x.2 ∧ (x.2 = 0 → x.1 = s)) ⟨Int.le_refl 0, fun _ => rfl⟩ (fun j y _ hy => ?_) h0 |>.2
  unfold sld
  split
  · exact ⟨by show 0 ≤ y.2 + 1; omega, fun e => by have e2 : y.2 + 1 = 0 := e; omega⟩
  · exact hy
/-- rounds of slides -/
def slA (f : Int → Int) : Nat → (Int → Int) → (Int → Int) × Int
  | 0, s => (s, 0)
  | n + 1, s => if (rnd f s 120).2 = 0 then (s, 0) else ((slA f n (rnd f s 120).1).1, (rnd f s 120).2 + (slA f n (rnd f s 120).1).2)
theorem slA_bd {f : Int → Int} : ∀ (n : Nat) {s : Int → Int}, Bd s 120 0 20 → Bd (slA f n s).1 120 0 20 := by
  intro n
  induction n with
  | zero => intro s h; exact h
  | succ n ih =>
    intro s h
    by_cases hz : (rnd f s 120).2 = 0
    · have e : slA f (n + 1) s = (s, 0) := if_pos hz
      rw [e]
      exact h
    · have e : slA f (n + 1) s = ((slA f n (rnd f s 120).1).1, (rnd f s 120).2 + (slA f n (rnd f s 120).1).2) := if_neg hz
      have e1 : (slA f (n + 1) s).1 = (slA f n (rnd f s 120).1).1 := by rw [e]
      rw [e1]
      exact ih (rnd_bd h (by omega) (by omega))
/-- the rounds so far: i rounds gone, z slides in the last one, y in all -/
def slI (f s : Int → Int) (i z y : Int) (v : Int → Int) : Prop :=
  0 ≤ z ∧ Bd v 120 0 20 ∧ (0 < z → slA f 40 s = ((slA f (40 - i).toNat v).1, y + (slA f (40 - i).toNat v).2)) ∧ (z = 0 → slA f 40 s = (v, y))
theorem slI_0 {f s : Int → Int} (h : Bd s 120 0 20) : slI f s 0 1 0 s := ⟨by omega, h, fun _ => by show slA f 40 s = ((slA f 40 s).1, 0 + (slA f 40 s).2); rw [Int.zero_add], fun h => absurd h (by omega)⟩
theorem slI_s {f s : Int → Int} {i z y : Int} {v : Int → Int} (h : slI f s i z y v) (hz : 0 < z) (hi : 0 ≤ i ∧ i < 40) : slI f s (i + 1) (rnd f v 120).2 (y + (rnd f v 120).2) (rnd f v 120).1 := by
  obtain ⟨h1, h2, h3, -⟩ := h
  have hc := rnd_ct f v (i := 120) (by omega)
  have h4 := h3 hz
  have e : (40 - i).toNat = (40 - (i + 1)).toNat + 1 := by omega
  rw [e] at h4
  refine ⟨hc.1, rnd_bd h2 (by omega) (by omega), fun hp => ?_, fun he => ?_⟩
  · have e9 : slA f ((40 - (i + 1)).toNat + 1) v = ((slA f (40 - (i + 1)).toNat (rnd f v 120).1).1, (rnd f v 120).2 + (slA f (40 - (i + 1)).toNat (rnd f v 120).1).2) := if_neg (by omega)
    rw [h4, e9]
    refine Prod.ext rfl ?_
    show y + ((rnd f v 120).2 + _) = y + (rnd f v 120).2 + _
    omega
  · have e9 : slA f ((40 - (i + 1)).toNat + 1) v = (v, 0) := if_pos he
    rw [h4, e9, rnd_none f v (by omega) he, he]
theorem slI_done {f s : Int → Int} {i z y : Int} {v : Int → Int} (h : slI f s i z y v) (hi : i ≤ 40) (hx : z ≤ 0 ∨ 40 ≤ i) : slA f 40 s = (v, y) := by
  obtain ⟨h1, h2, h3, h4⟩ := h
  by_cases hz : z = 0
  · exact h4 hz
  · have e := h3 (by omega)
    have e2 : (40 - i).toNat = 0 := by omega
    rw [e2] at e
    rw [e]
    show (v, y + 0) = (v, y)
    rw [Int.add_zero]
/-- a stick falls: 1 -/
def fal (s w p : Int → Int) (j : Int) : Int := if w j ≠ 0 ∨ hg s j < p j - 1 then 1 else 0
def jO (s w o p : Int → Int) (i : Int) : Int → Int := fun j => if j < i ∧ 0 ≤ o j ∧ fal s w p j = 1 then -1 else o j
def jP (s w o p : Int → Int) (i : Int) : Int → Int := fun j => if j < i ∧ 0 ≤ o j ∧ fal s w p j = 1 then 0 else p j
def jT (s w o p t : Int → Int) (i : Int) : Int → Int := fun x => t x + sumI (fun j => if o j = x ∧ fal s w p j = 0 then 1 + s j / 5 else 0) i
def jF (s w o p : Int → Int) (i : Int) : Int := sumI (fun j => if 0 ≤ o j ∧ fal s w p j = 1 then 1 else 0) i
theorem hg_bd {s : Int → Int} (h : Bd s 120 0 20) {c : Int} (hc : 0 ≤ c ∧ c < 120) : 0 ≤ hg s c ∧ hg s c ≤ 38 := by
  have := h c hc.1 hc.2
  unfold hg
  omega
theorem sld_y {f : Int → Int} {j : Int} {x : (Int → Int) × Int} (h : 0 < x.1 j ∧ hg x.1 (low x.1 j) + 4 + f j < hg x.1 j ∧ x.1 (low x.1 j) < 20) : sld f j x = (up (up x.1 j (x.1 j - 1)) (low x.1 j) (up x.1 j (x.1 j - 1) (low x.1 j) + 1), x.2 + 1) := if_pos h
theorem sld_n {f : Int → Int} {j : Int} {x : (Int → Int) × Int} (h : ¬ (0 < x.1 j ∧ hg x.1 (low x.1 j) + 4 + f j < hg x.1 j ∧ x.1 (low x.1 j) < 20)) : sld f j x = x := if_neg h
theorem rnd_y {f s : Int → Int} {i : Int} (hi : 0 ≤ i) (h : 0 < (rnd f s i).1 i ∧ hg (rnd f s i).1 (low (rnd f s i).1 i) + 4 + f i < hg (rnd f s i).1 i ∧ (rnd f s i).1 (low (rnd f s i).1 i) < 20) : rnd f s (i + 1) = (up (up (rnd f s i).1 i ((rnd f s i).1 i - 1)) (low (rnd f s i).1 i) (up (rnd f s i).1 i ((rnd f s i).1 i - 1) (low (rnd f s i).1 i) + 1), (rnd f s i).2 + 1) := by
  rw [rnd_s f s hi, sld_y h]
theorem rnd_n {f s : Int → Int} {i : Int} (hi : 0 ≤ i) (h : ¬ (0 < (rnd f s i).1 i ∧ hg (rnd f s i).1 (low (rnd f s i).1 i) + 4 + f i < hg (rnd f s i).1 i ∧ (rnd f s i).1 (low (rnd f s i).1 i) < 20)) : rnd f s (i + 1) = rnd f s i := by
  rw [rnd_s f s hi, sld_n h]
theorem jO_n {s w o p : Int → Int} {i : Int} (ho : o i < 0) (j : Int) : jO s w o p i j = jO s w o p (i + 1) j := by
  unfold jO
  by_cases e : j = i
  · subst e; rw [if_neg (fun q => by omega), if_neg (fun q => by omega)]
  · by_cases c : j < i ∧ 0 ≤ o j ∧ fal s w p j = 1
    · rw [if_pos c, if_pos ⟨by omega, c.2⟩]
    · rw [if_neg c, if_neg (fun q => c ⟨by omega, q.2⟩)]
theorem jO_k {s w o p : Int → Int} {i : Int} (hf : fal s w p i = 0) (j : Int) : jO s w o p i j = jO s w o p (i + 1) j := by
  unfold jO
  by_cases e : j = i
  · subst e; rw [if_neg (fun q => by omega), if_neg (fun q => by omega)]
  · by_cases c : j < i ∧ 0 ≤ o j ∧ fal s w p j = 1
    · rw [if_pos c, if_pos ⟨by omega, c.2⟩]
    · rw [if_neg c, if_neg (fun q => c ⟨by omega, q.2⟩)]
theorem jO_y {s w o p : Int → Int} {i : Int} (ho : 0 ≤ o i) (hf : fal s w p i = 1) (j : Int) : up (jO s w o p i) i (-1) j = jO s w o p (i + 1) j := by
  by_cases e : j = i
  · subst e
    rw [up_same]
    unfold jO
    rw [if_pos ⟨by omega, ho, hf⟩]
  · rw [up_ne e]
    unfold jO
    by_cases c : j < i ∧ 0 ≤ o j ∧ fal s w p j = 1
    · rw [if_pos c, if_pos ⟨by omega, c.2⟩]
    · rw [if_neg c, if_neg (fun q => c ⟨by omega, q.2⟩)]
theorem jP_n {s w o p : Int → Int} {i : Int} (ho : o i < 0) (j : Int) : jP s w o p i j = jP s w o p (i + 1) j := by
  unfold jP
  by_cases e : j = i
  · subst e; rw [if_neg (fun q => by omega), if_neg (fun q => by omega)]
  · by_cases c : j < i ∧ 0 ≤ o j ∧ fal s w p j = 1
    · rw [if_pos c, if_pos ⟨by omega, c.2⟩]
    · rw [if_neg c, if_neg (fun q => c ⟨by omega, q.2⟩)]
theorem jP_k {s w o p : Int → Int} {i : Int} (hf : fal s w p i = 0) (j : Int) : jP s w o p i j = jP s w o p (i + 1) j := by
  unfold jP
  by_cases e : j = i
  · subst e; rw [if_neg (fun q => by omega), if_neg (fun q => by omega)]
  · by_cases c : j < i ∧ 0 ≤ o j ∧ fal s w p j = 1
    · rw [if_pos c, if_pos ⟨by omega, c.2⟩]
    · rw [if_neg c, if_neg (fun q => c ⟨by omega, q.2⟩)]
theorem jP_y {s w o p : Int → Int} {i : Int} (ho : 0 ≤ o i) (hf : fal s w p i = 1) (j : Int) : up (jP s w o p i) i 0 j = jP s w o p (i + 1) j := by
  by_cases e : j = i
  · subst e
    rw [up_same]
    unfold jP
    rw [if_pos ⟨by omega, ho, hf⟩]
  · rw [up_ne e]
    unfold jP
    by_cases c : j < i ∧ 0 ≤ o j ∧ fal s w p j = 1
    · rw [if_pos c, if_pos ⟨by omega, c.2⟩]
    · rw [if_neg c, if_neg (fun q => c ⟨by omega, q.2⟩)]
theorem jT_n {s w o p t : Int → Int} {i : Int} (hi : 0 ≤ i) (ho : o i < 0) (j : Int) (hj : 0 ≤ j) : jT s w o p t i j = jT s w o p t (i + 1) j := by
  unfold jT
  rw [sumI_s _ hi, if_neg (fun q => by omega)]
  omega
theorem jT_k {s w o p t : Int → Int} {i : Int} (hi : 0 ≤ i) (hf : fal s w p i = 1) (j : Int) : jT s w o p t i j = jT s w o p t (i + 1) j := by
  unfold jT
  rw [sumI_s _ hi, if_neg (fun q => by omega)]
  omega
theorem jT_y {s w o p t : Int → Int} {i : Int} (hi : 0 ≤ i) (ho : 0 ≤ o i) (hf : fal s w p i = 0) (j : Int) : up (jT s w o p t i) (o i) (jT s w o p t i (o i) + (1 + s i / 5)) j = jT s w o p t (i + 1) j := by
  by_cases e : j = o i
  · subst e
    rw [up_same]
    unfold jT
    rw [sumI_s _ hi, if_pos ⟨rfl, hf⟩]
    omega
  · rw [up_ne e]
    unfold jT
    rw [sumI_s _ hi, if_neg (fun q => e q.1.symm)]
    omega
theorem jF_n {s w o p : Int → Int} {i fa : Int} (hi : 0 ≤ i) (ho : o i < 0) : fa + jF s w o p i = fa + jF s w o p (i + 1) := by
  unfold jF
  rw [sumI_s _ hi, if_neg (fun q => by omega)]
  omega
theorem jF_k {s w o p : Int → Int} {i fa : Int} (hi : 0 ≤ i) (hf : fal s w p i = 0) : fa + jF s w o p i = fa + jF s w o p (i + 1) := by
  unfold jF
  rw [sumI_s _ hi, if_neg (fun q => by omega)]
  omega
theorem jF_y {s w o p : Int → Int} {i fa : Int} (hi : 0 ≤ i) (ho : 0 ≤ o i) (hf : fal s w p i = 1) : fa + jF s w o p i + 1 = fa + jF s w o p (i + 1) := by
  unfold jF
  rw [sumI_s _ hi, if_pos ⟨ho, hf⟩]
  omega
/-- an hour with the level L: what each number is behind it -/
noncomputable def hW1 (s f : Int → Int) (L : Int) : Int → Int := wsh s f (wet s L) L 120
noncomputable def hF (s f : Int → Int) (L : Int) : Int → Int := wshF f (wet s L) 120
noncomputable def hS (s f : Int → Int) (L : Int) : Int → Int := (slA (hF s f L) 40 (hW1 s f L)).1
noncomputable def hSl (s f : Int → Int) (L : Int) : Int := (slA (hF s f L) 40 (hW1 s f L)).2
noncomputable def hO (s f o p : Int → Int) (L : Int) : Int → Int := jO (hS s f L) (wet s L) o p 120
noncomputable def hP (s f o p : Int → Int) (L : Int) : Int → Int := jP (hS s f L) (wet s L) o p 120
noncomputable def hT (s f o p t : Int → Int) (L : Int) : Int → Int := jT (hS s f L) (wet s L) o p t 120
noncomputable def hLo (s f : Int → Int) (L : Int) : Int := wshL s f (wet s L) L 120
noncomputable def hFa (s f o p : Int → Int) (L : Int) : Int := jF (hS s f L) (wet s L) o p 120
end
section
set_option maxHeartbeats 4000000 in
set_option maxRecDepth 100000 in
theorem c_J7_fill_53178 (l : Launch) (D : va_G) (g : Nat → ClassId) (x N : Nat) (f : Int → Int) (v : Int) (hN : N < 2147483647) : ZMv (S := Unit) l yJ7_fill_53178 wsJ7_fill_53178 ({ frames := 0, cells := 0, slots := 0, locals := 0 }) D g [.ref x, .int (iI v)] ([(x, ar g N f)]) (fun _ => True) (fun _ => [(x, ar g N (fun _ => v))]) 0 0 := by
  refine ZMv.of (ty := .int) (own := RJ7) cJ7_fill_53178 4 [(0, .ref x), (1, .int (iI v))] (by decide +kernel) rfl (nle rfl) rfl rfl ?_
  intro E hC hN hret
  refine z_iconst 1 hC dJ7_fill_53178_0 rfl ?_
  refine z_istoren (lv' := [(2, .int (iI 0)), (0, .ref x), (1, .int (iI v))]) 2 hC dJ7_fill_53178_1 rfl rfl (by decide) rfl ?_
  refine z_aloadn 3 hC 1 dJ7_fill_53178_2 rfl rfl rfl ?_
  refine z_alen 4 0 hC dJ7_fill_53178_3 rfl rfl (by unfold iI; exact (Int32.ofInt_eq_ofNat).symm) ?_
  refine z_istoren (lv' := [(3, .int (iI ((N : Nat) : Int))), (2, .int (iI 0)), (0, .ref x), (1, .int (iI v))]) 5 hC dJ7_fill_53178_4 rfl rfl (by decide) rfl ?_
  have loop5 : ∀ (N5 : Nat) (i : Int), 0 ≤ i ∧ i ≤ ((N : Nat) : Int) → (((N : Nat) : Int) - i : Int) < N5 → Z E ([(x, ar g N (fun j => if j < i then v else f j))]) [(0, .ref x), (1, .int (iI v)), (2, .int (iI i)), (3, .int (iI ((N : Nat) : Int)))] 0 0 5 [] := by
    intro N5
    induction N5 with
    | zero => intro i hi hm5; exact absurd hm5 (by omega)
    | succ N5 ih5 =>
      intro i hi hm5
      refine z_iloadn 6 hC 2 dJ7_fill_53178_5 rfl rfl rfl ?_
      refine z_iloadn 7 hC 3 dJ7_fill_53178_6 rfl rfl rfl ?_
      refine z_icmp_ge 20 10 hC dJ7_fill_53178_7 (by decide) rfl (by omega) (by omega) (fun c_1 => ?_) (fun c_1 => ?_)
      · skip
        refine z_weq (ws' := [(x, ar g N (fun _ => v))]) (zEq.cons (zE1.arr (by first | (intro j h0 h1; rfl) | (intro j h0 h1; exact if_pos (by omega)))) zEq.nil) ?_
        exact hret () dJ7_fill_53178_20 (by trivial)
      · skip
        refine z_aloadn 11 hC 0 dJ7_fill_53178_10 rfl rfl rfl ?_
        refine z_iloadn 12 hC 2 dJ7_fill_53178_11 rfl rfl rfl ?_
        refine z_iloadn 13 hC 1 dJ7_fill_53178_12 rfl rfl rfl ?_
        refine z_iast (ws' := [(x, ar g N (up (fun j => if j < i then v else f j) i v))]) 14 0 hC dJ7_fill_53178_13 rfl rfl (by omega) (by omega) rfl ?_
        refine z_iinc (lv' := [(2, .int (iI (i + 1))), (0, .ref x), (1, .int (iI v)), (3, .int (iI ((N : Nat) : Int)))]) 17 2 hC dJ7_fill_53178_14 rfl rfl (by decide) rfl ?_
        refine z_goto 5 hC dJ7_fill_53178_17 (by decide) ?_
        refine z_lv (lv' := [(0, .ref x), (1, .int (iI v)), (2, .int (iI (i + 1))), (3, .int (iI ((N : Nat) : Int)))]) [1, 2, 0, 3] rfl ?_
        refine z_weq (ws' := [(x, ar g N (fun j => if j < (i + 1) then v else f j))]) (zEq.cons (zE1.arr (by first | (intro j h0 h1; rfl) | (intro j h0 h1; by_cases e : j = i; exact (if_pos e).trans (if_pos (by omega)).symm; refine (if_neg e).trans ?_; by_cases e2 : j < i; exact (if_pos e2).trans (if_pos (by omega)).symm; exact (if_neg e2).trans (if_neg (by omega)).symm))) zEq.nil) ?_
        exact ih5 (i + 1) (by omega) (by omega)
  refine z_lv (lv' := [(0, .ref x), (1, .int (iI v)), (2, .int (iI 0)), (3, .int (iI ((N : Nat) : Int)))]) [2, 3, 1, 0] rfl ?_
  refine z_weq (ws' := [(x, ar g N (fun j => if j < 0 then v else f j))]) (zEq.cons (zE1.arr (by first | (intro j h0 h1; rfl) | (intro j h0 h1; exact (if_neg (by omega)).symm))) zEq.nil) ?_
  exact loop5 ((((N : Nat) : Int) - 0 + 1 : Int).toNat) 0 (by omega) (by omega)
set_option maxHeartbeats 4000000 in
set_option maxRecDepth 100000 in
theorem c_X0_height (l : Launch) (D : va_G) (g : Nat → ClassId) (h : Nat) (a : Nat → Nat) (s f w o p t : Int → Int) (lo sl fa : Int) (c : Int) (hc : 0 ≤ c ∧ c < 120) : ZMi (S := Unit) l yX0_height wsX0_height ({ frames := 0, cells := 0, slots := 0, locals := 0 }) D g [.ref h, .int (iI c)] (wSh g h a s f w o p t lo sl fa) (fun z _ => z = hg s c) (fun _ => wSh g h a s f w o p t lo sl fa) 0 0 := by
  have hinX0 : ∀ w ∈ u_ws RX0 TX0 9, w ∈ wsX0_height := by decide +kernel
  have L9 : Cond.fieldLink RX0 9 "SandcastleLeague$Shore" "sand" "[I" ∈ wsX0_height := by decide +kernel
  refine ZMi.of (own := RX0) cX0_height 2 [(0, .ref h), (1, .int (iI c))] (by decide +kernel) rfl (nle rfl) rfl rfl ?_
  intro E hC hN hret
  refine z_iconst 1 hC dX0_height_0 rfl ?_
  refine z_iloadn 2 hC 1 dX0_height_1 rfl rfl rfl ?_
  refine z_bipush 4 hC dX0_height_2 (by decide) rfl ?_
  refine z_idiv 5 hC dX0_height_4 rfl (by omega) (by omega) ?_
  refine z_imul 6 hC dX0_height_5 rfl ?_
  refine z_aloadn 7 hC 0 dX0_height_6 rfl rfl rfl ?_
  refine z_get 10 0 0 hC hinX0 L9 dX0_height_7 rfl rfl rfl (by decide) rfl ?_
  refine z_iloadn 11 hC 1 dX0_height_10 rfl rfl rfl ?_
  refine z_iald 12 1 hC dX0_height_11 rfl rfl (by decide) (by omega) ?_
  refine z_iadd 13 hC dX0_height_12 rfl ?_
  exact hret () dX0_height_13 rfl (by rfl)
set_option maxHeartbeats 4000000 in
set_option maxRecDepth 100000 in
theorem c_X0_isWet (l : Launch) (D : va_G) (g : Nat → ClassId) (h : Nat) (a : Nat → Nat) (s f w o p t : Int → Int) (lo sl fa : Int) (c : Int) (hc : 0 ≤ c ∧ c < 120) (hw : Bd w 120 0 1) : ZMi (S := Unit) l yX0_isWet wsX0_isWet ({ frames := 0, cells := 0, slots := 0, locals := 0 }) D g [.ref h, .int (iI c)] (wSh g h a s f w o p t lo sl fa) (fun z _ => (z = 0 ∨ z = 1) ∧ (z = 0 ↔ w c = 0)) (fun _ => wSh g h a s f w o p t lo sl fa) 0 0 := by
  have hinX0 : ∀ w ∈ u_ws RX0 TX0 9, w ∈ wsX0_isWet := by decide +kernel
  have L18 : Cond.fieldLink RX0 18 "SandcastleLeague$Shore" "water" "[I" ∈ wsX0_isWet := by decide +kernel
  refine ZMi.of (own := RX0) cX0_isWet 2 [(0, .ref h), (1, .int (iI c))] (by decide +kernel) rfl (nle rfl) rfl rfl ?_
  intro E hC hN hret
  refine z_aloadn 1 hC 0 dX0_isWet_0 rfl rfl rfl ?_
  refine z_get 4 0 2 hC hinX0 L18 dX0_isWet_1 rfl rfl rfl (by decide) rfl ?_
  refine z_iloadn 5 hC 1 dX0_isWet_4 rfl rfl rfl ?_
  refine z_iald 6 3 hC dX0_isWet_5 rfl rfl (by decide) (by omega) ?_
  have b_1 := hw c (by omega) (by omega)
  refine z_if_eq 13 9 hC dX0_isWet_6 (by decide) rfl (by omega) (fun c_2 => ?_) (fun c_2 => ?_)
  · skip
    refine z_iconst 14 hC dX0_isWet_13 rfl ?_
    exact hret () dX0_isWet_14 (by decide) (by omega)
  · skip
    refine z_iconst 10 hC dX0_isWet_9 rfl ?_
    refine z_goto 14 hC dX0_isWet_10 (by decide) ?_
    exact hret () dX0_isWet_14 (by decide) (by omega)
set_option maxHeartbeats 4000000 in
set_option maxRecDepth 100000 in
theorem c_X0_hasStick (l : Launch) (D : va_G) (g : Nat → ClassId) (h : Nat) (a : Nat → Nat) (s f w o p t : Int → Int) (lo sl fa : Int) (c : Int) (hc : 0 ≤ c ∧ c < 120) (ho : Bd o 120 (-1) 119) : ZMi (S := Unit) l yX0_hasStick wsX0_hasStick ({ frames := 0, cells := 0, slots := 0, locals := 0 }) D g [.ref h, .int (iI c)] (wSh g h a s f w o p t lo sl fa) (fun z _ => (z = 0 ∨ z = 1) ∧ (z = 0 ↔ o c = -1)) (fun _ => wSh g h a s f w o p t lo sl fa) 0 0 := by
  have hinX0 : ∀ w ∈ u_ws RX0 TX0 9, w ∈ wsX0_hasStick := by decide +kernel
  have L21 : Cond.fieldLink RX0 21 "SandcastleLeague$Shore" "owner" "[I" ∈ wsX0_hasStick := by decide +kernel
  refine ZMi.of (own := RX0) cX0_hasStick 2 [(0, .ref h), (1, .int (iI c))] (by decide +kernel) rfl (nle rfl) rfl rfl ?_
  intro E hC hN hret
  refine z_aloadn 1 hC 0 dX0_hasStick_0 rfl rfl rfl ?_
  refine z_get 4 0 3 hC hinX0 L21 dX0_hasStick_1 rfl rfl rfl (by decide) rfl ?_
  refine z_iloadn 5 hC 1 dX0_hasStick_4 rfl rfl rfl ?_
  refine z_iald 6 4 hC dX0_hasStick_5 rfl rfl (by decide) (by omega) ?_
  have b_1 := ho c (by omega) (by omega)
  refine z_iconst 7 hC dX0_hasStick_6 rfl ?_
  refine z_icmp_eq 14 10 hC dX0_hasStick_7 (by decide) rfl (by omega) (by omega) (fun c_2 => ?_) (fun c_2 => ?_)
  · skip
    refine z_iconst 15 hC dX0_hasStick_14 rfl ?_
    exact hret () dX0_hasStick_15 (by decide) (by omega)
  · skip
    refine z_iconst 11 hC dX0_hasStick_10 rfl ?_
    refine z_goto 15 hC dX0_hasStick_11 (by decide) ?_
    exact hret () dX0_hasStick_15 (by decide) (by omega)
set_option maxHeartbeats 4000000 in
set_option maxRecDepth 100000 in
theorem c_X0_isFree (l : Launch) (D : va_G) (g : Nat → ClassId) (h : Nat) (a : Nat → Nat) (s f w o p t : Int → Int) (lo sl fa : Int) (c : Int) (hc : 0 ≤ c ∧ c < 120) (hw : Bd w 120 0 1) (ho : Bd o 120 (-1) 119) : ZMi (S := Unit) l yX0_isFree wsX0_isFree ({ frames := 1, cells := 0, slots := 0, locals := 40 }) D g [.ref h, .int (iI c)] (wSh g h a s f w o p t lo sl fa) (fun z _ => (z = 0 ∨ z = 1) ∧ (z = 1 ↔ o c = -1 ∧ w c = 0)) (fun _ => wSh g h a s f w o p t lo sl fa) 0 0 := by
  refine ZMi.of (own := RX0) cX0_isFree 2 [(0, .ref h), (1, .int (iI c))] (by decide +kernel) rfl (nle rfl) rfl rfl ?_
  intro E hC hN hret
  refine z_aloadn 1 hC 0 dX0_isFree_0 rfl rfl rfl ?_
  refine z_iloadn 2 hC 1 dX0_isFree_1 rfl rfl rfl ?_
  refine z_calli (wr := []) (w2 := fun _ => wSh g h a s f w o p t lo sl fa) 5 hC [0, 1, 2, 3, 4, 5, 6] [] [0, 1, 2, 3, 4, 5, 6] (z_runV (nA := 1) hC hN (c_X0_hasStick l D g h a s f w o p t lo sl fa c (by omega) ho) [0, 1, 2, 3, 4, 5, 6] rfl (by decide) gX0_isFree_X0_hasStick (by decide +kernel) rfl rfl rfl ⟨by decide, by decide⟩ rfl rfl (nle rfl) dX0_isFree_2 ⟨by decide, by decide⟩ 0 rfl rfl) rfl rfl (by decide) (by decide) (fun _ => rfl) (by decide) rfl (k2 := 0) (n2 := 0) rfl rfl (fun z_1 _ p_2 => ?_)
  refine z_if_ne 20 8 hC dX0_isFree_5 (by decide) rfl (by omega) (fun c_3 => ?_) (fun c_3 => ?_)
  · skip
    refine z_iconst 21 hC dX0_isFree_20 rfl ?_
    exact hret () dX0_isFree_21 (by decide) (by omega)
  · skip
    refine z_aloadn 9 hC 0 dX0_isFree_8 rfl rfl rfl ?_
    refine z_iloadn 10 hC 1 dX0_isFree_9 rfl rfl rfl ?_
    refine z_calli (wr := []) (w2 := fun _ => wSh g h a s f w o p t lo sl fa) 13 hC [0, 1, 2, 3, 4, 5, 6] [] [0, 1, 2, 3, 4, 5, 6] (z_runV (nA := 1) hC hN (c_X0_isWet l D g h a s f w o p t lo sl fa c (by omega) hw) [0, 1, 2, 3, 4, 5, 6] rfl (by decide) gX0_isFree_X0_isWet (by decide +kernel) rfl rfl rfl ⟨by decide, by decide⟩ rfl rfl (nle rfl) dX0_isFree_10 ⟨by decide, by decide⟩ 0 rfl rfl) rfl rfl (by decide) (by decide) (fun _ => rfl) (by decide) rfl (k2 := 0) (n2 := 0) rfl rfl (fun z_4 _ p_5 => ?_)
    refine z_if_ne 20 16 hC dX0_isFree_13 (by decide) rfl (by omega) (fun c_6 => ?_) (fun c_6 => ?_)
    · skip
      refine z_iconst 21 hC dX0_isFree_20 rfl ?_
      exact hret () dX0_isFree_21 (by decide) (by omega)
    · skip
      refine z_iconst 17 hC dX0_isFree_16 rfl ?_
      refine z_goto 21 hC dX0_isFree_17 (by decide) ?_
      exact hret () dX0_isFree_21 (by decide) (by omega)
set_option maxHeartbeats 4000000 in
set_option maxRecDepth 100000 in
theorem c_X0_pointsOf (l : Launch) (D : va_G) (g : Nat → ClassId) (h : Nat) (a : Nat → Nat) (s f w o p t : Int → Int) (lo sl fa : Int) (c : Int) (hc : 0 ≤ c ∧ c < 120) : ZMi (S := Unit) l yX0_pointsOf wsX0_pointsOf ({ frames := 0, cells := 0, slots := 0, locals := 0 }) D g [.ref h, .int (iI c)] (wSh g h a s f w o p t lo sl fa) (fun z _ => z = t c) (fun _ => wSh g h a s f w o p t lo sl fa) 0 0 := by
  have hinX0 : ∀ w ∈ u_ws RX0 TX0 9, w ∈ wsX0_pointsOf := by decide +kernel
  have L27 : Cond.fieldLink RX0 27 "SandcastleLeague$Shore" "points" "[I" ∈ wsX0_pointsOf := by decide +kernel
  refine ZMi.of (own := RX0) cX0_pointsOf 2 [(0, .ref h), (1, .int (iI c))] (by decide +kernel) rfl (nle rfl) rfl rfl ?_
  intro E hC hN hret
  refine z_aloadn 1 hC 0 dX0_pointsOf_0 rfl rfl rfl ?_
  refine z_get 4 0 5 hC hinX0 L27 dX0_pointsOf_1 rfl rfl rfl (by decide) rfl ?_
  refine z_iloadn 5 hC 1 dX0_pointsOf_4 rfl rfl rfl ?_
  refine z_iald 6 6 hC dX0_pointsOf_5 rfl rfl (by decide) (by omega) ?_
  exact hret () dX0_pointsOf_6 rfl (by rfl)
set_option maxHeartbeats 4000000 in
set_option maxRecDepth 100000 in
theorem c_X0_soften (l : Launch) (D : va_G) (g : Nat → ClassId) (h : Nat) (a : Nat → Nat) (s f w o p t : Int → Int) (lo sl fa : Int) (c : Int) (hc : 0 ≤ c ∧ c < 120) (hf : Bd f 120 0 5) : ZMv (S := Unit) l yX0_soften wsX0_soften ({ frames := 0, cells := 0, slots := 0, locals := 0 }) D g [.ref h, .int (iI c)] (wSh g h a s f w o p t lo sl fa) (fun _ => True) (fun _ => wSh g h a s (up f c (if 0 < f c then f c - 1 else f c)) w o p t lo sl fa) 0 0 := by
  have hinX0 : ∀ w ∈ u_ws RX0 TX0 9, w ∈ wsX0_soften := by decide +kernel
  have L15 : Cond.fieldLink RX0 15 "SandcastleLeague$Shore" "firmness" "[I" ∈ wsX0_soften := by decide +kernel
  refine ZMv.of (ty := .int) (own := RX0) cX0_soften 2 [(0, .ref h), (1, .int (iI c))] (by decide +kernel) rfl (nle rfl) rfl rfl ?_
  intro E hC hN hret
  refine z_aloadn 1 hC 0 dX0_soften_0 rfl rfl rfl ?_
  refine z_get 4 0 1 hC hinX0 L15 dX0_soften_1 rfl rfl rfl (by decide) rfl ?_
  refine z_iloadn 5 hC 1 dX0_soften_4 rfl rfl rfl ?_
  refine z_iald 6 2 hC dX0_soften_5 rfl rfl (by decide) (by omega) ?_
  have b_1 := hf c (by omega) (by omega)
  refine z_if_le 19 9 hC dX0_soften_6 (by decide) rfl (by omega) (fun c_2 => ?_) (fun c_2 => ?_)
  · skip
    refine z_weq (ws' := wSh g h a s (up f c (if 0 < f c then f c - 1 else f c)) w o p t lo sl fa) (zEq.cons zE1.rf (zEq.cons zE1.rf (zEq.cons (zE1.arr (by first | (intro j h0 h1; rfl) | (intro j h0 h1; unfold up; split <;> first | rfl | (subst_vars; omega) | omega))) (zEq.cons zE1.rf (zEq.cons zE1.rf (zEq.cons zE1.rf (zEq.cons zE1.rf zEq.nil))))))) ?_
    exact hret () dX0_soften_19 (by trivial)
  · skip
    refine z_aloadn 10 hC 0 dX0_soften_9 rfl rfl rfl ?_
    refine z_get 13 0 1 hC hinX0 L15 dX0_soften_10 rfl rfl rfl (by decide) rfl ?_
    refine z_iloadn 14 hC 1 dX0_soften_13 rfl rfl rfl ?_
    refine z_dup2 15 hC dX0_soften_14 rfl rfl rfl ?_
    refine z_iald 16 2 hC dX0_soften_15 rfl rfl (by decide) (by omega) ?_
    have b_3 := hf c (by omega) (by omega)
    refine z_iconst 17 hC dX0_soften_16 rfl ?_
    refine z_isub 18 hC dX0_soften_17 rfl ?_
    refine z_iast (ws' := wSh g h a s (up f c ((f c) - 1)) w o p t lo sl fa) 19 2 hC dX0_soften_18 rfl rfl (by decide) (by omega) rfl ?_
    refine z_weq (ws' := wSh g h a s (up f c (if 0 < f c then f c - 1 else f c)) w o p t lo sl fa) (zEq.cons zE1.rf (zEq.cons zE1.rf (zEq.cons (zE1.arr (by first | (intro j h0 h1; rfl) | (intro j h0 h1; unfold up; split <;> first | rfl | (subst_vars; omega) | omega))) (zEq.cons zE1.rf (zEq.cons zE1.rf (zEq.cons zE1.rf (zEq.cons zE1.rf zEq.nil))))))) ?_
    exact hret () dX0_soften_19 (by trivial)
set_option maxHeartbeats 4000000 in
set_option maxRecDepth 100000 in
theorem c_X0_takeSand (l : Launch) (D : va_G) (g : Nat → ClassId) (h : Nat) (a : Nat → Nat) (s f w o p t : Int → Int) (lo sl fa : Int) (c : Int) (n : Int) (hc : 0 ≤ c ∧ c < 120) (hs : Bd s 120 0 20) (hn : 0 ≤ n ∧ n ≤ 5) : ZMi (S := Unit) l yX0_takeSand wsX0_takeSand ({ frames := 1, cells := 0, slots := 0, locals := 40 }) D g [.ref h, .int (iI c), .int (iI n)] (wSh g h a s f w o p t lo sl fa) (fun z _ => z = min n (s c)) (fun _ => wSh g h a (up s c (s c - min n (s c))) (up f c 0) w o p t lo sl fa) 0 0 := by
  have hinX0 : ∀ w ∈ u_ws RX0 TX0 9, w ∈ wsX0_takeSand := by decide +kernel
  have L9 : Cond.fieldLink RX0 9 "SandcastleLeague$Shore" "sand" "[I" ∈ wsX0_takeSand := by decide +kernel
  have L15 : Cond.fieldLink RX0 15 "SandcastleLeague$Shore" "firmness" "[I" ∈ wsX0_takeSand := by decide +kernel
  refine ZMi.of (own := RX0) cX0_takeSand 4 [(0, .ref h), (1, .int (iI c)), (2, .int (iI n))] (by decide +kernel) rfl (nle rfl) rfl rfl ?_
  intro E hC hN hret
  refine z_iloadn 1 hC 2 dX0_takeSand_0 rfl rfl rfl ?_
  refine z_aloadn 2 hC 0 dX0_takeSand_1 rfl rfl rfl ?_
  refine z_get 5 0 0 hC hinX0 L9 dX0_takeSand_2 rfl rfl rfl (by decide) rfl ?_
  refine z_iloadn 6 hC 1 dX0_takeSand_5 rfl rfl rfl ?_
  refine z_iald 7 1 hC dX0_takeSand_6 rfl rfl (by decide) (by omega) ?_
  have b_1 := hs c (by omega) (by omega)
  refine z_mmin 10 hC (by decide +kernel) (by decide +kernel) (by decide +kernel) (by decide +kernel) (by decide) (nle rfl) (by decide) (by decide) (by omega) (by omega) dX0_takeSand_7 rfl ?_
  refine z_istoren (lv' := [(3, .int (iI (min n (s c)))), (0, .ref h), (1, .int (iI c)), (2, .int (iI n))]) 11 hC dX0_takeSand_10 rfl rfl (by decide) rfl ?_
  refine z_aloadn 12 hC 1 dX0_takeSand_11 rfl rfl rfl ?_
  refine z_get 15 0 0 hC hinX0 L9 dX0_takeSand_12 rfl rfl rfl (by decide) rfl ?_
  refine z_iloadn 16 hC 2 dX0_takeSand_15 rfl rfl rfl ?_
  refine z_dup2 17 hC dX0_takeSand_16 rfl rfl rfl ?_
  refine z_iald 18 1 hC dX0_takeSand_17 rfl rfl (by decide) (by omega) ?_
  have b_2 := hs c (by omega) (by omega)
  refine z_iloadn 19 hC 0 dX0_takeSand_18 rfl rfl rfl ?_
  refine z_isub 20 hC dX0_takeSand_19 rfl ?_
  refine z_iast (ws' := wSh g h a (up s c ((s c) - (min n (s c)))) f w o p t lo sl fa) 21 1 hC dX0_takeSand_20 rfl rfl (by decide) (by omega) rfl ?_
  refine z_aloadn 22 hC 1 dX0_takeSand_21 rfl rfl rfl ?_
  refine z_get 25 0 1 hC hinX0 L15 dX0_takeSand_22 rfl rfl rfl (by decide) rfl ?_
  refine z_iloadn 26 hC 2 dX0_takeSand_25 rfl rfl rfl ?_
  refine z_iconst 27 hC dX0_takeSand_26 rfl ?_
  refine z_iast (ws' := wSh g h a (up s c ((s c) - (min n (s c)))) (up f c 0) w o p t lo sl fa) 28 2 hC dX0_takeSand_27 rfl rfl (by decide) (by omega) rfl ?_
  refine z_iloadn 29 hC 0 dX0_takeSand_28 rfl rfl rfl ?_
  refine z_weq (ws' := wSh g h a (up s c (s c - min n (s c))) (up f c 0) w o p t lo sl fa) (zEq.cons zE1.rf (zEq.cons (zE1.arr (by first | (intro j h0 h1; rfl) | (intro j h0 h1; first | rfl | omega))) (zEq.cons zE1.rf (zEq.cons zE1.rf (zEq.cons zE1.rf (zEq.cons zE1.rf (zEq.cons zE1.rf zEq.nil))))))) ?_
  exact hret () dX0_takeSand_29 rfl (by rfl)
set_option maxHeartbeats 4000000 in
set_option maxRecDepth 100000 in
theorem c_X0_putSand (l : Launch) (D : va_G) (g : Nat → ClassId) (h : Nat) (a : Nat → Nat) (s f w o p t : Int → Int) (lo sl fa : Int) (c : Int) (n : Int) (hc : 0 ≤ c ∧ c < 120) (hs : Bd s 120 0 20) (hf : Bd f 120 0 5) (hn : 0 ≤ n ∧ n ≤ 5) : ZMi (S := Unit) l yX0_putSand wsX0_putSand ({ frames := 1, cells := 0, slots := 0, locals := 40 }) D g [.ref h, .int (iI c), .int (iI n)] (wSh g h a s f w o p t lo sl fa) (fun z _ => z = min n (20 - s c)) (fun _ => wSh g h a (up s c (s c + min n (20 - s c))) (if 0 < min n (20 - s c) then up f c (if 0 < f c then f c - 1 else f c) else f) w o p t lo sl fa) 0 0 := by
  have hinX0 : ∀ w ∈ u_ws RX0 TX0 9, w ∈ wsX0_putSand := by decide +kernel
  have L9 : Cond.fieldLink RX0 9 "SandcastleLeague$Shore" "sand" "[I" ∈ wsX0_putSand := by decide +kernel
  refine ZMi.of (own := RX0) cX0_putSand 4 [(0, .ref h), (1, .int (iI c)), (2, .int (iI n))] (by decide +kernel) rfl (nle rfl) rfl rfl ?_
  intro E hC hN hret
  refine z_iloadn 1 hC 2 dX0_putSand_0 rfl rfl rfl ?_
  refine z_bipush 3 hC dX0_putSand_1 (by decide) rfl ?_
  refine z_aloadn 4 hC 0 dX0_putSand_3 rfl rfl rfl ?_
  refine z_get 7 0 0 hC hinX0 L9 dX0_putSand_4 rfl rfl rfl (by decide) rfl ?_
  refine z_iloadn 8 hC 1 dX0_putSand_7 rfl rfl rfl ?_
  refine z_iald 9 1 hC dX0_putSand_8 rfl rfl (by decide) (by omega) ?_
  have b_1 := hs c (by omega) (by omega)
  refine z_isub 10 hC dX0_putSand_9 rfl ?_
  refine z_mmin 13 hC (by decide +kernel) (by decide +kernel) (by decide +kernel) (by decide +kernel) (by decide) (nle rfl) (by decide) (by decide) (by omega) (by omega) dX0_putSand_10 rfl ?_
  refine z_istoren (lv' := [(3, .int (iI (min n (20 - (s c))))), (0, .ref h), (1, .int (iI c)), (2, .int (iI n))]) 14 hC dX0_putSand_13 rfl rfl (by decide) rfl ?_
  refine z_aloadn 15 hC 1 dX0_putSand_14 rfl rfl rfl ?_
  refine z_get 18 0 0 hC hinX0 L9 dX0_putSand_15 rfl rfl rfl (by decide) rfl ?_
  refine z_iloadn 19 hC 2 dX0_putSand_18 rfl rfl rfl ?_
  refine z_dup2 20 hC dX0_putSand_19 rfl rfl rfl ?_
  refine z_iald 21 1 hC dX0_putSand_20 rfl rfl (by decide) (by omega) ?_
  have b_2 := hs c (by omega) (by omega)
  refine z_iloadn 22 hC 0 dX0_putSand_21 rfl rfl rfl ?_
  refine z_iadd 23 hC dX0_putSand_22 rfl ?_
  refine z_iast (ws' := wSh g h a (up s c ((s c) + (min n (20 - (s c))))) f w o p t lo sl fa) 24 1 hC dX0_putSand_23 rfl rfl (by decide) (by omega) rfl ?_
  refine z_iloadn 25 hC 0 dX0_putSand_24 rfl rfl rfl ?_
  refine z_if_le 33 28 hC dX0_putSand_25 (by decide) rfl (by omega) (fun c_3 => ?_) (fun c_3 => ?_)
  · skip
    refine z_iloadn 34 hC 0 dX0_putSand_33 rfl rfl rfl ?_
    refine z_weq (ws' := wSh g h a (up s c (s c + min n (20 - s c))) (if 0 < min n (20 - s c) then up f c (if 0 < f c then f c - 1 else f c) else f) w o p t lo sl fa) (zEq.cons zE1.rf (zEq.cons (zE1.arr (by first | (intro j h0 h1; rfl) | (intro j h0 h1; first | exact (congrFun (if_pos (by omega)) j).symm | exact (congrFun (if_neg (by omega)) j).symm))) (zEq.cons (zE1.arr (by first | (intro j h0 h1; rfl) | (intro j h0 h1; first | exact (congrFun (if_pos (by omega)) j).symm | exact (congrFun (if_neg (by omega)) j).symm))) (zEq.cons zE1.rf (zEq.cons zE1.rf (zEq.cons zE1.rf (zEq.cons zE1.rf zEq.nil))))))) ?_
    exact hret () dX0_putSand_34 rfl (by rfl)
  · skip
    refine z_aloadn 29 hC 1 dX0_putSand_28 rfl rfl rfl ?_
    refine z_iloadn 30 hC 2 dX0_putSand_29 rfl rfl rfl ?_
    refine z_callv (wr := []) (w2 := fun _ => wSh g h a (up s c ((s c) + (min n (20 - (s c))))) (up f c (if 0 < f c then f c - 1 else f c)) w o p t lo sl fa) 33 hC [0, 1, 2, 3, 4, 5, 6] [] [0, 1, 2, 3, 4, 5, 6] (z_runV (nA := 1) hC hN (c_X0_soften l D g h a (up s c ((s c) + (min n (20 - (s c))))) f w o p t lo sl fa c (by omega) hf) [0, 1, 2, 3, 4, 5, 6] rfl (by decide) gX0_putSand_X0_soften (by decide +kernel) rfl rfl rfl ⟨by decide, by decide⟩ rfl rfl (nle rfl) dX0_putSand_30 ⟨by decide, by decide⟩ 0 rfl rfl) rfl rfl (by decide) (by decide) (fun _ => rfl) (by decide) rfl (k2 := 0) (n2 := 0) rfl rfl (fun _ p_4 => ?_)
    refine z_iloadn 34 hC 0 dX0_putSand_33 rfl rfl rfl ?_
    refine z_weq (ws' := wSh g h a (up s c (s c + min n (20 - s c))) (if 0 < min n (20 - s c) then up f c (if 0 < f c then f c - 1 else f c) else f) w o p t lo sl fa) (zEq.cons zE1.rf (zEq.cons (zE1.arr (by first | (intro j h0 h1; rfl) | (intro j h0 h1; first | exact (congrFun (if_pos (by omega)) j).symm | exact (congrFun (if_neg (by omega)) j).symm))) (zEq.cons (zE1.arr (by first | (intro j h0 h1; rfl) | (intro j h0 h1; first | exact (congrFun (if_pos (by omega)) j).symm | exact (congrFun (if_neg (by omega)) j).symm))) (zEq.cons zE1.rf (zEq.cons zE1.rf (zEq.cons zE1.rf (zEq.cons zE1.rf zEq.nil))))))) ?_
    exact hret () dX0_putSand_34 rfl (by rfl)
set_option maxHeartbeats 4000000 in
set_option maxRecDepth 100000 in
theorem c_X0_harden (l : Launch) (D : va_G) (g : Nat → ClassId) (h : Nat) (a : Nat → Nat) (s f w o p t : Int → Int) (lo sl fa : Int) (c : Int) (hc : 0 ≤ c ∧ c < 120) (hs : Bd s 120 0 20) (hf : Bd f 120 0 5) (hw : Bd w 120 0 1) : ZMi (S := Unit) l yX0_harden wsX0_harden ({ frames := 1, cells := 0, slots := 0, locals := 40 }) D g [.ref h, .int (iI c)] (wSh g h a s f w o p t lo sl fa) (fun z _ => z = if 0 < s c ∧ w c = 0 then min 5 (f c + 1) else f c) (fun _ => wSh g h a s (up f c (if 0 < s c ∧ w c = 0 then min 5 (f c + 1) else f c)) w o p t lo sl fa) 0 0 := by
  have hinX0 : ∀ w ∈ u_ws RX0 TX0 9, w ∈ wsX0_harden := by decide +kernel
  have L9 : Cond.fieldLink RX0 9 "SandcastleLeague$Shore" "sand" "[I" ∈ wsX0_harden := by decide +kernel
  have L15 : Cond.fieldLink RX0 15 "SandcastleLeague$Shore" "firmness" "[I" ∈ wsX0_harden := by decide +kernel
  refine ZMi.of (own := RX0) cX0_harden 2 [(0, .ref h), (1, .int (iI c))] (by decide +kernel) rfl (nle rfl) rfl rfl ?_
  intro E hC hN hret
  refine z_aloadn 1 hC 0 dX0_harden_0 rfl rfl rfl ?_
  refine z_get 4 0 0 hC hinX0 L9 dX0_harden_1 rfl rfl rfl (by decide) rfl ?_
  refine z_iloadn 5 hC 1 dX0_harden_4 rfl rfl rfl ?_
  refine z_iald 6 1 hC dX0_harden_5 rfl rfl (by decide) (by omega) ?_
  have b_1 := hs c (by omega) (by omega)
  refine z_if_le 37 9 hC dX0_harden_6 (by decide) rfl (by omega) (fun c_2 => ?_) (fun c_2 => ?_)
  · skip
    refine z_aloadn 38 hC 0 dX0_harden_37 rfl rfl rfl ?_
    refine z_get 41 0 1 hC hinX0 L15 dX0_harden_38 rfl rfl rfl (by decide) rfl ?_
    refine z_iloadn 42 hC 1 dX0_harden_41 rfl rfl rfl ?_
    refine z_iald 43 2 hC dX0_harden_42 rfl rfl (by decide) (by omega) ?_
    have b_3 := hf c (by omega) (by omega)
    refine z_weq (ws' := wSh g h a s (up f c (if 0 < s c ∧ w c = 0 then min 5 (f c + 1) else f c)) w o p t lo sl fa) (zEq.cons zE1.rf (zEq.cons zE1.rf (zEq.cons (zE1.arr (by first | (intro j h0 h1; rfl) | (intro j h0 h1; unfold up; split <;> (try subst_vars) <;> omega))) (zEq.cons zE1.rf (zEq.cons zE1.rf (zEq.cons zE1.rf (zEq.cons zE1.rf zEq.nil))))))) ?_
    exact hret () dX0_harden_43 rfl (by first | omega | (rw [up_same]; omega))
  · skip
    refine z_aloadn 10 hC 0 dX0_harden_9 rfl rfl rfl ?_
    refine z_iloadn 11 hC 1 dX0_harden_10 rfl rfl rfl ?_
    refine z_calli (wr := []) (w2 := fun _ => wSh g h a s f w o p t lo sl fa) 14 hC [0, 1, 2, 3, 4, 5, 6] [] [0, 1, 2, 3, 4, 5, 6] (z_runV (nA := 1) hC hN (c_X0_isWet l D g h a s f w o p t lo sl fa c (by omega) hw) [0, 1, 2, 3, 4, 5, 6] rfl (by decide) gX0_harden_X0_isWet (by decide +kernel) rfl rfl rfl ⟨by decide, by decide⟩ rfl rfl (nle rfl) dX0_harden_11 ⟨by decide, by decide⟩ 0 rfl rfl) rfl rfl (by decide) (by decide) (fun _ => rfl) (by decide) rfl (k2 := 0) (n2 := 0) rfl rfl (fun z_4 _ p_5 => ?_)
    refine z_if_ne 37 17 hC dX0_harden_14 (by decide) rfl (by omega) (fun c_6 => ?_) (fun c_6 => ?_)
    · skip
      refine z_aloadn 38 hC 0 dX0_harden_37 rfl rfl rfl ?_
      refine z_get 41 0 1 hC hinX0 L15 dX0_harden_38 rfl rfl rfl (by decide) rfl ?_
      refine z_iloadn 42 hC 1 dX0_harden_41 rfl rfl rfl ?_
      refine z_iald 43 2 hC dX0_harden_42 rfl rfl (by decide) (by omega) ?_
      have b_7 := hf c (by omega) (by omega)
      refine z_weq (ws' := wSh g h a s (up f c (if 0 < s c ∧ w c = 0 then min 5 (f c + 1) else f c)) w o p t lo sl fa) (zEq.cons zE1.rf (zEq.cons zE1.rf (zEq.cons (zE1.arr (by first | (intro j h0 h1; rfl) | (intro j h0 h1; unfold up; split <;> (try subst_vars) <;> omega))) (zEq.cons zE1.rf (zEq.cons zE1.rf (zEq.cons zE1.rf (zEq.cons zE1.rf zEq.nil))))))) ?_
      exact hret () dX0_harden_43 rfl (by first | omega | (rw [up_same]; omega))
    · skip
      refine z_aloadn 18 hC 0 dX0_harden_17 rfl rfl rfl ?_
      refine z_get 21 0 1 hC hinX0 L15 dX0_harden_18 rfl rfl rfl (by decide) rfl ?_
      refine z_iloadn 22 hC 1 dX0_harden_21 rfl rfl rfl ?_
      refine z_iald 23 2 hC dX0_harden_22 rfl rfl (by decide) (by omega) ?_
      have b_8 := hf c (by omega) (by omega)
      refine z_iconst 24 hC dX0_harden_23 rfl ?_
      refine z_icmp_ge 37 27 hC dX0_harden_24 (by decide) rfl (by omega) (by omega) (fun c_9 => ?_) (fun c_9 => ?_)
      · skip
        refine z_aloadn 38 hC 0 dX0_harden_37 rfl rfl rfl ?_
        refine z_get 41 0 1 hC hinX0 L15 dX0_harden_38 rfl rfl rfl (by decide) rfl ?_
        refine z_iloadn 42 hC 1 dX0_harden_41 rfl rfl rfl ?_
        refine z_iald 43 2 hC dX0_harden_42 rfl rfl (by decide) (by omega) ?_
        have b_10 := hf c (by omega) (by omega)
        refine z_weq (ws' := wSh g h a s (up f c (if 0 < s c ∧ w c = 0 then min 5 (f c + 1) else f c)) w o p t lo sl fa) (zEq.cons zE1.rf (zEq.cons zE1.rf (zEq.cons (zE1.arr (by first | (intro j h0 h1; rfl) | (intro j h0 h1; unfold up; split <;> (try subst_vars) <;> omega))) (zEq.cons zE1.rf (zEq.cons zE1.rf (zEq.cons zE1.rf (zEq.cons zE1.rf zEq.nil))))))) ?_
        exact hret () dX0_harden_43 rfl (by first | omega | (rw [up_same]; omega))
      · skip
        refine z_aloadn 28 hC 0 dX0_harden_27 rfl rfl rfl ?_
        refine z_get 31 0 1 hC hinX0 L15 dX0_harden_28 rfl rfl rfl (by decide) rfl ?_
        refine z_iloadn 32 hC 1 dX0_harden_31 rfl rfl rfl ?_
        refine z_dup2 33 hC dX0_harden_32 rfl rfl rfl ?_
        refine z_iald 34 2 hC dX0_harden_33 rfl rfl (by decide) (by omega) ?_
        have b_11 := hf c (by omega) (by omega)
        refine z_iconst 35 hC dX0_harden_34 rfl ?_
        refine z_iadd 36 hC dX0_harden_35 rfl ?_
        refine z_iast (ws' := wSh g h a s (up f c ((f c) + 1)) w o p t lo sl fa) 37 2 hC dX0_harden_36 rfl rfl (by decide) (by omega) rfl ?_
        refine z_aloadn 38 hC 0 dX0_harden_37 rfl rfl rfl ?_
        refine z_get 41 0 1 hC hinX0 L15 dX0_harden_38 rfl rfl rfl (by decide) rfl ?_
        refine z_iloadn 42 hC 1 dX0_harden_41 rfl rfl rfl ?_
        refine z_iald 43 2 hC dX0_harden_42 rfl rfl (by decide) (by omega) ?_
        refine z_weq (ws' := wSh g h a s (up f c (if 0 < s c ∧ w c = 0 then min 5 (f c + 1) else f c)) w o p t lo sl fa) (zEq.cons zE1.rf (zEq.cons zE1.rf (zEq.cons (zE1.arr (by first | (intro j h0 h1; rfl) | (intro j h0 h1; unfold up; split <;> (try subst_vars) <;> omega))) (zEq.cons zE1.rf (zEq.cons zE1.rf (zEq.cons zE1.rf (zEq.cons zE1.rf zEq.nil))))))) ?_
        exact hret () dX0_harden_43 rfl (by first | omega | (rw [up_same]; omega))
set_option maxHeartbeats 4000000 in
set_option maxRecDepth 100000 in
theorem c_X0_putStick (l : Launch) (D : va_G) (g : Nat → ClassId) (h : Nat) (a : Nat → Nat) (s f w o p t : Int → Int) (lo sl fa : Int) (c : Int) (n : Int) (hc : 0 ≤ c ∧ c < 120) : ZMv (S := Unit) l yX0_putStick wsX0_putStick ({ frames := 1, cells := 0, slots := 0, locals := 40 }) D g [.ref h, .int (iI c), .int (iI n)] (wSh g h a s f w o p t lo sl fa) (fun _ => True) (fun _ => wSh g h a s f w (up o c n) (up p c (hg s c)) t lo sl fa) 0 0 := by
  have hinX0 : ∀ w ∈ u_ws RX0 TX0 9, w ∈ wsX0_putStick := by decide +kernel
  have L21 : Cond.fieldLink RX0 21 "SandcastleLeague$Shore" "owner" "[I" ∈ wsX0_putStick := by decide +kernel
  have L24 : Cond.fieldLink RX0 24 "SandcastleLeague$Shore" "plantedHeight" "[I" ∈ wsX0_putStick := by decide +kernel
  refine ZMv.of (ty := .int) (own := RX0) cX0_putStick 3 [(0, .ref h), (1, .int (iI c)), (2, .int (iI n))] (by decide +kernel) rfl (nle rfl) rfl rfl ?_
  intro E hC hN hret
  refine z_aloadn 1 hC 0 dX0_putStick_0 rfl rfl rfl ?_
  refine z_get 4 0 3 hC hinX0 L21 dX0_putStick_1 rfl rfl rfl (by decide) rfl ?_
  refine z_iloadn 5 hC 1 dX0_putStick_4 rfl rfl rfl ?_
  refine z_iloadn 6 hC 2 dX0_putStick_5 rfl rfl rfl ?_
  refine z_iast (ws' := wSh g h a s f w (up o c n) p t lo sl fa) 7 4 hC dX0_putStick_6 rfl rfl (by decide) (by omega) rfl ?_
  refine z_aloadn 8 hC 0 dX0_putStick_7 rfl rfl rfl ?_
  refine z_get 11 0 4 hC hinX0 L24 dX0_putStick_8 rfl rfl rfl (by decide) rfl ?_
  refine z_iloadn 12 hC 1 dX0_putStick_11 rfl rfl rfl ?_
  refine z_aloadn 13 hC 0 dX0_putStick_12 rfl rfl rfl ?_
  refine z_iloadn 14 hC 1 dX0_putStick_13 rfl rfl rfl ?_
  refine z_calli (wr := []) (w2 := fun _ => wSh g h a s f w (up o c n) p t lo sl fa) 17 hC [0, 1, 2, 3, 4, 5, 6] [] [0, 1, 2, 3, 4, 5, 6] (z_runV (nA := 1) hC hN (c_X0_height l D g h a s f w (up o c n) p t lo sl fa c (by omega)) [0, 1, 2, 3, 4, 5, 6] rfl (by decide) gX0_putStick_X0_height (by decide +kernel) rfl rfl rfl ⟨by decide, by decide⟩ rfl rfl (nle rfl) dX0_putStick_14 ⟨by decide, by decide⟩ 0 rfl rfl) rfl rfl (by decide) (by decide) (fun _ => rfl) (by decide) rfl (k2 := 0) (n2 := 0) rfl rfl (fun z_1 _ p_2 => ?_)
  subst p_2
  refine z_iast (ws' := wSh g h a s f w (up o c n) (up p c (hg s c)) t lo sl fa) 18 5 hC dX0_putStick_17 rfl rfl (by decide) (by omega) rfl ?_
  exact hret () dX0_putStick_18 (by trivial)
set_option maxHeartbeats 4000000 in
set_option maxRecDepth 100000 in
theorem c_X0_beside (l : Launch) (D : va_G) (g : Nat → ClassId) (c k : Int) (hc : 0 ≤ c ∧ c < 120) (hk : 0 ≤ k ∧ k < 4) : ZMi (S := Unit) l yX0_beside wsX0_beside ({ frames := 0, cells := 0, slots := 0, locals := 0 }) D g [.int (iI c), .int (iI k)] ([]) (fun z _ => z = bsd c k) (fun _ => []) 0 0 := by
  refine ZMi.of (own := RX0) cX0_beside 3 [(0, .int (iI c)), (1, .int (iI k))] (by decide +kernel) rfl (nle rfl) rfl rfl ?_
  intro E hC hN hret
  refine z_iloadn 1 hC 0 dX0_beside_0 rfl rfl rfl ?_
  refine z_bipush 3 hC dX0_beside_1 (by decide) rfl ?_
  refine z_irem 4 hC dX0_beside_3 rfl (by omega) (by omega) ?_
  refine z_istoren (lv' := [(2, .int (iI (c % 12))), (0, .int (iI c)), (1, .int (iI k))]) 5 hC dX0_beside_4 rfl rfl (by decide) rfl ?_
  refine z_iloadn 6 hC 2 dX0_beside_5 rfl rfl rfl ?_
  by_cases e_1 : k = 0
  · refine z_tabIn 32 0 hC dX0_beside_6 e_1 (by decide) rfl rfl (by decide) ?_
    refine z_iloadn 33 hC 1 dX0_beside_32 rfl rfl rfl ?_
    refine z_bipush 35 hC dX0_beside_33 (by decide) rfl ?_
    refine z_icmp_lt 45 38 hC dX0_beside_35 (by decide) rfl (by omega) (by omega) (fun c_2 => ?_) (fun c_2 => ?_)
    · skip
      refine z_iconst 46 hC dX0_beside_45 rfl ?_
      exact hret () dX0_beside_46 rfl (by unfold bsd; omega)
    · skip
      refine z_iloadn 39 hC 1 dX0_beside_38 rfl rfl rfl ?_
      refine z_bipush 41 hC dX0_beside_39 (by decide) rfl ?_
      refine z_isub 42 hC dX0_beside_41 rfl ?_
      refine z_goto 46 hC dX0_beside_42 (by decide) ?_
      exact hret () dX0_beside_46 rfl (by unfold bsd; omega)
  by_cases e_3 : k = 1
  · refine z_tabIn 47 1 hC dX0_beside_6 e_3 (by decide) rfl rfl (by decide) ?_
    refine z_iloadn 48 hC 0 dX0_beside_47 rfl rfl rfl ?_
    refine z_if_le 57 51 hC dX0_beside_48 (by decide) rfl (by omega) (fun c_4 => ?_) (fun c_4 => ?_)
    · skip
      refine z_iconst 58 hC dX0_beside_57 rfl ?_
      exact hret () dX0_beside_58 rfl (by unfold bsd; omega)
    · skip
      refine z_iloadn 52 hC 1 dX0_beside_51 rfl rfl rfl ?_
      refine z_iconst 53 hC dX0_beside_52 rfl ?_
      refine z_isub 54 hC dX0_beside_53 rfl ?_
      refine z_goto 58 hC dX0_beside_54 (by decide) ?_
      exact hret () dX0_beside_58 rfl (by unfold bsd; omega)
  by_cases e_5 : k = 2
  · refine z_tabIn 59 2 hC dX0_beside_6 e_5 (by decide) rfl rfl (by decide) ?_
    refine z_iloadn 60 hC 0 dX0_beside_59 rfl rfl rfl ?_
    refine z_bipush 62 hC dX0_beside_60 (by decide) rfl ?_
    refine z_icmp_ge 71 65 hC dX0_beside_62 (by decide) rfl (by omega) (by omega) (fun c_6 => ?_) (fun c_6 => ?_)
    · skip
      refine z_iconst 72 hC dX0_beside_71 rfl ?_
      exact hret () dX0_beside_72 rfl (by unfold bsd; omega)
    · skip
      refine z_iloadn 66 hC 1 dX0_beside_65 rfl rfl rfl ?_
      refine z_iconst 67 hC dX0_beside_66 rfl ?_
      refine z_iadd 68 hC dX0_beside_67 rfl ?_
      refine z_goto 72 hC dX0_beside_68 (by decide) ?_
      exact hret () dX0_beside_72 rfl (by unfold bsd; omega)
  refine z_tabOut 73 hC dX0_beside_6 (by omega) (by omega) (by decide) ?_
  refine z_iloadn 74 hC 1 dX0_beside_73 rfl rfl rfl ?_
  refine z_bipush 76 hC dX0_beside_74 (by decide) rfl ?_
  refine z_icmp_ge 86 79 hC dX0_beside_76 (by decide) rfl (by omega) (by omega) (fun c_7 => ?_) (fun c_7 => ?_)
  · skip
    refine z_iconst 87 hC dX0_beside_86 rfl ?_
    exact hret () dX0_beside_87 rfl (by unfold bsd; omega)
  · skip
    refine z_iloadn 80 hC 1 dX0_beside_79 rfl rfl rfl ?_
    refine z_bipush 82 hC dX0_beside_80 (by decide) rfl ?_
    refine z_iadd 83 hC dX0_beside_82 rfl ?_
    refine z_goto 87 hC dX0_beside_83 (by decide) ?_
    exact hret () dX0_beside_87 rfl (by unfold bsd; omega)
set_option maxHeartbeats 4000000 in
set_option maxRecDepth 100000 in
theorem c_X0_lowestBeside (l : Launch) (D : va_G) (g : Nat → ClassId) (h : Nat) (a : Nat → Nat) (s f w o p t : Int → Int) (lo sl fa : Int) (c : Int) (hc : 0 ≤ c ∧ c < 120) (hs : Bd s 120 0 20) : ZMi (S := Unit) l yX0_lowestBeside wsX0_lowestBeside ({ frames := 1, cells := 0, slots := 0, locals := 40 }) D g [.ref h, .int (iI c)] (wSh g h a s f w o p t lo sl fa) (fun z _ => z = low s c) (fun _ => wSh g h a s f w o p t lo sl fa) 0 0 := by
  refine ZMi.of (own := RX0) cX0_lowestBeside 5 [(0, .ref h), (1, .int (iI c))] (by decide +kernel) rfl (nle rfl) rfl rfl ?_
  intro E hC hN hret
  refine z_iconst 1 hC dX0_lowestBeside_0 rfl ?_
  refine z_istoren (lv' := [(2, .int (iI (-1))), (0, .ref h), (1, .int (iI c))]) 2 hC dX0_lowestBeside_1 rfl rfl (by decide) rfl ?_
  refine z_iconst 3 hC dX0_lowestBeside_2 rfl ?_
  refine z_istoren (lv' := [(3, .int (iI 0)), (2, .int (iI (-1))), (0, .ref h), (1, .int (iI c))]) 4 hC dX0_lowestBeside_3 rfl rfl (by decide) rfl ?_
  have loop4 : ∀ (N4 : Nat) (i : Int), 0 ≤ i ∧ i ≤ 4 → (4 - i : Int) < N4 → Z E (wSh g h a s f w o p t lo sl fa) [(0, .ref h), (1, .int (iI c)), (2, .int (iI (lowk s c i))), (3, .int (iI i))] 0 0 4 [] := by
    intro N4
    induction N4 with
    | zero => intro i hi hm4; exact absurd hm4 (by omega)
    | succ N4 ih4 =>
      intro i hi hm4
      have qlk := lowk_rg s hc hi.1
      refine z_iloadn 5 hC 3 dX0_lowestBeside_4 rfl rfl rfl ?_
      refine z_iconst 6 hC dX0_lowestBeside_5 rfl ?_
      refine z_icmp_ge 50 9 hC dX0_lowestBeside_6 (by decide) rfl (by omega) (by omega) (fun c_1 => ?_) (fun c_1 => ?_)
      · skip
        refine z_iloadn 51 hC 2 dX0_lowestBeside_50 rfl rfl rfl ?_
        exact hret () dX0_lowestBeside_51 rfl (by (have e : i = 4 := by omega); subst e; rfl)
      · skip
        refine z_iloadn 10 hC 1 dX0_lowestBeside_9 rfl rfl rfl ?_
        refine z_iloadn 11 hC 3 dX0_lowestBeside_10 rfl rfl rfl ?_
        refine z_calli (wr := [(h, .inr (0, [.ref (a 0), .ref (a 1), .ref (a 2), .ref (a 3), .ref (a 4), .ref (a 5), .int (iI lo), .int (iI sl), .int (iI fa)])), ((a 0), ar g 120 s), ((a 1), ar g 120 f), ((a 2), ar g 120 w), ((a 3), ar g 120 o), ((a 4), ar g 120 p), ((a 5), ar g 120 t)]) (w2 := fun _ => wSh g h a s f w o p t lo sl fa) 14 hC [] [0, 1, 2, 3, 4, 5, 6] [0, 1, 2, 3, 4, 5, 6] (z_runS (nA := 2) hC hN (c_X0_beside l D g c i (by omega) (by omega)) [] rfl (by decide) gX0_lowestBeside_X0_beside (by decide +kernel) rfl rfl rfl ⟨by decide, by decide⟩ rfl rfl (nle rfl) dX0_lowestBeside_11 ⟨by decide, by decide⟩) rfl rfl (by decide) (by decide) (fun _ => rfl) (by decide) rfl (k2 := 0) (n2 := 0) rfl rfl (fun z_3 _ p_4 => ?_)
        subst p_4
        have q_2 := bsd_rg (c := c) (by omega) i
        refine z_istore (lv' := [(4, .int (iI (bsd c i))), (0, .ref h), (1, .int (iI c)), (2, .int (iI (lowk s c i))), (3, .int (iI i))]) 16 hC dX0_lowestBeside_14 rfl (by decide) rfl ?_
        refine z_iload 18 hC 0 dX0_lowestBeside_16 rfl rfl ?_
        refine z_iconst 19 hC dX0_lowestBeside_18 rfl ?_
        refine z_icmp_eq 44 22 hC dX0_lowestBeside_19 (by decide) rfl (by omega) (by omega) (fun c_5 => ?_) (fun c_5 => ?_)
        · skip
          refine z_iinc (lv' := [(3, .int (iI (i + 1))), (4, .int (iI (bsd c i))), (0, .ref h), (1, .int (iI c)), (2, .int (iI (lowk s c i)))]) 47 4 hC dX0_lowestBeside_44 rfl rfl (by decide) rfl ?_
          refine z_goto 4 hC dX0_lowestBeside_47 (by decide) ?_
          refine z_lv (lv' := [(0, .ref h), (1, .int (iI c)), (2, .int (iI (lowk s c i))), (3, .int (iI (i + 1)))]) [2, 3, 4, 0] rfl ?_
          refine z_lveq (lv' := [(0, .ref h), (1, .int (iI c)), (2, .int (iI (lowk s c (i + 1)))), (3, .int (iI (i + 1)))]) (zfk (zfk (zlc (by rw [lowk_s s c (by omega)]; omega) (zfk rfl)))) ?_
          exact ih4 (i + 1) (by omega) (by omega)
        · skip
          refine z_iloadn 23 hC 3 dX0_lowestBeside_22 rfl rfl rfl ?_
          refine z_iconst 24 hC dX0_lowestBeside_23 rfl ?_
          refine z_icmp_eq 41 27 hC dX0_lowestBeside_24 (by decide) rfl (by omega) (by omega) (fun c_6 => ?_) (fun c_6 => ?_)
          · skip
            refine z_iload 43 hC 0 dX0_lowestBeside_41 rfl rfl ?_
            refine z_istoren (lv' := [(2, .int (iI (bsd c i))), (4, .int (iI (bsd c i))), (0, .ref h), (1, .int (iI c)), (3, .int (iI i))]) 44 hC dX0_lowestBeside_43 rfl rfl (by decide) rfl ?_
            refine z_iinc (lv' := [(3, .int (iI (i + 1))), (2, .int (iI (bsd c i))), (4, .int (iI (bsd c i))), (0, .ref h), (1, .int (iI c))]) 47 4 hC dX0_lowestBeside_44 rfl rfl (by decide) rfl ?_
            refine z_goto 4 hC dX0_lowestBeside_47 (by decide) ?_
            refine z_lv (lv' := [(0, .ref h), (1, .int (iI c)), (2, .int (iI (bsd c i))), (3, .int (iI (i + 1)))]) [3, 4, 1, 0] rfl ?_
            refine z_lveq (lv' := [(0, .ref h), (1, .int (iI c)), (2, .int (iI (lowk s c (i + 1)))), (3, .int (iI (i + 1)))]) (zfk (zfk (zlc (by rw [lowk_s s c (by omega)]; omega) (zfk rfl)))) ?_
            exact ih4 (i + 1) (by omega) (by omega)
          · skip
            refine z_aloadn 28 hC 1 dX0_lowestBeside_27 rfl rfl rfl ?_
            refine z_iload 30 hC 0 dX0_lowestBeside_28 rfl rfl ?_
            refine z_calli (wr := []) (w2 := fun _ => wSh g h a s f w o p t lo sl fa) 33 hC [0, 1, 2, 3, 4, 5, 6] [] [0, 1, 2, 3, 4, 5, 6] (z_runV (nA := 1) hC hN (c_X0_height l D g h a s f w o p t lo sl fa (bsd c i) (by omega)) [0, 1, 2, 3, 4, 5, 6] rfl (by decide) gX0_lowestBeside_X0_height (by decide +kernel) rfl rfl rfl ⟨by decide, by decide⟩ rfl rfl (nle rfl) dX0_lowestBeside_30 ⟨by decide, by decide⟩ 0 rfl rfl) rfl rfl (by decide) (by decide) (fun _ => rfl) (by decide) rfl (k2 := 0) (n2 := 0) rfl rfl (fun z_8 _ p_9 => ?_)
            subst p_9
            have y_7 := hg_bd hs (c := bsd c i) (by omega)
            refine z_aloadn 34 hC 1 dX0_lowestBeside_33 rfl rfl rfl ?_
            refine z_iloadn 35 hC 3 dX0_lowestBeside_34 rfl rfl rfl ?_
            refine z_calli (wr := []) (w2 := fun _ => wSh g h a s f w o p t lo sl fa) 38 hC [0, 1, 2, 3, 4, 5, 6] [] [0, 1, 2, 3, 4, 5, 6] (z_runV (nA := 1) hC hN (c_X0_height l D g h a s f w o p t lo sl fa (lowk s c i) (by omega)) [0, 1, 2, 3, 4, 5, 6] rfl (by decide) gX0_lowestBeside_X0_height (by decide +kernel) rfl rfl rfl ⟨by decide, by decide⟩ rfl rfl (nle rfl) dX0_lowestBeside_35 ⟨by decide, by decide⟩ 0 rfl rfl) rfl rfl (by decide) (by decide) (fun _ => rfl) (by decide) rfl (k2 := 0) (n2 := 0) rfl rfl (fun z_11 _ p_12 => ?_)
            subst p_12
            have y_10 := hg_bd hs (c := lowk s c i) (by omega)
            refine z_icmp_ge 44 41 hC dX0_lowestBeside_38 (by decide) rfl (by omega) (by omega) (fun c_13 => ?_) (fun c_13 => ?_)
            · skip
              refine z_iinc (lv' := [(3, .int (iI (i + 1))), (4, .int (iI (bsd c i))), (0, .ref h), (1, .int (iI c)), (2, .int (iI (lowk s c i)))]) 47 4 hC dX0_lowestBeside_44 rfl rfl (by decide) rfl ?_
              refine z_goto 4 hC dX0_lowestBeside_47 (by decide) ?_
              refine z_lv (lv' := [(0, .ref h), (1, .int (iI c)), (2, .int (iI (lowk s c i))), (3, .int (iI (i + 1)))]) [2, 3, 4, 0] rfl ?_
              refine z_lveq (lv' := [(0, .ref h), (1, .int (iI c)), (2, .int (iI (lowk s c (i + 1)))), (3, .int (iI (i + 1)))]) (zfk (zfk (zlc (by rw [lowk_s s c (by omega)]; omega) (zfk rfl)))) ?_
              exact ih4 (i + 1) (by omega) (by omega)
            · skip
              refine z_iload 43 hC 0 dX0_lowestBeside_41 rfl rfl ?_
              refine z_istoren (lv' := [(2, .int (iI (bsd c i))), (4, .int (iI (bsd c i))), (0, .ref h), (1, .int (iI c)), (3, .int (iI i))]) 44 hC dX0_lowestBeside_43 rfl rfl (by decide) rfl ?_
              refine z_iinc (lv' := [(3, .int (iI (i + 1))), (2, .int (iI (bsd c i))), (4, .int (iI (bsd c i))), (0, .ref h), (1, .int (iI c))]) 47 4 hC dX0_lowestBeside_44 rfl rfl (by decide) rfl ?_
              refine z_goto 4 hC dX0_lowestBeside_47 (by decide) ?_
              refine z_lv (lv' := [(0, .ref h), (1, .int (iI c)), (2, .int (iI (bsd c i))), (3, .int (iI (i + 1)))]) [3, 4, 1, 0] rfl ?_
              refine z_lveq (lv' := [(0, .ref h), (1, .int (iI c)), (2, .int (iI (lowk s c (i + 1)))), (3, .int (iI (i + 1)))]) (zfk (zfk (zlc (by rw [lowk_s s c (by omega)]; omega) (zfk rfl)))) ?_
              exact ih4 (i + 1) (by omega) (by omega)
  refine z_lv (lv' := [(0, .ref h), (1, .int (iI c)), (2, .int (iI (-1))), (3, .int (iI 0))]) [2, 3, 1, 0] rfl ?_
  refine z_lveq (lv' := [(0, .ref h), (1, .int (iI c)), (2, .int (iI (lowk s c 0))), (3, .int (iI 0))]) (zfk (zfk (zlc (by rfl) (zfk rfl)))) ?_
  exact loop4 ((4 - 0 + 1 : Int).toNat) 0 (by omega) (by omega)
set_option maxHeartbeats 4000000 in
set_option maxRecDepth 100000 in
theorem c_X0_isOpenToSea (l : Launch) (D : va_G) (g : Nat → ClassId) (h : Nat) (a : Nat → Nat) (s f w o p t : Int → Int) (lo sl fa : Int) (c : Int) (hc : 0 ≤ c ∧ c < 120) (hw : Bd w 120 0 1) : ZMi (S := Unit) l yX0_isOpenToSea wsX0_isOpenToSea ({ frames := 1, cells := 0, slots := 0, locals := 40 }) D g [.ref h, .int (iI c)] (wSh g h a s f w o p t lo sl fa) (fun z _ => (z = 0 ∨ z = 1) ∧ (z = 1 ↔ opn w c)) (fun _ => wSh g h a s f w o p t lo sl fa) 0 0 := by
  refine ZMi.of (own := RX0) cX0_isOpenToSea 4 [(0, .ref h), (1, .int (iI c))] (by decide +kernel) rfl (nle rfl) rfl rfl ?_
  intro E hC hN hret
  refine z_iloadn 1 hC 1 dX0_isOpenToSea_0 rfl rfl rfl ?_
  refine z_bipush 3 hC dX0_isOpenToSea_1 (by decide) rfl ?_
  refine z_icmp_ge 8 6 hC dX0_isOpenToSea_3 (by decide) rfl (by omega) (by omega) (fun c_1 => ?_) (fun c_1 => ?_)
  · skip
    refine z_iconst 9 hC dX0_isOpenToSea_8 rfl ?_
    refine z_istoren (lv' := [(2, .int (iI 0)), (0, .ref h), (1, .int (iI c))]) 10 hC dX0_isOpenToSea_9 rfl rfl (by decide) rfl ?_
    have loop10 : ∀ (N10 : Nat) (i : Int), 0 ≤ i ∧ i ≤ 4 → (∀ k : Int, 0 ≤ k → k < i → bsd c k = -1 ∨ w (bsd c k) = 0) → (4 - i : Int) < N10 → Z E (wSh g h a s f w o p t lo sl fa) [(0, .ref h), (1, .int (iI c)), (2, .int (iI i))] 0 0 10 [] := by
      intro N10
      induction N10 with
      | zero => intro i hi hj hm10; exact absurd hm10 (by omega)
      | succ N10 ih10 =>
        intro i hi hj hm10
        refine z_iloadn 11 hC 2 dX0_isOpenToSea_10 rfl rfl rfl ?_
        refine z_iconst 12 hC dX0_isOpenToSea_11 rfl ?_
        refine z_icmp_ge 42 15 hC dX0_isOpenToSea_12 (by decide) rfl (by omega) (by omega) (fun c_2 => ?_) (fun c_2 => ?_)
        · skip
          refine z_iconst 43 hC dX0_isOpenToSea_42 rfl ?_
          exact hret () dX0_isOpenToSea_43 (by decide) (by first | exact ⟨by omega, iff_of_true rfl (Or.inl (by omega))⟩ | exact ⟨by omega, iff_of_true rfl (Or.inr ⟨i, by omega, by omega, by omega, by omega⟩)⟩ | (refine ⟨by omega, iff_of_false (by decide) ?_⟩; rintro (q | ⟨k, k0, k1, k2, k3⟩); omega; rcases hj k k0 (by omega) with q | q; exact k2 q; exact k3 q))
        · skip
          refine z_iloadn 16 hC 1 dX0_isOpenToSea_15 rfl rfl rfl ?_
          refine z_iloadn 17 hC 2 dX0_isOpenToSea_16 rfl rfl rfl ?_
          refine z_calli (wr := [(h, .inr (0, [.ref (a 0), .ref (a 1), .ref (a 2), .ref (a 3), .ref (a 4), .ref (a 5), .int (iI lo), .int (iI sl), .int (iI fa)])), ((a 0), ar g 120 s), ((a 1), ar g 120 f), ((a 2), ar g 120 w), ((a 3), ar g 120 o), ((a 4), ar g 120 p), ((a 5), ar g 120 t)]) (w2 := fun _ => wSh g h a s f w o p t lo sl fa) 20 hC [] [0, 1, 2, 3, 4, 5, 6] [0, 1, 2, 3, 4, 5, 6] (z_runS (nA := 2) hC hN (c_X0_beside l D g c i (by omega) (by omega)) [] rfl (by decide) gX0_isOpenToSea_X0_beside (by decide +kernel) rfl rfl rfl ⟨by decide, by decide⟩ rfl rfl (nle rfl) dX0_isOpenToSea_17 ⟨by decide, by decide⟩) rfl rfl (by decide) (by decide) (fun _ => rfl) (by decide) rfl (k2 := 0) (n2 := 0) rfl rfl (fun z_4 _ p_5 => ?_)
          subst p_5
          have q_3 := bsd_rg (c := c) (by omega) i
          refine z_istoren (lv' := [(3, .int (iI (bsd c i))), (0, .ref h), (1, .int (iI c)), (2, .int (iI i))]) 21 hC dX0_isOpenToSea_20 rfl rfl (by decide) rfl ?_
          refine z_iloadn 22 hC 0 dX0_isOpenToSea_21 rfl rfl rfl ?_
          refine z_iconst 23 hC dX0_isOpenToSea_22 rfl ?_
          refine z_icmp_eq 36 26 hC dX0_isOpenToSea_23 (by decide) rfl (by omega) (by omega) (fun c_6 => ?_) (fun c_6 => ?_)
          · skip
            refine z_iinc (lv' := [(2, .int (iI (i + 1))), (3, .int (iI (bsd c i))), (0, .ref h), (1, .int (iI c))]) 39 3 hC dX0_isOpenToSea_36 rfl rfl (by decide) rfl ?_
            refine z_goto 10 hC dX0_isOpenToSea_39 (by decide) ?_
            refine z_lv (lv' := [(0, .ref h), (1, .int (iI c)), (2, .int (iI (i + 1)))]) [2, 3, 0] rfl ?_
            exact ih10 (i + 1) (by omega) (by intro k h0 h1; by_cases e : k = i; subst e; omega; exact hj k h0 (by omega)) (by omega)
          · skip
            refine z_aloadn 27 hC 1 dX0_isOpenToSea_26 rfl rfl rfl ?_
            refine z_iloadn 28 hC 0 dX0_isOpenToSea_27 rfl rfl rfl ?_
            refine z_calli (wr := []) (w2 := fun _ => wSh g h a s f w o p t lo sl fa) 31 hC [0, 1, 2, 3, 4, 5, 6] [] [0, 1, 2, 3, 4, 5, 6] (z_runV (nA := 1) hC hN (c_X0_isWet l D g h a s f w o p t lo sl fa (bsd c i) (by omega) hw) [0, 1, 2, 3, 4, 5, 6] rfl (by decide) gX0_isOpenToSea_X0_isWet (by decide +kernel) rfl rfl rfl ⟨by decide, by decide⟩ rfl rfl (nle rfl) dX0_isOpenToSea_28 ⟨by decide, by decide⟩ 0 rfl rfl) rfl rfl (by decide) (by decide) (fun _ => rfl) (by decide) rfl (k2 := 0) (n2 := 0) rfl rfl (fun z_7 _ p_8 => ?_)
            refine z_if_eq 36 34 hC dX0_isOpenToSea_31 (by decide) rfl (by omega) (fun c_9 => ?_) (fun c_9 => ?_)
            · skip
              refine z_iinc (lv' := [(2, .int (iI (i + 1))), (3, .int (iI (bsd c i))), (0, .ref h), (1, .int (iI c))]) 39 3 hC dX0_isOpenToSea_36 rfl rfl (by decide) rfl ?_
              refine z_goto 10 hC dX0_isOpenToSea_39 (by decide) ?_
              refine z_lv (lv' := [(0, .ref h), (1, .int (iI c)), (2, .int (iI (i + 1)))]) [2, 3, 0] rfl ?_
              exact ih10 (i + 1) (by omega) (by intro k h0 h1; by_cases e : k = i; subst e; omega; exact hj k h0 (by omega)) (by omega)
            · skip
              refine z_iconst 35 hC dX0_isOpenToSea_34 rfl ?_
              exact hret () dX0_isOpenToSea_35 (by decide) (by first | exact ⟨by omega, iff_of_true rfl (Or.inl (by omega))⟩ | exact ⟨by omega, iff_of_true rfl (Or.inr ⟨i, by omega, by omega, by omega, by omega⟩)⟩ | (refine ⟨by omega, iff_of_false (by decide) ?_⟩; rintro (q | ⟨k, k0, k1, k2, k3⟩); omega; rcases hj k k0 (by omega) with q | q; exact k2 q; exact k3 q))
    refine z_lv (lv' := [(0, .ref h), (1, .int (iI c)), (2, .int (iI 0))]) [1, 2, 0] rfl ?_
    exact loop10 ((4 - 0 + 1 : Int).toNat) 0 (by omega) (by intro k h0 h1; omega) (by omega)
  · skip
    refine z_iconst 7 hC dX0_isOpenToSea_6 rfl ?_
    exact hret () dX0_isOpenToSea_7 (by decide) (by first | exact ⟨by omega, iff_of_true rfl (Or.inl (by omega))⟩ | exact ⟨by omega, iff_of_true rfl (Or.inr ⟨i, by omega, by omega, by omega, by omega⟩)⟩ | (refine ⟨by omega, iff_of_false (by decide) ?_⟩; rintro (q | ⟨k, k0, k1, k2, k3⟩); omega; rcases hj k k0 (by omega) with q | q; exact k2 q; exact k3 q))
set_option maxHeartbeats 4000000 in
set_option maxRecDepth 100000 in
theorem c_X0_sweepWater (l : Launch) (D : va_G) (g : Nat → ClassId) (h : Nat) (a : Nat → Nat) (s f w o p t : Int → Int) (lo sl fa : Int) (L : Int) (hs : Bd s 120 0 20) (hw : Bd w 120 0 1) (hL : -1000 ≤ L ∧ L ≤ 1000) : ZMi (S := (Int → Int)) l yX0_sweepWater wsX0_sweepWater ({ frames := 2, cells := 0, slots := 0, locals := 90 }) D g [.ref h, .int (iI L)] (wSh g h a s f w o p t lo sl fa) (fun z u => swQ s w L z u) (fun u => wSh g h a s f u o p t lo sl fa) 0 0 := by
  have hinX0 : ∀ w ∈ u_ws RX0 TX0 9, w ∈ wsX0_sweepWater := by decide +kernel
  have L18 : Cond.fieldLink RX0 18 "SandcastleLeague$Shore" "water" "[I" ∈ wsX0_sweepWater := by decide +kernel
  refine ZMi.of (own := RX0) cX0_sweepWater 4 [(0, .ref h), (1, .int (iI L))] (by decide +kernel) rfl (nle rfl) rfl rfl ?_
  intro E hC hN hret
  refine z_iconst 1 hC dX0_sweepWater_0 rfl ?_
  refine z_istoren (lv' := [(2, .int (iI 0)), (0, .ref h), (1, .int (iI L))]) 2 hC dX0_sweepWater_1 rfl rfl (by decide) rfl ?_
  refine z_iconst 3 hC dX0_sweepWater_2 rfl ?_
  refine z_istoren (lv' := [(3, .int (iI 0)), (2, .int (iI 0)), (0, .ref h), (1, .int (iI L))]) 4 hC dX0_sweepWater_3 rfl rfl (by decide) rfl ?_
  have loop4 : ∀ (N4 : Nat) (r : Int) (i : Int) (v : Int → Int), 0 ≤ i ∧ i ≤ 120 → swI s w L i r v → (120 - i : Int) < N4 → Z E (wSh g h a s f v o p t lo sl fa) [(0, .ref h), (1, .int (iI L)), (2, .int (iI r)), (3, .int (iI i))] 0 0 4 [] := by
    intro N4
    induction N4 with
    | zero => intro r i v hi hI hm4; exact absurd hm4 (by omega)
    | succ N4 ih4 =>
      intro r i v hi hI hm4
      have hr := hI.1
      have hv := hI.2.1
      refine z_iloadn 5 hC 3 dX0_sweepWater_4 rfl rfl rfl ?_
      refine z_bipush 7 hC dX0_sweepWater_5 (by decide) rfl ?_
      refine z_icmp_ge 50 10 hC dX0_sweepWater_7 (by decide) rfl (by omega) (by omega) (fun c_1 => ?_) (fun c_1 => ?_)
      · skip
        refine z_iloadn 51 hC 2 dX0_sweepWater_50 rfl rfl rfl ?_
        exact hret v dX0_sweepWater_51 (znb (by omega)) (by (have e : i = 120 := by omega); subst e; exact hI)
      · skip
        refine z_aloadn 11 hC 0 dX0_sweepWater_10 rfl rfl rfl ?_
        refine z_iloadn 12 hC 3 dX0_sweepWater_11 rfl rfl rfl ?_
        refine z_calli (wr := []) (w2 := fun _ => wSh g h a s f v o p t lo sl fa) 15 hC [0, 1, 2, 3, 4, 5, 6] [] [0, 1, 2, 3, 4, 5, 6] (z_runV (nA := 1) hC hN (c_X0_isWet l D g h a s f v o p t lo sl fa i (by omega) hv) [0, 1, 2, 3, 4, 5, 6] rfl (by decide) gX0_sweepWater_X0_isWet (by decide +kernel) rfl rfl rfl ⟨by decide, by decide⟩ rfl rfl (nle rfl) dX0_sweepWater_12 ⟨by decide, by decide⟩ 0 rfl rfl) rfl rfl (by decide) (by decide) (fun _ => rfl) (by decide) rfl (k2 := 0) (n2 := 0) rfl rfl (fun z_2 _ p_3 => ?_)
        refine z_if_ne 44 18 hC dX0_sweepWater_15 (by decide) rfl (by omega) (fun c_4 => ?_) (fun c_4 => ?_)
        · skip
          refine z_iinc (lv' := [(3, .int (iI (i + 1))), (0, .ref h), (1, .int (iI L)), (2, .int (iI r))]) 47 3 hC dX0_sweepWater_44 rfl rfl (by decide) rfl ?_
          refine z_goto 4 hC dX0_sweepWater_47 (by decide) ?_
          refine z_lv (lv' := [(0, .ref h), (1, .int (iI L)), (2, .int (iI r)), (3, .int (iI (i + 1)))]) [1, 2, 3, 0] rfl ?_
          exact ih4 r (i + 1) v (by omega) (by first | exact swI_set hI hw (by omega) (by omega) (by omega) (p_3.2.mp (by omega)) | exact swI_skip hI (by omega) (fun q1 q2 q3 => by omega) | exact swI_skip hI (by omega) (fun q1 q2 q3 => by have := p_3.2.mpr q3; omega)) (by omega)
        · skip
          refine z_aloadn 19 hC 0 dX0_sweepWater_18 rfl rfl rfl ?_
          refine z_iloadn 20 hC 3 dX0_sweepWater_19 rfl rfl rfl ?_
          refine z_calli (wr := []) (w2 := fun _ => wSh g h a s f v o p t lo sl fa) 23 hC [0, 1, 2, 3, 4, 5, 6] [] [0, 1, 2, 3, 4, 5, 6] (z_runV (nA := 1) hC hN (c_X0_height l D g h a s f v o p t lo sl fa i (by omega)) [0, 1, 2, 3, 4, 5, 6] rfl (by decide) gX0_sweepWater_X0_height (by decide +kernel) rfl rfl rfl ⟨by decide, by decide⟩ rfl rfl (nle rfl) dX0_sweepWater_20 ⟨by decide, by decide⟩ 0 rfl rfl) rfl rfl (by decide) (by decide) (fun _ => rfl) (by decide) rfl (k2 := 0) (n2 := 0) rfl rfl (fun z_6 _ p_7 => ?_)
          subst p_7
          have y_5 := hg_bd hs (c := i) (by omega)
          refine z_iloadn 24 hC 1 dX0_sweepWater_23 rfl rfl rfl ?_
          refine z_icmp_ge 44 27 hC dX0_sweepWater_24 (by decide) rfl (by omega) (by omega) (fun c_8 => ?_) (fun c_8 => ?_)
          · skip
            refine z_iinc (lv' := [(3, .int (iI (i + 1))), (0, .ref h), (1, .int (iI L)), (2, .int (iI r))]) 47 3 hC dX0_sweepWater_44 rfl rfl (by decide) rfl ?_
            refine z_goto 4 hC dX0_sweepWater_47 (by decide) ?_
            refine z_lv (lv' := [(0, .ref h), (1, .int (iI L)), (2, .int (iI r)), (3, .int (iI (i + 1)))]) [1, 2, 3, 0] rfl ?_
            exact ih4 r (i + 1) v (by omega) (by first | exact swI_set hI hw (by omega) (by omega) (by omega) (p_7.2.mp (by omega)) | exact swI_skip hI (by omega) (fun q1 q2 q3 => by omega) | exact swI_skip hI (by omega) (fun q1 q2 q3 => by have := p_7.2.mpr q3; omega)) (by omega)
          · skip
            refine z_aloadn 28 hC 0 dX0_sweepWater_27 rfl rfl rfl ?_
            refine z_iloadn 29 hC 3 dX0_sweepWater_28 rfl rfl rfl ?_
            refine z_calli (wr := []) (w2 := fun _ => wSh g h a s f v o p t lo sl fa) 32 hC [0, 1, 2, 3, 4, 5, 6] [] [0, 1, 2, 3, 4, 5, 6] (z_runV (nA := 1) hC hN (c_X0_isOpenToSea l D g h a s f v o p t lo sl fa i (by omega) hv) [0, 1, 2, 3, 4, 5, 6] rfl (by decide) gX0_sweepWater_X0_isOpenToSea (by decide +kernel) rfl rfl rfl ⟨by decide, by decide⟩ rfl rfl (nle rfl) dX0_sweepWater_29 ⟨by decide, by decide⟩ 0 rfl rfl) rfl rfl (by decide) (by decide) (fun _ => rfl) (by decide) rfl (k2 := 0) (n2 := 0) rfl rfl (fun z_9 _ p_10 => ?_)
            refine z_if_eq 44 35 hC dX0_sweepWater_32 (by decide) rfl (by omega) (fun c_11 => ?_) (fun c_11 => ?_)
            · skip
              refine z_iinc (lv' := [(3, .int (iI (i + 1))), (0, .ref h), (1, .int (iI L)), (2, .int (iI r))]) 47 3 hC dX0_sweepWater_44 rfl rfl (by decide) rfl ?_
              refine z_goto 4 hC dX0_sweepWater_47 (by decide) ?_
              refine z_lv (lv' := [(0, .ref h), (1, .int (iI L)), (2, .int (iI r)), (3, .int (iI (i + 1)))]) [1, 2, 3, 0] rfl ?_
              exact ih4 r (i + 1) v (by omega) (by first | exact swI_set hI hw (by omega) (by omega) (by omega) (p_10.2.mp (by omega)) | exact swI_skip hI (by omega) (fun q1 q2 q3 => by omega) | exact swI_skip hI (by omega) (fun q1 q2 q3 => by have := p_10.2.mpr q3; omega)) (by omega)
            · skip
              refine z_aloadn 36 hC 0 dX0_sweepWater_35 rfl rfl rfl ?_
              refine z_get 39 0 2 hC hinX0 L18 dX0_sweepWater_36 rfl rfl rfl (by decide) rfl ?_
              refine z_iloadn 40 hC 3 dX0_sweepWater_39 rfl rfl rfl ?_
              refine z_iconst 41 hC dX0_sweepWater_40 rfl ?_
              refine z_iast (ws' := wSh g h a s f (up v i 1) o p t lo sl fa) 42 3 hC dX0_sweepWater_41 rfl rfl (by decide) (by omega) rfl ?_
              refine z_iconst 43 hC dX0_sweepWater_42 rfl ?_
              refine z_istoren (lv' := [(2, .int (iI 1)), (0, .ref h), (1, .int (iI L)), (3, .int (iI i))]) 44 hC dX0_sweepWater_43 rfl rfl (by decide) rfl ?_
              refine z_iinc (lv' := [(3, .int (iI (i + 1))), (2, .int (iI 1)), (0, .ref h), (1, .int (iI L))]) 47 3 hC dX0_sweepWater_44 rfl rfl (by decide) rfl ?_
              refine z_goto 4 hC dX0_sweepWater_47 (by decide) ?_
              refine z_lv (lv' := [(0, .ref h), (1, .int (iI L)), (2, .int (iI 1)), (3, .int (iI (i + 1)))]) [2, 3, 1, 0] rfl ?_
              exact ih4 1 (i + 1) (up v i 1) (by omega) (by first | exact swI_set hI hw (by omega) (by omega) (by omega) (p_10.2.mp (by omega)) | exact swI_skip hI (by omega) (fun q1 q2 q3 => by omega) | exact swI_skip hI (by omega) (fun q1 q2 q3 => by have := p_10.2.mpr q3; omega)) (by omega)
  refine z_lv (lv' := [(0, .ref h), (1, .int (iI L)), (2, .int (iI 0)), (3, .int (iI 0))]) [2, 3, 1, 0] rfl ?_
  exact loop4 ((120 - 0 + 1 : Int).toNat) 0 0 w (by omega) (by exact swI_0 L hw) (by omega)
set_option maxHeartbeats 4000000 in
set_option maxRecDepth 100000 in
theorem c_X0_findWater (l : Launch) (D : va_G) (g : Nat → ClassId) (h : Nat) (a : Nat → Nat) (s f w o p t : Int → Int) (lo sl fa : Int) (L : Int) (hs : Bd s 120 0 20) (hL : -1000 ≤ L ∧ L ≤ 1000) : ZMv (S := Unit) l yX0_findWater wsX0_findWater ({ frames := 3, cells := 0, slots := 0, locals := 160 }) D g [.ref h, .int (iI L)] (wSh g h a s f w o p t lo sl fa) (fun _ => True) (fun _ => wSh g h a s f (wet s L) o p t lo sl fa) 0 0 := by
  have hinX0 : ∀ w ∈ u_ws RX0 TX0 9, w ∈ wsX0_findWater := by decide +kernel
  have L18 : Cond.fieldLink RX0 18 "SandcastleLeague$Shore" "water" "[I" ∈ wsX0_findWater := by decide +kernel
  refine ZMv.of (ty := .int) (own := RX0) cX0_findWater 4 [(0, .ref h), (1, .int (iI L))] (by decide +kernel) rfl (nle rfl) rfl rfl ?_
  intro E hC hN hret
  refine z_aloadn 1 hC 0 dX0_findWater_0 rfl rfl rfl ?_
  refine z_get 4 0 2 hC hinX0 L18 dX0_findWater_1 rfl rfl rfl (by decide) rfl ?_
  refine z_iconst 5 hC dX0_findWater_4 rfl ?_
  refine z_callv (wr := [(h, .inr (0, [.ref (a 0), .ref (a 1), .ref (a 2), .ref (a 3), .ref (a 4), .ref (a 5), .int (iI lo), .int (iI sl), .int (iI fa)])), ((a 0), ar g 120 s), ((a 1), ar g 120 f), ((a 3), ar g 120 o), ((a 4), ar g 120 p), ((a 5), ar g 120 t)]) (w2 := fun _ => wSh g h a s f (fun _ => 0) o p t lo sl fa) 8 hC [3] [0, 1, 2, 4, 5, 6] [0, 1, 2, 6, 3, 4, 5] (z_runS (nA := 2) hC hN (c_J7_fill_53178 l D g (a 2) 120 w 0 (by omega)) [3] rfl (by decide) gX0_findWater_J7_fill_53178 (by decide +kernel) rfl rfl rfl ⟨by decide, by decide⟩ rfl rfl (nle rfl) dX0_findWater_5 ⟨by decide, by decide⟩) rfl rfl (by decide) (by decide) (fun _ => rfl) (by decide) rfl (k2 := 0) (n2 := 0) rfl rfl (fun _ p_1 => ?_)
  refine z_iconst 9 hC dX0_findWater_8 rfl ?_
  refine z_istoren (lv' := [(2, .int (iI 1)), (0, .ref h), (1, .int (iI L))]) 10 hC dX0_findWater_9 rfl rfl (by decide) rfl ?_
  refine z_iconst 11 hC dX0_findWater_10 rfl ?_
  refine z_istoren (lv' := [(3, .int (iI 0)), (2, .int (iI 1)), (0, .ref h), (1, .int (iI L))]) 12 hC dX0_findWater_11 rfl rfl (by decide) rfl ?_
  have loop12 : ∀ (N12 : Nat) (z : Int) (i : Int) (v : Int → Int), 0 ≤ i ∧ i ≤ 121 → fwI s L i z v → (121 - i : Int) < N12 → Z E (wSh g h a s f v o p t lo sl fa) [(0, .ref h), (1, .int (iI L)), (2, .int (iI z)), (3, .int (iI i))] 0 0 12 [] := by
    intro N12
    induction N12 with
    | zero => intro z i v hi hI hm12; exact absurd hm12 (by omega)
    | succ N12 ih12 =>
      intro z i v hi hI hm12
      have hz := hI.1
      have hv := hI.2.1
      refine z_iloadn 13 hC 2 dX0_findWater_12 rfl rfl rfl ?_
      refine z_if_eq 34 16 hC dX0_findWater_13 (by decide) rfl (by omega) (fun c_2 => ?_) (fun c_2 => ?_)
      · skip
        refine z_weq (ws' := wSh g h a s f (wet s L) o p t lo sl fa) (zEq.cons zE1.rf (zEq.cons zE1.rf (zEq.cons zE1.rf (zEq.cons (zE1.arr (by first | (intro j h0 h1; rfl) | (exact fwI_done hI (by omega)))) (zEq.cons zE1.rf (zEq.cons zE1.rf (zEq.cons zE1.rf zEq.nil))))))) ?_
        exact hret () dX0_findWater_34 (by trivial)
      · skip
        refine z_iloadn 17 hC 3 dX0_findWater_16 rfl rfl rfl ?_
        refine z_bipush 19 hC dX0_findWater_17 (by decide) rfl ?_
        refine z_icmp_gt 34 22 hC dX0_findWater_19 (by decide) rfl (by omega) (by omega) (fun c_3 => ?_) (fun c_3 => ?_)
        · skip
          refine z_weq (ws' := wSh g h a s f (wet s L) o p t lo sl fa) (zEq.cons zE1.rf (zEq.cons zE1.rf (zEq.cons zE1.rf (zEq.cons (zE1.arr (by first | (intro j h0 h1; rfl) | (exact fwI_done hI (by omega)))) (zEq.cons zE1.rf (zEq.cons zE1.rf (zEq.cons zE1.rf zEq.nil))))))) ?_
          exact hret () dX0_findWater_34 (by trivial)
        · skip
          refine z_aloadn 23 hC 0 dX0_findWater_22 rfl rfl rfl ?_
          refine z_iloadn 24 hC 1 dX0_findWater_23 rfl rfl rfl ?_
          refine z_calli (wr := []) (w2 := fun u_4 => wSh g h a s f u_4 o p t lo sl fa) 27 hC [0, 1, 2, 3, 4, 5, 6] [] [0, 1, 2, 3, 4, 5, 6] (z_runV (nA := 1) hC hN (c_X0_sweepWater l D g h a s f v o p t lo sl fa L hs hv (by omega)) [0, 1, 2, 3, 4, 5, 6] rfl (by decide) gX0_findWater_X0_sweepWater (by decide +kernel) rfl rfl rfl ⟨by decide, by decide⟩ rfl rfl (nle rfl) dX0_findWater_24 ⟨by decide, by decide⟩ 0 rfl rfl) rfl rfl (by decide) (by decide) (fun _ => rfl) (by decide) rfl (k2 := 0) (n2 := 0) rfl rfl (fun z_5 u_4 p_6 => ?_)
          refine z_istoren (lv' := [(2, .int (iI z_5)), (0, .ref h), (1, .int (iI L)), (3, .int (iI i))]) 28 hC dX0_findWater_27 rfl rfl (by decide) rfl ?_
          refine z_iinc (lv' := [(3, .int (iI (i + 1))), (2, .int (iI z_5)), (0, .ref h), (1, .int (iI L))]) 31 3 hC dX0_findWater_28 rfl rfl (by decide) rfl ?_
          refine z_goto 12 hC dX0_findWater_31 (by decide) ?_
          refine z_lv (lv' := [(0, .ref h), (1, .int (iI L)), (2, .int (iI z_5)), (3, .int (iI (i + 1)))]) [2, 3, 1, 0] rfl ?_
          exact ih12 z_5 (i + 1) u_4 (by omega) (by exact fwI_s hI (by omega) p_6) (by omega)
  refine z_lv (lv' := [(0, .ref h), (1, .int (iI L)), (2, .int (iI 1)), (3, .int (iI 0))]) [2, 3, 1, 0] rfl ?_
  exact loop12 ((121 - 0 + 1 : Int).toNat) 1 0 (fun _ => 0) (by omega) (by exact fwI_0 s L) (by omega)
set_option maxHeartbeats 4000000 in
set_option maxRecDepth 100000 in
theorem c_X0_washSandAway (l : Launch) (D : va_G) (g : Nat → ClassId) (h : Nat) (a : Nat → Nat) (s f w o p t : Int → Int) (lo sl fa : Int) (L : Int) (hs : Bd s 120 0 20) (hf : Bd f 120 0 5) (hw : Bd w 120 0 1) (hL : -1000 ≤ L ∧ L ≤ 1000) (hwt : ∀ j : Int, 0 ≤ j → j < 120 → w j ≠ 0 → hg s j < L) : ZMv (S := Unit) l yX0_washSandAway wsX0_washSandAway ({ frames := 2, cells := 0, slots := 0, locals := 60 }) D g [.ref h, .int (iI L)] (wSh g h a s f w o p t lo sl fa) (fun _ => True) (fun _ => wSh g h a (wsh s f w L 120) (wshF f w 120) w o p t (lo + wshL s f w L 120) sl fa) 0 0 := by
  have hinX0 : ∀ w ∈ u_ws RX0 TX0 9, w ∈ wsX0_washSandAway := by decide +kernel
  have L9 : Cond.fieldLink RX0 9 "SandcastleLeague$Shore" "sand" "[I" ∈ wsX0_washSandAway := by decide +kernel
  have L15 : Cond.fieldLink RX0 15 "SandcastleLeague$Shore" "firmness" "[I" ∈ wsX0_washSandAway := by decide +kernel
  have L39 : Cond.fieldLink RX0 39 "SandcastleLeague$Shore" "lostSand" "I" ∈ wsX0_washSandAway := by decide +kernel
  refine ZMv.of (ty := .int) (own := RX0) cX0_washSandAway 4 [(0, .ref h), (1, .int (iI L))] (by decide +kernel) rfl (nle rfl) rfl rfl ?_
  intro E hC hN hret
  refine z_iconst 1 hC dX0_washSandAway_0 rfl ?_
  refine z_istoren (lv' := [(2, .int (iI 0)), (0, .ref h), (1, .int (iI L))]) 2 hC dX0_washSandAway_1 rfl rfl (by decide) rfl ?_
  have loop2 : ∀ (N2 : Nat) (i : Int), 0 ≤ i ∧ i ≤ 120 → (120 - i : Int) < N2 → Z E (wSh g h a (wsh s f w L i) (wshF f w i) w o p t (lo + wshL s f w L i) sl fa) [(0, .ref h), (1, .int (iI L)), (2, .int (iI i))] 0 0 2 [] := by
    intro N2
    induction N2 with
    | zero => intro i hi hm2; exact absurd hm2 (by omega)
    | succ N2 ih2 =>
      intro i hi hm2
      have e1 := wsh_at s f w L i
      have e2 := wshF_at f w i
      have hv := wsh_bd f w L i hs
      have hu := wshF_bd w i hf
      have e3 : hg (wsh s f w L i) i = hg s i := by unfold hg; rw [e1]
      refine z_iloadn 3 hC 2 dX0_washSandAway_2 rfl rfl rfl ?_
      refine z_bipush 5 hC dX0_washSandAway_3 (by decide) rfl ?_
      refine z_icmp_ge 83 8 hC dX0_washSandAway_5 (by decide) rfl (by omega) (by omega) (fun c_1 => ?_) (fun c_1 => ?_)
      · skip
        obtain rfl : i = 120 := by omega
        refine z_weq (ws' := wSh g h a (wsh s f w L 120) (wshF f w 120) w o p t (lo + wshL s f w L 120) sl fa) (zEq.cons (zE1.obj (zfk (zfk (zfk (zfk (zfk (zfk (zfc (by omega) (zfk (zfk rfl)))))))))) (zEq.cons (zE1.arr (by first | (intro j h0 h1; rfl) | (intro j h0 h1; first | rfl | omega))) (zEq.cons (zE1.arr (by first | (intro j h0 h1; rfl) | (intro j h0 h1; first | rfl | omega))) (zEq.cons zE1.rf (zEq.cons zE1.rf (zEq.cons zE1.rf (zEq.cons zE1.rf zEq.nil))))))) ?_
        exact hret () dX0_washSandAway_83 (by trivial)
      · skip
        refine z_aloadn 9 hC 0 dX0_washSandAway_8 rfl rfl rfl ?_
        refine z_iloadn 10 hC 2 dX0_washSandAway_9 rfl rfl rfl ?_
        refine z_calli (wr := []) (w2 := fun _ => wSh g h a (wsh s f w L i) (wshF f w i) w o p t (lo + wshL s f w L i) sl fa) 13 hC [0, 1, 2, 3, 4, 5, 6] [] [0, 1, 2, 3, 4, 5, 6] (z_runV (nA := 1) hC hN (c_X0_isWet l D g h a (wsh s f w L i) (wshF f w i) w o p t (lo + wshL s f w L i) sl fa i (by omega) hw) [0, 1, 2, 3, 4, 5, 6] rfl (by decide) gX0_washSandAway_X0_isWet (by decide +kernel) rfl rfl rfl ⟨by decide, by decide⟩ rfl rfl (nle rfl) dX0_washSandAway_10 ⟨by decide, by decide⟩ 0 rfl rfl) rfl rfl (by decide) (by decide) (fun _ => rfl) (by decide) rfl (k2 := 0) (n2 := 0) rfl rfl (fun z_2 _ p_3 => ?_)
        refine z_if_eq 77 16 hC dX0_washSandAway_13 (by decide) rfl (by omega) (fun c_4 => ?_) (fun c_4 => ?_)
        · skip
          refine z_iinc (lv' := [(2, .int (iI (i + 1))), (0, .ref h), (1, .int (iI L))]) 80 2 hC dX0_washSandAway_77 rfl rfl (by decide) rfl ?_
          refine z_goto 2 hC dX0_washSandAway_80 (by decide) ?_
          refine z_lv (lv' := [(0, .ref h), (1, .int (iI L)), (2, .int (iI (i + 1)))]) [1, 2, 0] rfl ?_
          refine z_weq (ws' := wSh g h a (wsh s f w L (i + 1)) (wshF f w (i + 1)) w o p t (lo + wshL s f w L (i + 1)) sl fa) (zEq.cons (zE1.obj (zfk (zfk (zfk (zfk (zfk (zfk (zfc (by first | (have := wshL_k (s := s) (f := f) (w := w) (L := L) (i := i) (by omega) (by omega); omega) | (rw [Int.add_assoc]; exact congrArg (fun x => lo + x) (wshL_s (by omega) (by omega) (by unfold ls; omega)))) (zfk (zfk rfl)))))))))) (zEq.cons (zE1.arr (by first | (intro j h0 h1; rfl) | (intro j h0 h1; first | exact wsh_k (by omega) j | exact wsh_s (by omega) (by unfold ls; omega) j))) (zEq.cons (zE1.arr (by first | (intro j h0 h1; rfl) | (intro j h0 h1; first | exact wshF_k (by omega) j | exact wshF_s (by omega) j))) (zEq.cons zE1.rf (zEq.cons zE1.rf (zEq.cons zE1.rf (zEq.cons zE1.rf zEq.nil))))))) ?_
          exact ih2 (i + 1) (by omega) (by omega)
        · skip
          have q5 := hwt i (by omega) (by omega) (by omega)
          have q6 := hg_bd hs (c := i) (by omega)
          have q7 := hs i (by omega) (by omega)
          have q8 := hf i (by omega) (by omega)
          refine z_iconst 17 hC dX0_washSandAway_16 rfl ?_
          refine z_iloadn 18 hC 1 dX0_washSandAway_17 rfl rfl rfl ?_
          refine z_aloadn 19 hC 0 dX0_washSandAway_18 rfl rfl rfl ?_
          refine z_iloadn 20 hC 2 dX0_washSandAway_19 rfl rfl rfl ?_
          refine z_calli (wr := []) (w2 := fun _ => wSh g h a (wsh s f w L i) (wshF f w i) w o p t (lo + wshL s f w L i) sl fa) 23 hC [0, 1, 2, 3, 4, 5, 6] [] [0, 1, 2, 3, 4, 5, 6] (z_runV (nA := 1) hC hN (c_X0_height l D g h a (wsh s f w L i) (wshF f w i) w o p t (lo + wshL s f w L i) sl fa i (by omega)) [0, 1, 2, 3, 4, 5, 6] rfl (by decide) gX0_washSandAway_X0_height (by decide +kernel) rfl rfl rfl ⟨by decide, by decide⟩ rfl rfl (nle rfl) dX0_washSandAway_20 ⟨by decide, by decide⟩ 0 rfl rfl) rfl rfl (by decide) (by decide) (fun _ => rfl) (by decide) rfl (k2 := 0) (n2 := 0) rfl rfl (fun z_6 _ p_7 => ?_)
          subst p_7
          have y_5 := hg_bd hv (c := i) (by omega)
          refine z_isub 24 hC dX0_washSandAway_23 rfl ?_
          refine z_iconst 25 hC dX0_washSandAway_24 rfl ?_
          refine z_idiv 26 hC dX0_washSandAway_25 rfl (by omega) (by omega) ?_
          refine z_iadd 27 hC dX0_washSandAway_26 rfl ?_
          refine z_aloadn 28 hC 0 dX0_washSandAway_27 rfl rfl rfl ?_
          refine z_get 31 0 1 hC hinX0 L15 dX0_washSandAway_28 rfl rfl rfl (by decide) rfl ?_
          refine z_iloadn 32 hC 2 dX0_washSandAway_31 rfl rfl rfl ?_
          refine z_iald 33 2 hC dX0_washSandAway_32 rfl rfl (by decide) (by omega) ?_
          have b_8 := hu i (by omega) (by omega)
          refine z_iconst 34 hC dX0_washSandAway_33 rfl ?_
          refine z_idiv 35 hC dX0_washSandAway_34 rfl (by omega) (by omega) ?_
          refine z_isub 36 hC dX0_washSandAway_35 rfl ?_
          refine z_istoren (lv' := [(3, .int (iI ((1 + ((L - (hg (wsh s f w L i) i)) / 3)) - (((wshF f w i) i) / 2)))), (0, .ref h), (1, .int (iI L)), (2, .int (iI i))]) 37 hC dX0_washSandAway_36 rfl rfl (by decide) rfl ?_
          refine z_iloadn 38 hC 0 dX0_washSandAway_37 rfl rfl rfl ?_
          refine z_iconst 39 hC dX0_washSandAway_38 rfl ?_
          refine z_mmax 42 hC (by decide +kernel) (by decide +kernel) (by decide +kernel) (by decide +kernel) (by decide) (nle rfl) (by decide) (by decide) (by omega) (by omega) dX0_washSandAway_39 rfl ?_
          refine z_aloadn 43 hC 1 dX0_washSandAway_42 rfl rfl rfl ?_
          refine z_get 46 0 0 hC hinX0 L9 dX0_washSandAway_43 rfl rfl rfl (by decide) rfl ?_
          refine z_iloadn 47 hC 3 dX0_washSandAway_46 rfl rfl rfl ?_
          refine z_iald 48 1 hC dX0_washSandAway_47 rfl rfl (by decide) (by omega) ?_
          have b_9 := hv i (by omega) (by omega)
          refine z_mmin 51 hC (by decide +kernel) (by decide +kernel) (by decide +kernel) (by decide +kernel) (by decide) (nle rfl) (by decide) (by decide) (by omega) (by omega) dX0_washSandAway_48 rfl ?_
          refine z_istoren (lv' := [(3, .int (iI (min (max ((1 + ((L - (hg (wsh s f w L i) i)) / 3)) - (((wshF f w i) i) / 2)) 0) ((wsh s f w L i) i)))), (0, .ref h), (1, .int (iI L)), (2, .int (iI i))]) 52 hC dX0_washSandAway_51 rfl rfl (by decide) rfl ?_
          refine z_aloadn 53 hC 1 dX0_washSandAway_52 rfl rfl rfl ?_
          refine z_get 56 0 0 hC hinX0 L9 dX0_washSandAway_53 rfl rfl rfl (by decide) rfl ?_
          refine z_iloadn 57 hC 3 dX0_washSandAway_56 rfl rfl rfl ?_
          refine z_dup2 58 hC dX0_washSandAway_57 rfl rfl rfl ?_
          refine z_iald 59 1 hC dX0_washSandAway_58 rfl rfl (by decide) (by omega) ?_
          have b_10 := hv i (by omega) (by omega)
          refine z_iloadn 60 hC 0 dX0_washSandAway_59 rfl rfl rfl ?_
          refine z_isub 61 hC dX0_washSandAway_60 rfl ?_
          refine z_iast (ws' := wSh g h a (up (wsh s f w L i) i (((wsh s f w L i) i) - (min (max ((1 + ((L - (hg (wsh s f w L i) i)) / 3)) - (((wshF f w i) i) / 2)) 0) ((wsh s f w L i) i)))) (wshF f w i) w o p t (lo + wshL s f w L i) sl fa) 62 1 hC dX0_washSandAway_61 rfl rfl (by decide) (by omega) rfl ?_
          refine z_aloadn 63 hC 1 dX0_washSandAway_62 rfl rfl rfl ?_
          refine z_dup 64 hC dX0_washSandAway_63 rfl rfl ?_
          refine z_get 67 0 6 hC hinX0 L39 dX0_washSandAway_64 rfl rfl rfl (by decide) rfl ?_
          refine z_iloadn 68 hC 0 dX0_washSandAway_67 rfl rfl rfl ?_
          refine z_iadd 69 hC dX0_washSandAway_68 rfl ?_
          refine z_put (ty := .int) (ws' := wSh g h a (up (wsh s f w L i) i (((wsh s f w L i) i) - (min (max ((1 + ((L - (hg (wsh s f w L i) i)) / 3)) - (((wshF f w i) i) / 2)) 0) ((wsh s f w L i) i)))) (wshF f w i) w o p t ((lo + wshL s f w L i) + (min (max ((1 + ((L - (hg (wsh s f w L i) i)) / 3)) - (((wshF f w i) i) / 2)) 0) ((wsh s f w L i) i))) sl fa) 72 0 6 hC tyX0 tyX0_ok nmX0 hinX0 L39 dX0_washSandAway_69 rfl rfl rfl (by decide) rfl (by decide +kernel) rfl rfl (nle rfl) rfl ?_
          refine z_aloadn 73 hC 1 dX0_washSandAway_72 rfl rfl rfl ?_
          refine z_iloadn 74 hC 3 dX0_washSandAway_73 rfl rfl rfl ?_
          refine z_callv (wr := []) (w2 := fun _ => wSh g h a (up (wsh s f w L i) i (((wsh s f w L i) i) - (min (max ((1 + ((L - (hg (wsh s f w L i) i)) / 3)) - (((wshF f w i) i) / 2)) 0) ((wsh s f w L i) i)))) (up (wshF f w i) i (if 0 < (wshF f w i) i then (wshF f w i) i - 1 else (wshF f w i) i)) w o p t ((lo + wshL s f w L i) + (min (max ((1 + ((L - (hg (wsh s f w L i) i)) / 3)) - (((wshF f w i) i) / 2)) 0) ((wsh s f w L i) i))) sl fa) 77 hC [0, 1, 2, 3, 4, 5, 6] [] [0, 1, 2, 3, 4, 5, 6] (z_runV (nA := 1) hC hN (c_X0_soften l D g h a (up (wsh s f w L i) i (((wsh s f w L i) i) - (min (max ((1 + ((L - (hg (wsh s f w L i) i)) / 3)) - (((wshF f w i) i) / 2)) 0) ((wsh s f w L i) i)))) (wshF f w i) w o p t ((lo + wshL s f w L i) + (min (max ((1 + ((L - (hg (wsh s f w L i) i)) / 3)) - (((wshF f w i) i) / 2)) 0) ((wsh s f w L i) i))) sl fa i (by omega) hu) [0, 1, 2, 3, 4, 5, 6] rfl (by decide) gX0_washSandAway_X0_soften (by decide +kernel) rfl rfl rfl ⟨by decide, by decide⟩ rfl rfl (nle rfl) dX0_washSandAway_74 ⟨by decide, by decide⟩ 0 rfl rfl) rfl rfl (by decide) (by decide) (fun _ => rfl) (by decide) rfl (k2 := 0) (n2 := 0) rfl rfl (fun _ p_11 => ?_)
          refine z_iinc (lv' := [(2, .int (iI (i + 1))), (3, .int (iI (min (max ((1 + ((L - (hg (wsh s f w L i) i)) / 3)) - (((wshF f w i) i) / 2)) 0) ((wsh s f w L i) i)))), (0, .ref h), (1, .int (iI L))]) 80 3 hC dX0_washSandAway_77 rfl rfl (by decide) rfl ?_
          refine z_goto 2 hC dX0_washSandAway_80 (by decide) ?_
          refine z_lv (lv' := [(0, .ref h), (1, .int (iI L)), (2, .int (iI (i + 1)))]) [2, 3, 0] rfl ?_
          refine z_weq (ws' := wSh g h a (wsh s f w L (i + 1)) (wshF f w (i + 1)) w o p t (lo + wshL s f w L (i + 1)) sl fa) (zEq.cons (zE1.obj (zfk (zfk (zfk (zfk (zfk (zfk (zfc (by first | (have := wshL_k (s := s) (f := f) (w := w) (L := L) (i := i) (by omega) (by omega); omega) | (rw [Int.add_assoc]; exact congrArg (fun x => lo + x) (wshL_s (by omega) (by omega) (by unfold ls; omega)))) (zfk (zfk rfl)))))))))) (zEq.cons (zE1.arr (by first | (intro j h0 h1; rfl) | (intro j h0 h1; first | exact wsh_k (by omega) j | exact wsh_s (by omega) (by unfold ls; omega) j))) (zEq.cons (zE1.arr (by first | (intro j h0 h1; rfl) | (intro j h0 h1; first | exact wshF_k (by omega) j | exact wshF_s (by omega) j))) (zEq.cons zE1.rf (zEq.cons zE1.rf (zEq.cons zE1.rf (zEq.cons zE1.rf zEq.nil))))))) ?_
          exact ih2 (i + 1) (by omega) (by omega)
  refine z_lv (lv' := [(0, .ref h), (1, .int (iI L)), (2, .int (iI 0))]) [1, 2, 0] rfl ?_
  refine z_weq (ws' := wSh g h a (wsh s f w L 0) (wshF f w 0) w o p t (lo + wshL s f w L 0) sl fa) (zEq.cons (zE1.obj (zfk (zfk (zfk (zfk (zfk (zfk (zfc (by show lo = lo + 0; omega) (zfk (zfk rfl)))))))))) (zEq.cons (zE1.arr (by first | (intro j h0 h1; rfl) | (intro j h0 h1; exact (if_neg (by omega)).symm))) (zEq.cons (zE1.arr (by first | (intro j h0 h1; rfl) | (intro j h0 h1; exact (if_neg (by omega)).symm))) (zEq.cons zE1.rf (zEq.cons zE1.rf (zEq.cons zE1.rf (zEq.cons zE1.rf zEq.nil))))))) ?_
  exact loop2 ((120 - 0 + 1 : Int).toNat) 0 (by omega) (by omega)
set_option maxHeartbeats 4000000 in
set_option maxRecDepth 100000 in
theorem c_X0_slidesTo (l : Launch) (D : va_G) (g : Nat → ClassId) (h : Nat) (a : Nat → Nat) (s f w o p t : Int → Int) (lo sl fa : Int) (c : Int) (e : Int) (hc : 0 ≤ c ∧ c < 120) (he : 0 ≤ e ∧ e < 120) (hs : Bd s 120 0 20) (hf : Bd f 120 0 5) : ZMi (S := Unit) l yX0_slidesTo wsX0_slidesTo ({ frames := 1, cells := 0, slots := 0, locals := 60 }) D g [.ref h, .int (iI c), .int (iI e)] (wSh g h a s f w o p t lo sl fa) (fun z _ => (z = 0 ∨ z = 1) ∧ (z = 1 ↔ 0 < s c ∧ hg s e + 4 + f c < hg s c ∧ s e < 20)) (fun _ => wSh g h a s f w o p t lo sl fa) 0 0 := by
  have hinX0 : ∀ w ∈ u_ws RX0 TX0 9, w ∈ wsX0_slidesTo := by decide +kernel
  have L9 : Cond.fieldLink RX0 9 "SandcastleLeague$Shore" "sand" "[I" ∈ wsX0_slidesTo := by decide +kernel
  have L15 : Cond.fieldLink RX0 15 "SandcastleLeague$Shore" "firmness" "[I" ∈ wsX0_slidesTo := by decide +kernel
  refine ZMi.of (own := RX0) cX0_slidesTo 3 [(0, .ref h), (1, .int (iI c)), (2, .int (iI e))] (by decide +kernel) rfl (nle rfl) rfl rfl ?_
  intro E hC hN hret
  refine z_aloadn 1 hC 0 dX0_slidesTo_0 rfl rfl rfl ?_
  refine z_get 4 0 0 hC hinX0 L9 dX0_slidesTo_1 rfl rfl rfl (by decide) rfl ?_
  refine z_iloadn 5 hC 1 dX0_slidesTo_4 rfl rfl rfl ?_
  refine z_iald 6 1 hC dX0_slidesTo_5 rfl rfl (by decide) (by omega) ?_
  have b_1 := hs c (by omega) (by omega)
  refine z_if_le 46 9 hC dX0_slidesTo_6 (by decide) rfl (by omega) (fun c_2 => ?_) (fun c_2 => ?_)
  · skip
    refine z_iconst 47 hC dX0_slidesTo_46 rfl ?_
    exact hret () dX0_slidesTo_47 (by decide) (by omega)
  · skip
    refine z_aloadn 10 hC 0 dX0_slidesTo_9 rfl rfl rfl ?_
    refine z_iloadn 11 hC 1 dX0_slidesTo_10 rfl rfl rfl ?_
    refine z_calli (wr := []) (w2 := fun _ => wSh g h a s f w o p t lo sl fa) 14 hC [0, 1, 2, 3, 4, 5, 6] [] [0, 1, 2, 3, 4, 5, 6] (z_runV (nA := 1) hC hN (c_X0_height l D g h a s f w o p t lo sl fa c (by omega)) [0, 1, 2, 3, 4, 5, 6] rfl (by decide) gX0_slidesTo_X0_height (by decide +kernel) rfl rfl rfl ⟨by decide, by decide⟩ rfl rfl (nle rfl) dX0_slidesTo_11 ⟨by decide, by decide⟩ 0 rfl rfl) rfl rfl (by decide) (by decide) (fun _ => rfl) (by decide) rfl (k2 := 0) (n2 := 0) rfl rfl (fun z_4 _ p_5 => ?_)
    subst p_5
    have y_3 := hg_bd hs (c := c) (by omega)
    refine z_aloadn 15 hC 0 dX0_slidesTo_14 rfl rfl rfl ?_
    refine z_iloadn 16 hC 2 dX0_slidesTo_15 rfl rfl rfl ?_
    refine z_calli (wr := []) (w2 := fun _ => wSh g h a s f w o p t lo sl fa) 19 hC [0, 1, 2, 3, 4, 5, 6] [] [0, 1, 2, 3, 4, 5, 6] (z_runV (nA := 1) hC hN (c_X0_height l D g h a s f w o p t lo sl fa e (by omega)) [0, 1, 2, 3, 4, 5, 6] rfl (by decide) gX0_slidesTo_X0_height (by decide +kernel) rfl rfl rfl ⟨by decide, by decide⟩ rfl rfl (nle rfl) dX0_slidesTo_16 ⟨by decide, by decide⟩ 0 rfl rfl) rfl rfl (by decide) (by decide) (fun _ => rfl) (by decide) rfl (k2 := 0) (n2 := 0) rfl rfl (fun z_7 _ p_8 => ?_)
    subst p_8
    have y_6 := hg_bd hs (c := e) (by omega)
    refine z_iconst 20 hC dX0_slidesTo_19 rfl ?_
    refine z_iadd 21 hC dX0_slidesTo_20 rfl ?_
    refine z_aloadn 22 hC 0 dX0_slidesTo_21 rfl rfl rfl ?_
    refine z_get 25 0 1 hC hinX0 L15 dX0_slidesTo_22 rfl rfl rfl (by decide) rfl ?_
    refine z_iloadn 26 hC 1 dX0_slidesTo_25 rfl rfl rfl ?_
    refine z_iald 27 2 hC dX0_slidesTo_26 rfl rfl (by decide) (by omega) ?_
    have b_9 := hf c (by omega) (by omega)
    refine z_iadd 28 hC dX0_slidesTo_27 rfl ?_
    refine z_icmp_le 46 31 hC dX0_slidesTo_28 (by decide) rfl (by omega) (by omega) (fun c_10 => ?_) (fun c_10 => ?_)
    · skip
      refine z_iconst 47 hC dX0_slidesTo_46 rfl ?_
      exact hret () dX0_slidesTo_47 (by decide) (by omega)
    · skip
      refine z_aloadn 32 hC 0 dX0_slidesTo_31 rfl rfl rfl ?_
      refine z_get 35 0 0 hC hinX0 L9 dX0_slidesTo_32 rfl rfl rfl (by decide) rfl ?_
      refine z_iloadn 36 hC 2 dX0_slidesTo_35 rfl rfl rfl ?_
      refine z_iald 37 1 hC dX0_slidesTo_36 rfl rfl (by decide) (by omega) ?_
      have b_11 := hs e (by omega) (by omega)
      refine z_bipush 39 hC dX0_slidesTo_37 (by decide) rfl ?_
      refine z_icmp_ge 46 42 hC dX0_slidesTo_39 (by decide) rfl (by omega) (by omega) (fun c_12 => ?_) (fun c_12 => ?_)
      · skip
        refine z_iconst 47 hC dX0_slidesTo_46 rfl ?_
        exact hret () dX0_slidesTo_47 (by decide) (by omega)
      · skip
        refine z_iconst 43 hC dX0_slidesTo_42 rfl ?_
        refine z_goto 47 hC dX0_slidesTo_43 (by decide) ?_
        exact hret () dX0_slidesTo_47 (by decide) (by omega)
set_option maxHeartbeats 4000000 in
set_option maxRecDepth 100000 in
theorem c_X0_slideOnce (l : Launch) (D : va_G) (g : Nat → ClassId) (h : Nat) (a : Nat → Nat) (s f w o p t : Int → Int) (lo sl fa : Int)  (hs : Bd s 120 0 20) (hf : Bd f 120 0 5) : ZMi (S := Unit) l yX0_slideOnce wsX0_slideOnce ({ frames := 2, cells := 0, slots := 0, locals := 110 }) D g [.ref h] (wSh g h a s f w o p t lo sl fa) (fun z _ => z = (rnd f s 120).2) (fun _ => wSh g h a ((rnd f s 120).1) f w o p t lo sl fa) 0 0 := by
  have hinX0 : ∀ w ∈ u_ws RX0 TX0 9, w ∈ wsX0_slideOnce := by decide +kernel
  have L9 : Cond.fieldLink RX0 9 "SandcastleLeague$Shore" "sand" "[I" ∈ wsX0_slideOnce := by decide +kernel
  refine ZMi.of (own := RX0) cX0_slideOnce 4 [(0, .ref h)] (by decide +kernel) rfl (nle rfl) rfl rfl ?_
  intro E hC hN hret
  refine z_iconst 1 hC dX0_slideOnce_0 rfl ?_
  refine z_istoren (lv' := [(1, .int (iI 0)), (0, .ref h)]) 2 hC dX0_slideOnce_1 rfl rfl (by decide) rfl ?_
  refine z_iconst 3 hC dX0_slideOnce_2 rfl ?_
  refine z_istoren (lv' := [(2, .int (iI 0)), (1, .int (iI 0)), (0, .ref h)]) 4 hC dX0_slideOnce_3 rfl rfl (by decide) rfl ?_
  have loop4 : ∀ (N4 : Nat) (i : Int), 0 ≤ i ∧ i ≤ 120 → (120 - i : Int) < N4 → Z E (wSh g h a ((rnd f s i).1) f w o p t lo sl fa) [(0, .ref h), (1, .int (iI ((rnd f s i).2))), (2, .int (iI i))] 0 0 4 [] := by
    intro N4
    induction N4 with
    | zero => intro i hi hm4; exact absurd hm4 (by omega)
    | succ N4 ih4 =>
      intro i hi hm4
      have hv := rnd_bd (f := f) hs hi.1 hi.2
      refine z_iloadn 5 hC 2 dX0_slideOnce_4 rfl rfl rfl ?_
      refine z_bipush 7 hC dX0_slideOnce_5 (by decide) rfl ?_
      refine z_icmp_ge 59 10 hC dX0_slideOnce_7 (by decide) rfl (by omega) (by omega) (fun c_1 => ?_) (fun c_1 => ?_)
      · skip
        obtain rfl : i = 120 := by omega
        refine z_iloadn 60 hC 1 dX0_slideOnce_59 rfl rfl rfl ?_
        refine z_weq (ws' := wSh g h a ((rnd f s 120).1) f w o p t lo sl fa) (zEq.cons zE1.rf (zEq.cons (zE1.arr (by first | (intro j h0 h1; rfl) | (intro j h0 h1; first | rfl | omega))) (zEq.cons zE1.rf (zEq.cons zE1.rf (zEq.cons zE1.rf (zEq.cons zE1.rf (zEq.cons zE1.rf zEq.nil))))))) ?_
        exact hret () dX0_slideOnce_60 rfl (by rfl)
      · skip
        refine z_aloadn 11 hC 0 dX0_slideOnce_10 rfl rfl rfl ?_
        refine z_iloadn 12 hC 2 dX0_slideOnce_11 rfl rfl rfl ?_
        refine z_calli (wr := []) (w2 := fun _ => wSh g h a ((rnd f s i).1) f w o p t lo sl fa) 15 hC [0, 1, 2, 3, 4, 5, 6] [] [0, 1, 2, 3, 4, 5, 6] (z_runV (nA := 1) hC hN (c_X0_lowestBeside l D g h a ((rnd f s i).1) f w o p t lo sl fa i (by omega) hv) [0, 1, 2, 3, 4, 5, 6] rfl (by decide) gX0_slideOnce_X0_lowestBeside (by decide +kernel) rfl rfl rfl ⟨by decide, by decide⟩ rfl rfl (nle rfl) dX0_slideOnce_12 ⟨by decide, by decide⟩ 0 rfl rfl) rfl rfl (by decide) (by decide) (fun _ => rfl) (by decide) rfl (k2 := 0) (n2 := 0) rfl rfl (fun z_2 _ p_3 => ?_)
        subst p_3
        have qlow := low_rg ((rnd f s i).1) (c := i) (by omega)
        have qlne := low_ne ((rnd f s i).1) (c := i) (by omega)
        refine z_istoren (lv' := [(3, .int (iI (low ((rnd f s i).1) i))), (0, .ref h), (1, .int (iI ((rnd f s i).2))), (2, .int (iI i))]) 16 hC dX0_slideOnce_15 rfl rfl (by decide) rfl ?_
        refine z_iloadn 17 hC 0 dX0_slideOnce_16 rfl rfl rfl ?_
        refine z_iconst 18 hC dX0_slideOnce_17 rfl ?_
        refine z_icmp_eq 53 21 hC dX0_slideOnce_18 (by decide) rfl (by omega) (by omega) (fun c_4 => ?_) (fun c_4 => ?_)
        · exfalso; omega
        · skip
          refine z_aloadn 22 hC 1 dX0_slideOnce_21 rfl rfl rfl ?_
          refine z_iloadn 23 hC 3 dX0_slideOnce_22 rfl rfl rfl ?_
          refine z_iloadn 24 hC 0 dX0_slideOnce_23 rfl rfl rfl ?_
          refine z_calli (wr := []) (w2 := fun _ => wSh g h a ((rnd f s i).1) f w o p t lo sl fa) 27 hC [0, 1, 2, 3, 4, 5, 6] [] [0, 1, 2, 3, 4, 5, 6] (z_runV (nA := 2) hC hN (c_X0_slidesTo l D g h a ((rnd f s i).1) f w o p t lo sl fa i (low ((rnd f s i).1) i) (by omega) (by omega) hv hf) [0, 1, 2, 3, 4, 5, 6] rfl (by decide) gX0_slideOnce_X0_slidesTo (by decide +kernel) rfl rfl rfl ⟨by decide, by decide⟩ rfl rfl (nle rfl) dX0_slideOnce_24 ⟨by decide, by decide⟩ 0 rfl rfl) rfl rfl (by decide) (by decide) (fun _ => rfl) (by decide) rfl (k2 := 0) (n2 := 0) rfl rfl (fun z_5 _ p_6 => ?_)
          refine z_if_eq 53 30 hC dX0_slideOnce_27 (by decide) rfl (by omega) (fun c_7 => ?_) (fun c_7 => ?_)
          · skip
            refine z_iinc (lv' := [(2, .int (iI (i + 1))), (3, .int (iI (low ((rnd f s i).1) i))), (0, .ref h), (1, .int (iI ((rnd f s i).2)))]) 56 3 hC dX0_slideOnce_53 rfl rfl (by decide) rfl ?_
            refine z_goto 4 hC dX0_slideOnce_56 (by decide) ?_
            refine z_lv (lv' := [(0, .ref h), (1, .int (iI ((rnd f s i).2))), (2, .int (iI (i + 1)))]) [2, 3, 0] rfl ?_
            refine z_lveq (lv' := [(0, .ref h), (1, .int (iI ((rnd f s (i + 1)).2))), (2, .int (iI (i + 1)))]) (zfk (zlc (by first | rw [rnd_y (by omega) (by omega)] | rw [rnd_n (by omega) (by omega)]) (zfk rfl))) ?_
            refine z_weq (ws' := wSh g h a ((rnd f s (i + 1)).1) f w o p t lo sl fa) (zEq.cons zE1.rf (zEq.cons (zE1.arr (by first | (intro j h0 h1; rfl) | (intro j h0 h1; first | rw [rnd_y (by omega) (by omega)] | rw [rnd_n (by omega) (by omega)]))) (zEq.cons zE1.rf (zEq.cons zE1.rf (zEq.cons zE1.rf (zEq.cons zE1.rf (zEq.cons zE1.rf zEq.nil))))))) ?_
            exact ih4 (i + 1) (by omega) (by omega)
          · skip
            refine z_aloadn 31 hC 1 dX0_slideOnce_30 rfl rfl rfl ?_
            refine z_get 34 0 0 hC hinX0 L9 dX0_slideOnce_31 rfl rfl rfl (by decide) rfl ?_
            refine z_iloadn 35 hC 3 dX0_slideOnce_34 rfl rfl rfl ?_
            refine z_dup2 36 hC dX0_slideOnce_35 rfl rfl rfl ?_
            refine z_iald 37 1 hC dX0_slideOnce_36 rfl rfl (by decide) (by omega) ?_
            have b_8 := hv i (by omega) (by omega)
            refine z_iconst 38 hC dX0_slideOnce_37 rfl ?_
            refine z_isub 39 hC dX0_slideOnce_38 rfl ?_
            refine z_iast (ws' := wSh g h a (up ((rnd f s i).1) i ((((rnd f s i).1) i) - 1)) f w o p t lo sl fa) 40 1 hC dX0_slideOnce_39 rfl rfl (by decide) (by omega) rfl ?_
            refine z_aloadn 41 hC 1 dX0_slideOnce_40 rfl rfl rfl ?_
            refine z_get 44 0 0 hC hinX0 L9 dX0_slideOnce_41 rfl rfl rfl (by decide) rfl ?_
            refine z_iloadn 45 hC 0 dX0_slideOnce_44 rfl rfl rfl ?_
            refine z_dup2 46 hC dX0_slideOnce_45 rfl rfl rfl ?_
            refine z_iald 47 1 hC dX0_slideOnce_46 rfl rfl (by decide) (by omega) ?_
            refine z_iconst 48 hC dX0_slideOnce_47 rfl ?_
            refine z_iadd 49 hC dX0_slideOnce_48 rfl ?_
            refine z_iast (ws' := wSh g h a (up (up ((rnd f s i).1) i ((((rnd f s i).1) i) - 1)) (low ((rnd f s i).1) i) (((up ((rnd f s i).1) i ((((rnd f s i).1) i) - 1)) (low ((rnd f s i).1) i)) + 1)) f w o p t lo sl fa) 50 1 hC dX0_slideOnce_49 rfl rfl (by decide) (by omega) rfl ?_
            refine z_iinc (lv' := [(1, .int (iI (((rnd f s i).2) + 1))), (3, .int (iI (low ((rnd f s i).1) i))), (0, .ref h), (2, .int (iI i))]) 53 2 hC dX0_slideOnce_50 rfl rfl (by decide) rfl ?_
            refine z_iinc (lv' := [(2, .int (iI (i + 1))), (1, .int (iI (((rnd f s i).2) + 1))), (3, .int (iI (low ((rnd f s i).1) i))), (0, .ref h)]) 56 3 hC dX0_slideOnce_53 rfl rfl (by decide) rfl ?_
            refine z_goto 4 hC dX0_slideOnce_56 (by decide) ?_
            refine z_lv (lv' := [(0, .ref h), (1, .int (iI (((rnd f s i).2) + 1))), (2, .int (iI (i + 1)))]) [3, 1, 0] rfl ?_
            refine z_lveq (lv' := [(0, .ref h), (1, .int (iI ((rnd f s (i + 1)).2))), (2, .int (iI (i + 1)))]) (zfk (zlc (by first | rw [rnd_y (by omega) (by omega)] | rw [rnd_n (by omega) (by omega)]) (zfk rfl))) ?_
            refine z_weq (ws' := wSh g h a ((rnd f s (i + 1)).1) f w o p t lo sl fa) (zEq.cons zE1.rf (zEq.cons (zE1.arr (by first | (intro j h0 h1; rfl) | (intro j h0 h1; first | rw [rnd_y (by omega) (by omega)] | rw [rnd_n (by omega) (by omega)]))) (zEq.cons zE1.rf (zEq.cons zE1.rf (zEq.cons zE1.rf (zEq.cons zE1.rf (zEq.cons zE1.rf zEq.nil))))))) ?_
            exact ih4 (i + 1) (by omega) (by omega)
  refine z_lv (lv' := [(0, .ref h), (1, .int (iI 0)), (2, .int (iI 0))]) [2, 1, 0] rfl ?_
  refine z_lveq (lv' := [(0, .ref h), (1, .int (iI ((rnd f s 0).2))), (2, .int (iI 0))]) (zfk (zlc (by rfl) (zfk rfl))) ?_
  refine z_weq (ws' := wSh g h a ((rnd f s 0).1) f w o p t lo sl fa) (zEq.cons zE1.rf (zEq.cons (zE1.arr (by first | (intro j h0 h1; rfl) | (intro j h0 h1; rfl))) (zEq.cons zE1.rf (zEq.cons zE1.rf (zEq.cons zE1.rf (zEq.cons zE1.rf (zEq.cons zE1.rf zEq.nil))))))) ?_
  exact loop4 ((120 - 0 + 1 : Int).toNat) 0 (by omega) (by omega)
set_option maxHeartbeats 4000000 in
set_option maxRecDepth 100000 in
theorem c_X0_letSandSlide (l : Launch) (D : va_G) (g : Nat → ClassId) (h : Nat) (a : Nat → Nat) (s f w o p t : Int → Int) (lo sl fa : Int)  (hs : Bd s 120 0 20) (hf : Bd f 120 0 5) : ZMi (S := Unit) l yX0_letSandSlide wsX0_letSandSlide ({ frames := 3, cells := 0, slots := 0, locals := 160 }) D g [.ref h] (wSh g h a s f w o p t lo sl fa) (fun z _ => z = (slA f 40 s).2) (fun _ => wSh g h a ((slA f 40 s).1) f w o p t lo sl fa) 0 0 := by
  refine ZMi.of (own := RX0) cX0_letSandSlide 4 [(0, .ref h)] (by decide +kernel) rfl (nle rfl) rfl rfl ?_
  intro E hC hN hret
  refine z_iconst 1 hC dX0_letSandSlide_0 rfl ?_
  refine z_istoren (lv' := [(1, .int (iI 0)), (0, .ref h)]) 2 hC dX0_letSandSlide_1 rfl rfl (by decide) rfl ?_
  refine z_iconst 3 hC dX0_letSandSlide_2 rfl ?_
  refine z_istoren (lv' := [(2, .int (iI 1)), (1, .int (iI 0)), (0, .ref h)]) 4 hC dX0_letSandSlide_3 rfl rfl (by decide) rfl ?_
  refine z_iconst 5 hC dX0_letSandSlide_4 rfl ?_
  refine z_istoren (lv' := [(3, .int (iI 0)), (2, .int (iI 1)), (1, .int (iI 0)), (0, .ref h)]) 6 hC dX0_letSandSlide_5 rfl rfl (by decide) rfl ?_
  have loop6 : ∀ (N6 : Nat) (y : Int) (z : Int) (i : Int) (v : Int → Int), 0 ≤ i ∧ i ≤ 40 → slI f s i z y v → z ≤ 120 → (40 - i : Int) < N6 → Z E (wSh g h a v f w o p t lo sl fa) [(0, .ref h), (1, .int (iI y)), (2, .int (iI z)), (3, .int (iI i))] 0 0 6 [] := by
    intro N6
    induction N6 with
    | zero => intro y z i v hi hI hz hm6; exact absurd hm6 (by omega)
    | succ N6 ih6 =>
      intro y z i v hi hI hz hm6
      have hz0 := hI.1
      have hv := hI.2.1
      refine z_iloadn 7 hC 2 dX0_letSandSlide_6 rfl rfl rfl ?_
      refine z_if_le 31 10 hC dX0_letSandSlide_7 (by decide) rfl (by omega) (fun c_1 => ?_) (fun c_1 => ?_)
      · skip
        have hd := slI_done hI (by omega) (by omega)
        refine z_iloadn 32 hC 1 dX0_letSandSlide_31 rfl rfl rfl ?_
        refine z_weq (ws' := wSh g h a ((slA f 40 s).1) f w o p t lo sl fa) (zEq.cons zE1.rf (zEq.cons (zE1.arr (by first | (intro j h0 h1; rfl) | (intro j h0 h1; rw [hd]))) (zEq.cons zE1.rf (zEq.cons zE1.rf (zEq.cons zE1.rf (zEq.cons zE1.rf (zEq.cons zE1.rf zEq.nil))))))) ?_
        exact hret () dX0_letSandSlide_32 rfl (by rw [hd])
      · skip
        refine z_iloadn 11 hC 3 dX0_letSandSlide_10 rfl rfl rfl ?_
        refine z_bipush 13 hC dX0_letSandSlide_11 (by decide) rfl ?_
        refine z_icmp_ge 31 16 hC dX0_letSandSlide_13 (by decide) rfl (by omega) (by omega) (fun c_2 => ?_) (fun c_2 => ?_)
        · skip
          have hd := slI_done hI (by omega) (by omega)
          refine z_iloadn 32 hC 1 dX0_letSandSlide_31 rfl rfl rfl ?_
          refine z_weq (ws' := wSh g h a ((slA f 40 s).1) f w o p t lo sl fa) (zEq.cons zE1.rf (zEq.cons (zE1.arr (by first | (intro j h0 h1; rfl) | (intro j h0 h1; rw [hd]))) (zEq.cons zE1.rf (zEq.cons zE1.rf (zEq.cons zE1.rf (zEq.cons zE1.rf (zEq.cons zE1.rf zEq.nil))))))) ?_
          exact hret () dX0_letSandSlide_32 rfl (by rw [hd])
        · skip
          refine z_aloadn 17 hC 0 dX0_letSandSlide_16 rfl rfl rfl ?_
          refine z_calli (wr := []) (w2 := fun _ => wSh g h a ((rnd f v 120).1) f w o p t lo sl fa) 20 hC [0, 1, 2, 3, 4, 5, 6] [] [0, 1, 2, 3, 4, 5, 6] (z_runV (nA := 0) hC hN (c_X0_slideOnce l D g h a v f w o p t lo sl fa  hv hf) [0, 1, 2, 3, 4, 5, 6] rfl (by decide) gX0_letSandSlide_X0_slideOnce (by decide +kernel) rfl rfl rfl ⟨by decide, by decide⟩ rfl rfl (nle rfl) dX0_letSandSlide_17 ⟨by decide, by decide⟩ 0 rfl rfl) rfl rfl (by decide) (by decide) (fun _ => rfl) (by decide) rfl (k2 := 0) (n2 := 0) rfl rfl (fun z_3 _ p_4 => ?_)
          subst p_4
          refine z_istoren (lv' := [(2, .int (iI ((rnd f v 120).2))), (0, .ref h), (1, .int (iI y)), (3, .int (iI i))]) 21 hC dX0_letSandSlide_20 rfl rfl (by decide) rfl ?_
          refine z_iloadn 22 hC 2 dX0_letSandSlide_21 rfl rfl rfl ?_
          refine z_iloadn 23 hC 0 dX0_letSandSlide_22 rfl rfl rfl ?_
          refine z_iadd 24 hC dX0_letSandSlide_23 rfl ?_
          refine z_istoren (lv' := [(1, .int (iI (y + ((rnd f v 120).2)))), (2, .int (iI ((rnd f v 120).2))), (0, .ref h), (3, .int (iI i))]) 25 hC dX0_letSandSlide_24 rfl rfl (by decide) rfl ?_
          refine z_iinc (lv' := [(3, .int (iI (i + 1))), (1, .int (iI (y + ((rnd f v 120).2)))), (2, .int (iI ((rnd f v 120).2))), (0, .ref h)]) 28 3 hC dX0_letSandSlide_25 rfl rfl (by decide) rfl ?_
          refine z_goto 6 hC dX0_letSandSlide_28 (by decide) ?_
          refine z_lv (lv' := [(0, .ref h), (1, .int (iI (y + ((rnd f v 120).2)))), (2, .int (iI ((rnd f v 120).2))), (3, .int (iI (i + 1)))]) [3, 1, 2, 0] rfl ?_
          exact ih6 (y + ((rnd f v 120).2)) ((rnd f v 120).2) (i + 1) ((rnd f v 120).1) (by omega) (by exact slI_s hI (by omega) (by omega)) (by first | omega | (have := rnd_ct f v (i := 120) (by omega); omega)) (by omega)
  refine z_lv (lv' := [(0, .ref h), (1, .int (iI 0)), (2, .int (iI 1)), (3, .int (iI 0))]) [3, 2, 1, 0] rfl ?_
  exact loop6 ((40 - 0 + 1 : Int).toNat) 0 1 0 s (by omega) (by exact slI_0 hs) (by first | omega | (have := rnd_ct f v (i := 120) (by omega); omega)) (by omega)
set_option maxHeartbeats 4000000 in
set_option maxRecDepth 100000 in
theorem c_X0_judgeSticks (l : Launch) (D : va_G) (g : Nat → ClassId) (h : Nat) (a : Nat → Nat) (s f w o p t : Int → Int) (lo sl fa : Int)  (hs : Bd s 120 0 20) (hw : Bd w 120 0 1) (ho : Bd o 120 (-1) 119) (hp : Bd p 120 0 38) : ZMv (S := Unit) l yX0_judgeSticks wsX0_judgeSticks ({ frames := 1, cells := 0, slots := 0, locals := 60 }) D g [.ref h] (wSh g h a s f w o p t lo sl fa) (fun _ => True) (fun _ => wSh g h a s f w (jO s w o p 120) (jP s w o p 120) (jT s w o p t 120) lo sl (fa + jF s w o p 120)) 0 0 := by
  have hinX0 : ∀ w ∈ u_ws RX0 TX0 9, w ∈ wsX0_judgeSticks := by decide +kernel
  have L9 : Cond.fieldLink RX0 9 "SandcastleLeague$Shore" "sand" "[I" ∈ wsX0_judgeSticks := by decide +kernel
  have L21 : Cond.fieldLink RX0 21 "SandcastleLeague$Shore" "owner" "[I" ∈ wsX0_judgeSticks := by decide +kernel
  have L24 : Cond.fieldLink RX0 24 "SandcastleLeague$Shore" "plantedHeight" "[I" ∈ wsX0_judgeSticks := by decide +kernel
  have L27 : Cond.fieldLink RX0 27 "SandcastleLeague$Shore" "points" "[I" ∈ wsX0_judgeSticks := by decide +kernel
  have L46 : Cond.fieldLink RX0 46 "SandcastleLeague$Shore" "fallenSticks" "I" ∈ wsX0_judgeSticks := by decide +kernel
  refine ZMv.of (ty := .int) (own := RX0) cX0_judgeSticks 3 [(0, .ref h)] (by decide +kernel) rfl (nle rfl) rfl rfl ?_
  intro E hC hN hret
  refine z_iconst 1 hC dX0_judgeSticks_0 rfl ?_
  refine z_istoren (lv' := [(1, .int (iI 0)), (0, .ref h)]) 2 hC dX0_judgeSticks_1 rfl rfl (by decide) rfl ?_
  have loop2 : ∀ (N2 : Nat) (i : Int), 0 ≤ i ∧ i ≤ 120 → (120 - i : Int) < N2 → Z E (wSh g h a s f w (jO s w o p i) (jP s w o p i) (jT s w o p t i) lo sl (fa + jF s w o p i)) [(0, .ref h), (1, .int (iI i))] 0 0 2 [] := by
    intro N2
    induction N2 with
    | zero => intro i hi hm2; exact absurd hm2 (by omega)
    | succ N2 ih2 =>
      intro i hi hm2
      have e1 : jO s w o p i i = o i := if_neg (fun q => by omega)
      have e2 : jP s w o p i i = p i := if_neg (fun q => by omega)
      refine z_iloadn 3 hC 1 dX0_judgeSticks_2 rfl rfl rfl ?_
      refine z_bipush 5 hC dX0_judgeSticks_3 (by decide) rfl ?_
      refine z_icmp_ge 101 8 hC dX0_judgeSticks_5 (by decide) rfl (by omega) (by omega) (fun c_1 => ?_) (fun c_1 => ?_)
      · skip
        obtain rfl : i = 120 := by omega
        refine z_weq (ws' := wSh g h a s f w (jO s w o p 120) (jP s w o p 120) (jT s w o p t 120) lo sl (fa + jF s w o p 120)) (zEq.cons (zE1.obj (zfk (zfk (zfk (zfk (zfk (zfk (zfk (zfk (zfc (by omega) rfl)))))))))) (zEq.cons zE1.rf (zEq.cons zE1.rf (zEq.cons zE1.rf (zEq.cons (zE1.arr (by first | (intro j h0 h1; rfl) | (intro j h0 h1; first | rfl | omega))) (zEq.cons (zE1.arr (by first | (intro j h0 h1; rfl) | (intro j h0 h1; first | rfl | omega))) (zEq.cons (zE1.arr (by first | (intro j h0 h1; rfl) | (intro j h0 h1; first | rfl | omega))) zEq.nil))))))) ?_
        exact hret () dX0_judgeSticks_101 (by trivial)
      · skip
        have b1 := hs i (by omega) (by omega)
        have b2 := hw i (by omega) (by omega)
        have b3 := ho i (by omega) (by omega)
        have b4 := hp i (by omega) (by omega)
        have b5 := hg_bd hs (c := i) (by omega)
        refine z_aloadn 9 hC 0 dX0_judgeSticks_8 rfl rfl rfl ?_
        refine z_get 12 0 3 hC hinX0 L21 dX0_judgeSticks_9 rfl rfl rfl (by decide) rfl ?_
        refine z_iloadn 13 hC 1 dX0_judgeSticks_12 rfl rfl rfl ?_
        refine z_iald 14 4 hC dX0_judgeSticks_13 rfl rfl (by decide) (by omega) ?_
        refine z_istoren (lv' := [(2, .int (iI ((jO s w o p i) i))), (0, .ref h), (1, .int (iI i))]) 15 hC dX0_judgeSticks_14 rfl rfl (by decide) rfl ?_
        refine z_iloadn 16 hC 0 dX0_judgeSticks_15 rfl rfl rfl ?_
        refine z_if_lt 95 19 hC dX0_judgeSticks_16 (by decide) rfl (by omega) (fun c_2 => ?_) (fun c_2 => ?_)
        · skip
          refine z_iinc (lv' := [(1, .int (iI (i + 1))), (2, .int (iI ((jO s w o p i) i))), (0, .ref h)]) 98 2 hC dX0_judgeSticks_95 rfl rfl (by decide) rfl ?_
          refine z_goto 2 hC dX0_judgeSticks_98 (by decide) ?_
          refine z_lv (lv' := [(0, .ref h), (1, .int (iI (i + 1)))]) [2, 0] rfl ?_
          refine z_weq (ws' := wSh g h a s f w (jO s w o p (i + 1)) (jP s w o p (i + 1)) (jT s w o p t (i + 1)) lo sl (fa + jF s w o p (i + 1))) (zEq.cons (zE1.obj (zfk (zfk (zfk (zfk (zfk (zfk (zfk (zfk (zfc (by first | exact jF_n (by omega) (by omega) | exact jF_k (by omega) (by unfold fal; omega) | exact jF_y (by omega) (by omega) (by unfold fal; omega)) rfl)))))))))) (zEq.cons zE1.rf (zEq.cons zE1.rf (zEq.cons zE1.rf (zEq.cons (zE1.arr (by first | (intro j h0 h1; rfl) | (intro j h0 h1; first | exact jO_n (by omega) j | exact jO_k (by unfold fal; omega) j | exact jO_y (by omega) (by unfold fal; omega) j))) (zEq.cons (zE1.arr (by first | (intro j h0 h1; rfl) | (intro j h0 h1; first | exact jP_n (by omega) j | exact jP_k (by unfold fal; omega) j | exact jP_y (by omega) (by unfold fal; omega) j))) (zEq.cons (zE1.arr (by first | (intro j h0 h1; rfl) | (intro j h0 h1; first | exact jT_n (by omega) (by omega) j h0 | exact jT_k (by omega) (by unfold fal; omega) j | (rw [e1]; exact jT_y (by omega) (by omega) (by unfold fal; omega) j)))) zEq.nil))))))) ?_
          exact ih2 (i + 1) (by omega) (by omega)
        · skip
          refine z_iloadn 20 hC 0 dX0_judgeSticks_19 rfl rfl rfl ?_
          refine z_bipush 22 hC dX0_judgeSticks_20 (by decide) rfl ?_
          refine z_icmp_ge 95 25 hC dX0_judgeSticks_22 (by decide) rfl (by omega) (by omega) (fun c_3 => ?_) (fun c_3 => ?_)
          · exfalso; omega
          · skip
            refine z_aloadn 26 hC 1 dX0_judgeSticks_25 rfl rfl rfl ?_
            refine z_iloadn 27 hC 2 dX0_judgeSticks_26 rfl rfl rfl ?_
            refine z_calli (wr := []) (w2 := fun _ => wSh g h a s f w (jO s w o p i) (jP s w o p i) (jT s w o p t i) lo sl (fa + jF s w o p i)) 30 hC [0, 1, 2, 3, 4, 5, 6] [] [0, 1, 2, 3, 4, 5, 6] (z_runV (nA := 1) hC hN (c_X0_isWet l D g h a s f w (jO s w o p i) (jP s w o p i) (jT s w o p t i) lo sl (fa + jF s w o p i) i (by omega) hw) [0, 1, 2, 3, 4, 5, 6] rfl (by decide) gX0_judgeSticks_X0_isWet (by decide +kernel) rfl rfl rfl ⟨by decide, by decide⟩ rfl rfl (nle rfl) dX0_judgeSticks_27 ⟨by decide, by decide⟩ 0 rfl rfl) rfl rfl (by decide) (by decide) (fun _ => rfl) (by decide) rfl (k2 := 0) (n2 := 0) rfl rfl (fun z_4 _ p_5 => ?_)
            refine z_if_ne 49 33 hC dX0_judgeSticks_30 (by decide) rfl (by omega) (fun c_6 => ?_) (fun c_6 => ?_)
            · skip
              refine z_aloadn 50 hC 1 dX0_judgeSticks_49 rfl rfl rfl ?_
              refine z_get 53 0 3 hC hinX0 L21 dX0_judgeSticks_50 rfl rfl rfl (by decide) rfl ?_
              refine z_iloadn 54 hC 2 dX0_judgeSticks_53 rfl rfl rfl ?_
              refine z_iconst 55 hC dX0_judgeSticks_54 rfl ?_
              refine z_iast (ws' := wSh g h a s f w (up (jO s w o p i) i (-1)) (jP s w o p i) (jT s w o p t i) lo sl (fa + jF s w o p i)) 56 4 hC dX0_judgeSticks_55 rfl rfl (by decide) (by omega) rfl ?_
              refine z_aloadn 57 hC 1 dX0_judgeSticks_56 rfl rfl rfl ?_
              refine z_get 60 0 4 hC hinX0 L24 dX0_judgeSticks_57 rfl rfl rfl (by decide) rfl ?_
              refine z_iloadn 61 hC 2 dX0_judgeSticks_60 rfl rfl rfl ?_
              refine z_iconst 62 hC dX0_judgeSticks_61 rfl ?_
              refine z_iast (ws' := wSh g h a s f w (up (jO s w o p i) i (-1)) (up (jP s w o p i) i 0) (jT s w o p t i) lo sl (fa + jF s w o p i)) 63 5 hC dX0_judgeSticks_62 rfl rfl (by decide) (by omega) rfl ?_
              refine z_aloadn 64 hC 1 dX0_judgeSticks_63 rfl rfl rfl ?_
              refine z_dup 65 hC dX0_judgeSticks_64 rfl rfl ?_
              refine z_get 68 0 8 hC hinX0 L46 dX0_judgeSticks_65 rfl rfl rfl (by decide) rfl ?_
              refine z_iconst 69 hC dX0_judgeSticks_68 rfl ?_
              refine z_iadd 70 hC dX0_judgeSticks_69 rfl ?_
              refine z_put (ty := .int) (ws' := wSh g h a s f w (up (jO s w o p i) i (-1)) (up (jP s w o p i) i 0) (jT s w o p t i) lo sl ((fa + jF s w o p i) + 1)) 73 0 8 hC tyX0 tyX0_ok nmX0 hinX0 L46 dX0_judgeSticks_70 rfl rfl rfl (by decide) rfl (by decide +kernel) rfl rfl (nle rfl) rfl ?_
              refine z_goto 95 hC dX0_judgeSticks_73 (by decide) ?_
              refine z_iinc (lv' := [(1, .int (iI (i + 1))), (2, .int (iI ((jO s w o p i) i))), (0, .ref h)]) 98 2 hC dX0_judgeSticks_95 rfl rfl (by decide) rfl ?_
              refine z_goto 2 hC dX0_judgeSticks_98 (by decide) ?_
              refine z_lv (lv' := [(0, .ref h), (1, .int (iI (i + 1)))]) [2, 0] rfl ?_
              refine z_weq (ws' := wSh g h a s f w (jO s w o p (i + 1)) (jP s w o p (i + 1)) (jT s w o p t (i + 1)) lo sl (fa + jF s w o p (i + 1))) (zEq.cons (zE1.obj (zfk (zfk (zfk (zfk (zfk (zfk (zfk (zfk (zfc (by first | exact jF_n (by omega) (by omega) | exact jF_k (by omega) (by unfold fal; omega) | exact jF_y (by omega) (by omega) (by unfold fal; omega)) rfl)))))))))) (zEq.cons zE1.rf (zEq.cons zE1.rf (zEq.cons zE1.rf (zEq.cons (zE1.arr (by first | (intro j h0 h1; rfl) | (intro j h0 h1; first | exact jO_n (by omega) j | exact jO_k (by unfold fal; omega) j | exact jO_y (by omega) (by unfold fal; omega) j))) (zEq.cons (zE1.arr (by first | (intro j h0 h1; rfl) | (intro j h0 h1; first | exact jP_n (by omega) j | exact jP_k (by unfold fal; omega) j | exact jP_y (by omega) (by unfold fal; omega) j))) (zEq.cons (zE1.arr (by first | (intro j h0 h1; rfl) | (intro j h0 h1; first | exact jT_n (by omega) (by omega) j h0 | exact jT_k (by omega) (by unfold fal; omega) j | (rw [e1]; exact jT_y (by omega) (by omega) (by unfold fal; omega) j)))) zEq.nil))))))) ?_
              exact ih2 (i + 1) (by omega) (by omega)
            · skip
              refine z_aloadn 34 hC 1 dX0_judgeSticks_33 rfl rfl rfl ?_
              refine z_iloadn 35 hC 2 dX0_judgeSticks_34 rfl rfl rfl ?_
              refine z_calli (wr := []) (w2 := fun _ => wSh g h a s f w (jO s w o p i) (jP s w o p i) (jT s w o p t i) lo sl (fa + jF s w o p i)) 38 hC [0, 1, 2, 3, 4, 5, 6] [] [0, 1, 2, 3, 4, 5, 6] (z_runV (nA := 1) hC hN (c_X0_height l D g h a s f w (jO s w o p i) (jP s w o p i) (jT s w o p t i) lo sl (fa + jF s w o p i) i (by omega)) [0, 1, 2, 3, 4, 5, 6] rfl (by decide) gX0_judgeSticks_X0_height (by decide +kernel) rfl rfl rfl ⟨by decide, by decide⟩ rfl rfl (nle rfl) dX0_judgeSticks_35 ⟨by decide, by decide⟩ 0 rfl rfl) rfl rfl (by decide) (by decide) (fun _ => rfl) (by decide) rfl (k2 := 0) (n2 := 0) rfl rfl (fun z_8 _ p_9 => ?_)
              subst p_9
              have y_7 := hg_bd hs (c := i) (by omega)
              refine z_aloadn 39 hC 1 dX0_judgeSticks_38 rfl rfl rfl ?_
              refine z_get 42 0 4 hC hinX0 L24 dX0_judgeSticks_39 rfl rfl rfl (by decide) rfl ?_
              refine z_iloadn 43 hC 2 dX0_judgeSticks_42 rfl rfl rfl ?_
              refine z_iald 44 5 hC dX0_judgeSticks_43 rfl rfl (by decide) (by omega) ?_
              refine z_iconst 45 hC dX0_judgeSticks_44 rfl ?_
              refine z_isub 46 hC dX0_judgeSticks_45 rfl ?_
              refine z_icmp_ge 76 49 hC dX0_judgeSticks_46 (by decide) rfl (by omega) (by omega) (fun c_10 => ?_) (fun c_10 => ?_)
              · skip
                refine z_aloadn 77 hC 1 dX0_judgeSticks_76 rfl rfl rfl ?_
                refine z_get 80 0 5 hC hinX0 L27 dX0_judgeSticks_77 rfl rfl rfl (by decide) rfl ?_
                refine z_iloadn 81 hC 0 dX0_judgeSticks_80 rfl rfl rfl ?_
                refine z_dup2 82 hC dX0_judgeSticks_81 rfl rfl rfl ?_
                refine z_iald 83 6 hC dX0_judgeSticks_82 rfl rfl (by decide) (by omega) ?_
                refine z_iconst 84 hC dX0_judgeSticks_83 rfl ?_
                refine z_aloadn 85 hC 1 dX0_judgeSticks_84 rfl rfl rfl ?_
                refine z_get 88 0 0 hC hinX0 L9 dX0_judgeSticks_85 rfl rfl rfl (by decide) rfl ?_
                refine z_iloadn 89 hC 2 dX0_judgeSticks_88 rfl rfl rfl ?_
                refine z_iald 90 1 hC dX0_judgeSticks_89 rfl rfl (by decide) (by omega) ?_
                have b_11 := hs i (by omega) (by omega)
                refine z_iconst 91 hC dX0_judgeSticks_90 rfl ?_
                refine z_idiv 92 hC dX0_judgeSticks_91 rfl (by omega) (by omega) ?_
                refine z_iadd 93 hC dX0_judgeSticks_92 rfl ?_
                refine z_iadd 94 hC dX0_judgeSticks_93 rfl ?_
                refine z_iast (ws' := wSh g h a s f w (jO s w o p i) (jP s w o p i) (up (jT s w o p t i) ((jO s w o p i) i) (((jT s w o p t i) ((jO s w o p i) i)) + (1 + ((s i) / 5)))) lo sl (fa + jF s w o p i)) 95 6 hC dX0_judgeSticks_94 rfl rfl (by decide) (by omega) rfl ?_
                refine z_iinc (lv' := [(1, .int (iI (i + 1))), (2, .int (iI ((jO s w o p i) i))), (0, .ref h)]) 98 2 hC dX0_judgeSticks_95 rfl rfl (by decide) rfl ?_
                refine z_goto 2 hC dX0_judgeSticks_98 (by decide) ?_
                refine z_lv (lv' := [(0, .ref h), (1, .int (iI (i + 1)))]) [2, 0] rfl ?_
                refine z_weq (ws' := wSh g h a s f w (jO s w o p (i + 1)) (jP s w o p (i + 1)) (jT s w o p t (i + 1)) lo sl (fa + jF s w o p (i + 1))) (zEq.cons (zE1.obj (zfk (zfk (zfk (zfk (zfk (zfk (zfk (zfk (zfc (by first | exact jF_n (by omega) (by omega) | exact jF_k (by omega) (by unfold fal; omega) | exact jF_y (by omega) (by omega) (by unfold fal; omega)) rfl)))))))))) (zEq.cons zE1.rf (zEq.cons zE1.rf (zEq.cons zE1.rf (zEq.cons (zE1.arr (by first | (intro j h0 h1; rfl) | (intro j h0 h1; first | exact jO_n (by omega) j | exact jO_k (by unfold fal; omega) j | exact jO_y (by omega) (by unfold fal; omega) j))) (zEq.cons (zE1.arr (by first | (intro j h0 h1; rfl) | (intro j h0 h1; first | exact jP_n (by omega) j | exact jP_k (by unfold fal; omega) j | exact jP_y (by omega) (by unfold fal; omega) j))) (zEq.cons (zE1.arr (by first | (intro j h0 h1; rfl) | (intro j h0 h1; first | exact jT_n (by omega) (by omega) j h0 | exact jT_k (by omega) (by unfold fal; omega) j | (rw [e1]; exact jT_y (by omega) (by omega) (by unfold fal; omega) j)))) zEq.nil))))))) ?_
                exact ih2 (i + 1) (by omega) (by omega)
              · skip
                refine z_aloadn 50 hC 1 dX0_judgeSticks_49 rfl rfl rfl ?_
                refine z_get 53 0 3 hC hinX0 L21 dX0_judgeSticks_50 rfl rfl rfl (by decide) rfl ?_
                refine z_iloadn 54 hC 2 dX0_judgeSticks_53 rfl rfl rfl ?_
                refine z_iconst 55 hC dX0_judgeSticks_54 rfl ?_
                refine z_iast (ws' := wSh g h a s f w (up (jO s w o p i) i (-1)) (jP s w o p i) (jT s w o p t i) lo sl (fa + jF s w o p i)) 56 4 hC dX0_judgeSticks_55 rfl rfl (by decide) (by omega) rfl ?_
                refine z_aloadn 57 hC 1 dX0_judgeSticks_56 rfl rfl rfl ?_
                refine z_get 60 0 4 hC hinX0 L24 dX0_judgeSticks_57 rfl rfl rfl (by decide) rfl ?_
                refine z_iloadn 61 hC 2 dX0_judgeSticks_60 rfl rfl rfl ?_
                refine z_iconst 62 hC dX0_judgeSticks_61 rfl ?_
                refine z_iast (ws' := wSh g h a s f w (up (jO s w o p i) i (-1)) (up (jP s w o p i) i 0) (jT s w o p t i) lo sl (fa + jF s w o p i)) 63 5 hC dX0_judgeSticks_62 rfl rfl (by decide) (by omega) rfl ?_
                refine z_aloadn 64 hC 1 dX0_judgeSticks_63 rfl rfl rfl ?_
                refine z_dup 65 hC dX0_judgeSticks_64 rfl rfl ?_
                refine z_get 68 0 8 hC hinX0 L46 dX0_judgeSticks_65 rfl rfl rfl (by decide) rfl ?_
                refine z_iconst 69 hC dX0_judgeSticks_68 rfl ?_
                refine z_iadd 70 hC dX0_judgeSticks_69 rfl ?_
                refine z_put (ty := .int) (ws' := wSh g h a s f w (up (jO s w o p i) i (-1)) (up (jP s w o p i) i 0) (jT s w o p t i) lo sl ((fa + jF s w o p i) + 1)) 73 0 8 hC tyX0 tyX0_ok nmX0 hinX0 L46 dX0_judgeSticks_70 rfl rfl rfl (by decide) rfl (by decide +kernel) rfl rfl (nle rfl) rfl ?_
                refine z_goto 95 hC dX0_judgeSticks_73 (by decide) ?_
                refine z_iinc (lv' := [(1, .int (iI (i + 1))), (2, .int (iI ((jO s w o p i) i))), (0, .ref h)]) 98 2 hC dX0_judgeSticks_95 rfl rfl (by decide) rfl ?_
                refine z_goto 2 hC dX0_judgeSticks_98 (by decide) ?_
                refine z_lv (lv' := [(0, .ref h), (1, .int (iI (i + 1)))]) [2, 0] rfl ?_
                refine z_weq (ws' := wSh g h a s f w (jO s w o p (i + 1)) (jP s w o p (i + 1)) (jT s w o p t (i + 1)) lo sl (fa + jF s w o p (i + 1))) (zEq.cons (zE1.obj (zfk (zfk (zfk (zfk (zfk (zfk (zfk (zfk (zfc (by first | exact jF_n (by omega) (by omega) | exact jF_k (by omega) (by unfold fal; omega) | exact jF_y (by omega) (by omega) (by unfold fal; omega)) rfl)))))))))) (zEq.cons zE1.rf (zEq.cons zE1.rf (zEq.cons zE1.rf (zEq.cons (zE1.arr (by first | (intro j h0 h1; rfl) | (intro j h0 h1; first | exact jO_n (by omega) j | exact jO_k (by unfold fal; omega) j | exact jO_y (by omega) (by unfold fal; omega) j))) (zEq.cons (zE1.arr (by first | (intro j h0 h1; rfl) | (intro j h0 h1; first | exact jP_n (by omega) j | exact jP_k (by unfold fal; omega) j | exact jP_y (by omega) (by unfold fal; omega) j))) (zEq.cons (zE1.arr (by first | (intro j h0 h1; rfl) | (intro j h0 h1; first | exact jT_n (by omega) (by omega) j h0 | exact jT_k (by omega) (by unfold fal; omega) j | (rw [e1]; exact jT_y (by omega) (by omega) (by unfold fal; omega) j)))) zEq.nil))))))) ?_
                exact ih2 (i + 1) (by omega) (by omega)
  refine z_lv (lv' := [(0, .ref h), (1, .int (iI 0))]) [1, 0] rfl ?_
  refine z_weq (ws' := wSh g h a s f w (jO s w o p 0) (jP s w o p 0) (jT s w o p t 0) lo sl (fa + jF s w o p 0)) (zEq.cons (zE1.obj (zfk (zfk (zfk (zfk (zfk (zfk (zfk (zfk (zfc (by exact (Int.add_zero _).symm) rfl)))))))))) (zEq.cons zE1.rf (zEq.cons zE1.rf (zEq.cons zE1.rf (zEq.cons (zE1.arr (by first | (intro j h0 h1; rfl) | (intro j h0 h1; exact (if_neg (fun q => by omega)).symm))) (zEq.cons (zE1.arr (by first | (intro j h0 h1; rfl) | (intro j h0 h1; exact (if_neg (fun q => by omega)).symm))) (zEq.cons (zE1.arr (by first | (intro j h0 h1; rfl) | (intro j h0 h1; exact (Int.add_zero _).symm))) zEq.nil))))))) ?_
  exact loop2 ((120 - 0 + 1 : Int).toNat) 0 (by omega) (by omega)
set_option maxHeartbeats 4000000 in
set_option maxRecDepth 100000 in
theorem c_X0_letHourGoBy (l : Launch) (D : va_G) (g : Nat → ClassId) (h : Nat) (a : Nat → Nat) (s f w o p t : Int → Int) (lo sl fa : Int) (L : Int) (hs : Bd s 120 0 20) (hf : Bd f 120 0 5) (ho : Bd o 120 (-1) 119) (hp : Bd p 120 0 38) (hL : -1000 ≤ L ∧ L ≤ 1000) : ZMv (S := Unit) l yX0_letHourGoBy wsX0_letHourGoBy ({ frames := 4, cells := 0, slots := 0, locals := 220 }) D g [.ref h, .int (iI L)] (wSh g h a s f w o p t lo sl fa) (fun _ => True) (fun _ => wSh g h a (hS s f L) (hF s f L) (wet s L) (hO s f o p L) (hP s f o p L) (hT s f o p t L) (lo + hLo s f L) (hSl s f L) (fa + hFa s f o p L)) 0 0 := by
  have hinX0 : ∀ w ∈ u_ws RX0 TX0 9, w ∈ wsX0_letHourGoBy := by decide +kernel
  have L43 : Cond.fieldLink RX0 43 "SandcastleLeague$Shore" "slides" "I" ∈ wsX0_letHourGoBy := by decide +kernel
  refine ZMv.of (ty := .int) (own := RX0) cX0_letHourGoBy 2 [(0, .ref h), (1, .int (iI L))] (by decide +kernel) rfl (nle rfl) rfl rfl ?_
  intro E hC hN hret
  refine z_aloadn 1 hC 0 dX0_letHourGoBy_0 rfl rfl rfl ?_
  refine z_iloadn 2 hC 1 dX0_letHourGoBy_1 rfl rfl rfl ?_
  refine z_callv (wr := []) (w2 := fun _ => wSh g h a s f (wet s L) o p t lo sl fa) 5 hC [0, 1, 2, 3, 4, 5, 6] [] [0, 1, 2, 3, 4, 5, 6] (z_runV (nA := 1) hC hN (c_X0_findWater l D g h a s f w o p t lo sl fa L hs (by omega)) [0, 1, 2, 3, 4, 5, 6] rfl (by decide) gX0_letHourGoBy_X0_findWater (by decide +kernel) rfl rfl rfl ⟨by decide, by decide⟩ rfl rfl (nle rfl) dX0_letHourGoBy_2 ⟨by decide, by decide⟩ 0 rfl rfl) rfl rfl (by decide) (by decide) (fun _ => rfl) (by decide) rfl (k2 := 0) (n2 := 0) rfl rfl (fun _ p_1 => ?_)
  refine z_aloadn 6 hC 0 dX0_letHourGoBy_5 rfl rfl rfl ?_
  refine z_iloadn 7 hC 1 dX0_letHourGoBy_6 rfl rfl rfl ?_
  refine z_callv (wr := []) (w2 := fun _ => wSh g h a (wsh s f (wet s L) L 120) (wshF f (wet s L) 120) (wet s L) o p t (lo + wshL s f (wet s L) L 120) sl fa) 10 hC [0, 1, 2, 3, 4, 5, 6] [] [0, 1, 2, 3, 4, 5, 6] (z_runV (nA := 1) hC hN (c_X0_washSandAway l D g h a s f (wet s L) o p t lo sl fa L hs hf (wet_bd s L) (by omega) (by intro j _ _ q; exact wet_lt q)) [0, 1, 2, 3, 4, 5, 6] rfl (by decide) gX0_letHourGoBy_X0_washSandAway (by decide +kernel) rfl rfl rfl ⟨by decide, by decide⟩ rfl rfl (nle rfl) dX0_letHourGoBy_7 ⟨by decide, by decide⟩ 0 rfl rfl) rfl rfl (by decide) (by decide) (fun _ => rfl) (by decide) rfl (k2 := 0) (n2 := 0) rfl rfl (fun _ p_2 => ?_)
  refine z_aloadn 11 hC 0 dX0_letHourGoBy_10 rfl rfl rfl ?_
  refine z_aloadn 12 hC 0 dX0_letHourGoBy_11 rfl rfl rfl ?_
  refine z_calli (wr := []) (w2 := fun _ => wSh g h a ((slA (wshF f (wet s L) 120) 40 (wsh s f (wet s L) L 120)).1) (wshF f (wet s L) 120) (wet s L) o p t (lo + wshL s f (wet s L) L 120) sl fa) 15 hC [0, 1, 2, 3, 4, 5, 6] [] [0, 1, 2, 3, 4, 5, 6] (z_runV (nA := 0) hC hN (c_X0_letSandSlide l D g h a (wsh s f (wet s L) L 120) (wshF f (wet s L) 120) (wet s L) o p t (lo + wshL s f (wet s L) L 120) sl fa  (wsh_bd f (wet s L) L 120 hs) (wshF_bd (wet s L) 120 hf)) [0, 1, 2, 3, 4, 5, 6] rfl (by decide) gX0_letHourGoBy_X0_letSandSlide (by decide +kernel) rfl rfl rfl ⟨by decide, by decide⟩ rfl rfl (nle rfl) dX0_letHourGoBy_12 ⟨by decide, by decide⟩ 0 rfl rfl) rfl rfl (by decide) (by decide) (fun _ => rfl) (by decide) rfl (k2 := 0) (n2 := 0) rfl rfl (fun z_3 _ p_4 => ?_)
  subst p_4
  refine z_put (ty := .int) (ws' := wSh g h a ((slA (wshF f (wet s L) 120) 40 (wsh s f (wet s L) L 120)).1) (wshF f (wet s L) 120) (wet s L) o p t (lo + wshL s f (wet s L) L 120) ((slA (wshF f (wet s L) 120) 40 (wsh s f (wet s L) L 120)).2) fa) 18 0 7 hC tyX0 tyX0_ok nmX0 hinX0 L43 dX0_letHourGoBy_15 rfl rfl rfl (by decide) rfl (by decide +kernel) rfl rfl (nle rfl) rfl ?_
  refine z_aloadn 19 hC 0 dX0_letHourGoBy_18 rfl rfl rfl ?_
  refine z_callv (wr := []) (w2 := fun _ => wSh g h a ((slA (wshF f (wet s L) 120) 40 (wsh s f (wet s L) L 120)).1) (wshF f (wet s L) 120) (wet s L) (jO ((slA (wshF f (wet s L) 120) 40 (wsh s f (wet s L) L 120)).1) (wet s L) o p 120) (jP ((slA (wshF f (wet s L) 120) 40 (wsh s f (wet s L) L 120)).1) (wet s L) o p 120) (jT ((slA (wshF f (wet s L) 120) 40 (wsh s f (wet s L) L 120)).1) (wet s L) o p t 120) (lo + wshL s f (wet s L) L 120) ((slA (wshF f (wet s L) 120) 40 (wsh s f (wet s L) L 120)).2) (fa + jF ((slA (wshF f (wet s L) 120) 40 (wsh s f (wet s L) L 120)).1) (wet s L) o p 120)) 22 hC [0, 1, 2, 3, 4, 5, 6] [] [0, 1, 2, 3, 4, 5, 6] (z_runV (nA := 0) hC hN (c_X0_judgeSticks l D g h a ((slA (wshF f (wet s L) 120) 40 (wsh s f (wet s L) L 120)).1) (wshF f (wet s L) 120) (wet s L) o p t (lo + wshL s f (wet s L) L 120) ((slA (wshF f (wet s L) 120) 40 (wsh s f (wet s L) L 120)).2) fa  (slA_bd (f := wshF f (wet s L) 120) 40 (wsh_bd f (wet s L) L 120 hs)) (wet_bd s L) ho hp) [0, 1, 2, 3, 4, 5, 6] rfl (by decide) gX0_letHourGoBy_X0_judgeSticks (by decide +kernel) rfl rfl rfl ⟨by decide, by decide⟩ rfl rfl (nle rfl) dX0_letHourGoBy_19 ⟨by decide, by decide⟩ 0 rfl rfl) rfl rfl (by decide) (by decide) (fun _ => rfl) (by decide) rfl (k2 := 0) (n2 := 0) rfl rfl (fun _ p_5 => ?_)
  refine z_weq (ws' := wSh g h a (hS s f L) (hF s f L) (wet s L) (hO s f o p L) (hP s f o p L) (hT s f o p t L) (lo + hLo s f L) (hSl s f L) (fa + hFa s f o p L)) (zEq.cons (zE1.obj (zfk (zfk (zfk (zfk (zfk (zfk (zfc (by first | rfl | omega) (zfc (by first | rfl | omega) (zfc (by first | rfl | omega) rfl)))))))))) (zEq.cons (zE1.arr (by first | (intro j h0 h1; rfl) | (intro j h0 h1; rfl))) (zEq.cons (zE1.arr (by first | (intro j h0 h1; rfl) | (intro j h0 h1; rfl))) (zEq.cons zE1.rf (zEq.cons (zE1.arr (by first | (intro j h0 h1; rfl) | (intro j h0 h1; rfl))) (zEq.cons (zE1.arr (by first | (intro j h0 h1; rfl) | (intro j h0 h1; rfl))) (zEq.cons (zE1.arr (by first | (intro j h0 h1; rfl) | (intro j h0 h1; rfl))) zEq.nil))))))) ?_
  exact hret () dX0_letHourGoBy_22 (by trivial)
end
section
/-! what is made: arrays, objects -/
section ZMK
variable {E : ZE} {cc : ByteArray} {own : String} {Ts : List Cond} {rm : Room} {nL : Nat} {D : va_G} {g : Nat → ClassId} {l : Launch} {ws : va_W} {lv lv' : List (Nat × Value)} {k n k2 n2 pc : Nat} {st : List Value}
theorem z_newi (q : Nat) (hC : ZC E cc own Ts rm nL D g l) {N : Nat} {ws' : Nat → va_W} (harr : Cond.arrayClass .int ∈ Ts) (hN : N < 2147483648) (hby : N * componentBytes .int ≤ 536870912) (hk : k + 1 ≤ rm.cells) (hn : n + N ≤ rm.slots) (d : decode cc pc = .ok (.newarray .int, 2)) (hq : pc + 2 = q) (hk2 : k + 1 = k2) (hn2 : n + N = n2) (hw : ∀ x, ws ++ [(x, .inl (g 0, N, .inl (ia (fun _ => 0))))] = ws' x) (kk : ∀ x : Nat, Z E (ws' x) lv k2 n2 q (.ref x :: st)) : Z E ws lv k n pc (.int (iI (N : Int)) :: st) := by
  subst hq; subst hk2; subst hn2
  obtain ⟨p, l', e, R, s, m, args, below, meth, c, Q, A, D', g', nL'⟩ := E
  obtain ⟨hx, hb, hml, rfl, rfl, rfl, rfl, rfl, hown, hts, hK, hA⟩ := hC
  intro H locs ls hP hD hS hl
  have eN : (iI (N : Int)).toNatClampNeg = N := by rw [iI_cl (by omega) (by omega)]; omega
  have n0 : ¬ iI (N : Int) < 0 := by rw [← iI_0, iI_lt (by omega) (by omega)]; omega
  refine va_newa (ty := .int) (atype := .int) (a0 := (N, .inl (ia (fun _ => 0)))) hx hb (hts _ harr) rfl hK hP hD hS hA (fun _ => rfl) n0 eN hby hk hn d (fun x cA H hK2 hP hD hS => ?_)
  have e1 : s.vm.findClass ("[" ++ (FieldType.toString .int)) = some cA := (hK2.2 4 _ rfl).2
  have e2 : s.vm.findClass ("[" ++ (FieldType.toString .int)) = some (g' 0) := (hK.2 0 _ rfl).2
  have e3 : cA = g' 0 := Option.some.inj (e1.symm.trans e2)
  subst e3
  rw [hw x] at hP hD
  exact kk x H locs ls hP hD hS hl
theorem z_newz (q : Nat) (hC : ZC E cc own Ts rm nL D g l) {N : Nat} {ws' : Nat → va_W} (harr : Cond.arrayClass .boolean ∈ Ts) (hN : N < 2147483648) (hby : N * componentBytes .boolean ≤ 536870912) (hk : k + 1 ≤ rm.cells) (hn : n + N ≤ rm.slots) (d : decode cc pc = .ok (.newarray .boolean, 2)) (hq : pc + 2 = q) (hk2 : k + 1 = k2) (hn2 : n + N = n2) (hw : ∀ x, ws ++ [(x, .inl (g 2, N, .inl (ia (fun _ => 0))))] = ws' x) (kk : ∀ x : Nat, Z E (ws' x) lv k2 n2 q (.ref x :: st)) : Z E ws lv k n pc (.int (iI (N : Int)) :: st) := by
  subst hq; subst hk2; subst hn2
  obtain ⟨p, l', e, R, s, m, args, below, meth, c, Q, A, D', g', nL'⟩ := E
  obtain ⟨hx, hb, hml, rfl, rfl, rfl, rfl, rfl, hown, hts, hK, hA⟩ := hC
  intro H locs ls hP hD hS hl
  have eN : (iI (N : Int)).toNatClampNeg = N := by rw [iI_cl (by omega) (by omega)]; omega
  have n0 : ¬ iI (N : Int) < 0 := by rw [← iI_0, iI_lt (by omega) (by omega)]; omega
  refine va_newa (ty := .boolean) (atype := .boolean) (a0 := (N, .inl (ia (fun _ => 0)))) hx hb (hts _ harr) rfl hK hP hD hS hA (fun _ => rfl) n0 eN hby hk hn d (fun x cA H hK2 hP hD hS => ?_)
  have e1 : s.vm.findClass ("[" ++ (FieldType.toString .boolean)) = some cA := (hK2.2 4 _ rfl).2
  have e2 : s.vm.findClass ("[" ++ (FieldType.toString .boolean)) = some (g' 2) := (hK.2 2 _ rfl).2
  have e3 : cA = g' 2 := Option.some.inj (e1.symm.trans e2)
  subst e3
  rw [hw x] at hP hD
  exact kk x H locs ls hP hD hS hl
theorem z_newl (q : Nat) (hC : ZC E cc own Ts rm nL D g l) {N : Nat} {ws' : Nat → va_W} (harr : Cond.arrayClass .long ∈ Ts) (hN : N < 2147483648) (hby : N * componentBytes .long ≤ 536870912) (hk : k + 1 ≤ rm.cells) (hn : n + N ≤ rm.slots) (d : decode cc pc = .ok (.newarray .long, 2)) (hq : pc + 2 = q) (hk2 : k + 1 = k2) (hn2 : n + N = n2) (hw : ∀ x, ws ++ [(x, .inl (g 1, N, .inr (.inl (fun _ => 0))))] = ws' x) (kk : ∀ x : Nat, Z E (ws' x) lv k2 n2 q (.ref x :: st)) : Z E ws lv k n pc (.int (iI (N : Int)) :: st) := by
  subst hq; subst hk2; subst hn2
  obtain ⟨p, l', e, R, s, m, args, below, meth, c, Q, A, D', g', nL'⟩ := E
  obtain ⟨hx, hb, hml, rfl, rfl, rfl, rfl, rfl, hown, hts, hK, hA⟩ := hC
  intro H locs ls hP hD hS hl
  have eN : (iI (N : Int)).toNatClampNeg = N := by rw [iI_cl (by omega) (by omega)]; omega
  have n0 : ¬ iI (N : Int) < 0 := by rw [← iI_0, iI_lt (by omega) (by omega)]; omega
  refine va_newa (ty := .long) (atype := .long) (a0 := (N, .inr (.inl (fun _ => 0)))) hx hb (hts _ harr) rfl hK hP hD hS hA (fun _ => rfl) n0 eN hby hk hn d (fun x cA H hK2 hP hD hS => ?_)
  have e1 : s.vm.findClass ("[" ++ (FieldType.toString .long)) = some cA := (hK2.2 4 _ rfl).2
  have e2 : s.vm.findClass ("[" ++ (FieldType.toString .long)) = some (g' 1) := (hK.2 1 _ rfl).2
  have e3 : cA = g' 1 := Option.some.inj (e1.symm.trans e2)
  subst e3
  rw [hw x] at hP hD
  exact kk x H locs ls hP hD hS hl
theorem z_objInit (q : Nat) (hC : ZC E cc own Ts rm nL D g l) {idx a : Nat} (h1 : Cond.methodLink own idx Lib.objectInit ∈ Ts) (h2 : Cond.instanceMethod Lib.objectInit ∈ Ts) (h3 : Cond.code Lib.objectInit ⟨#[0xb1]⟩ 1 none ∈ Ts) (hf : 1 ≤ rm.frames) (hlo : 0 + (st.map fun v => v.category).sum + 12 ≤ rm.locals) (d : decode cc pc = .ok (.invokespecial idx, 3)) (hq : pc + 3 = q) (kk : Z E ws lv k n q st) : Z E ws lv k n pc (.ref a :: st) := by
  subst hq
  obtain ⟨p, l', e, R, s, m, args, below, meth, c, Q, A, D', g', nL'⟩ := E
  obtain ⟨hx, hb, hml, rfl, rfl, rfl, rfl, rfl, hown, hts, hK, hA⟩ := hC
  intro H locs ls hP hD hS hl
  refine W.objInit hx hb hown (hts _ h1) (hts _ h2) (hts _ h3) rfl (by rw [hml]; exact hl.1) rfl d hf hlo ?_
  exact kk H locs ls hP hD hS hl
theorem z_new (q ci : Nat) (hC : ZC E cc own Ts rm nL D g l) {C : String} {T : u_T} {N index : Nat} {fs : List Value} {ws' : Nat → va_W} (hin : ∀ w ∈ u_ws C T N, w ∈ Ts) (ty : Nat → FieldType) (hty : ∀ k, k < N → parseFieldDescriptor (T k).2.2.1 = some (ty k)) (h1 : Cond.classLink own index C ∈ Ts) (h2 : Cond.instantiable C N ∈ Ts) (h3 : Cond.initialized C ∈ Ts) (hc : vwCl[ci]? = some (C, T, N)) (hfs : ∀ j, j < N → defaultValue (ty j) = vp_V fs j) (hk : k + 1 ≤ rm.cells) (hn : n + N ≤ rm.slots) (d : decode cc pc = .ok (.new index, 3)) (hq : pc + 3 = q) (hk2 : k + 1 = k2) (hn2 : n + N = n2) (hw : ∀ x, ws ++ [(x, .inr (ci, fs))] = ws' x) (kk : ∀ x : Nat, Z E (ws' x) lv k2 n2 q (.ref x :: st)) : Z E ws lv k n pc st := by
  subst hq; subst hk2; subst hn2
  obtain ⟨p, l', e, R, s, m, args, below, meth, c, Q, A, D', g', nL'⟩ := E
  obtain ⟨hx, hb, hml, rfl, rfl, rfl, rfl, rfl, hown, hts, hK, hA⟩ := hC
  intro H locs ls hP hD hS hl
  refine va_new (ci := ci) (fs := fs) (C := C) (T := T) (N := N) hx hb hts hin ty hty hown (hts _ h1) (hts _ h2) (hts _ h3) hK hP hD hS hA hc hfs hk hn d (fun x H hP hD hS => ?_)
  rw [hw x] at hP hD
  exact kk x H locs ls hP hD hS hl
theorem z_putF (q q0 kf : Nat) (hC : ZC E cc own Ts rm nL D g l) {C : String} {T : u_T} {N ci index a : Nat} {fs : List Value} {v : Value} {ty : FieldType} {ws' : va_W} (ty0 : Nat → FieldType) (hty : ∀ k, k < N → parseFieldDescriptor (T k).2.2.1 = some (ty0 k)) (hnm : ∀ a, a < N → ∀ b, b < N → a ≠ b → (T a).2.1 ≠ (T b).2.1) (hin : ∀ w ∈ u_ws C T N, w ∈ Ts) (hL : Cond.fieldLink own index (T kf).1 (T kf).2.1 (T kf).2.2.1 ∈ Ts) (d : decode cc pc = .ok (.putfield index, 3)) (hq : pc + 3 = q) (he : ws[q0]? = some (a, .inr (ci, fs))) (hc : vwCl[ci]? = some (C, T, N)) (hk : kf < N) (hfin : (T kf).2.2.2 = true) (hI : ZIn E) (hdecl : (T kf).1 = own) (hd : parseFieldDescriptor (T kf).2.2.1 = some ty) (hn : narrow ty v = v) (hfit : fits ty v = true) (hlen : kf < fs.length) (hw : ws.set q0 (a, .inr (ci, fs.set kf v)) = ws') (kk : Z E ws' lv k n q st) : Z E ws lv k n pc (v :: .ref a :: st) := by
  subst hq; subst hw
  obtain ⟨p, l', e, R, s, m, args, below, meth, c, Q, A, D', g', nL'⟩ := E
  obtain ⟨hx, hb, hml, rfl, rfl, rfl, rfl, rfl, hown, hts, hK, hA⟩ := hC
  intro H locs ls hP hD hS hl
  exact va_putF hx hb hts hin ty0 hty hnm hown hK hP hD hS q0 he hc kf hk (hts _ hL) (fun _ h9 => h9) hfin hI hdecl hd hn hfit hlen d (fun H locs hP hD hS => kk H locs ls hP hD hS hl)
theorem z_putR (q q0 kf : Nat) (hC : ZC E cc own Ts rm nL D g l) {C : String} {T : u_T} {N ci index a : Nat} {fs : List Value} {v : Value} {ty : FieldType} {ws' : va_W} (ty0 : Nat → FieldType) (hty : ∀ k, k < N → parseFieldDescriptor (T k).2.2.1 = some (ty0 k)) (hnm : ∀ a, a < N → ∀ b, b < N → a ≠ b → (T a).2.1 ≠ (T b).2.1) (hin : ∀ w ∈ u_ws C T N, w ∈ Ts) (hL : Cond.fieldLink own index (T kf).1 (T kf).2.1 (T kf).2.2.1 ∈ Ts) (d : decode cc pc = .ok (.putfield index, 3)) (hq : pc + 3 = q) (he : ws[q0]? = some (a, .inr (ci, fs))) (hc : vwCl[ci]? = some (C, T, N)) (hk : kf < N) (hfin : (T kf).2.2.2 = false) (hd : parseFieldDescriptor (T kf).2.2.1 = some ty) (hn : narrow ty v = v) (hfit : fits ty v = true) (hlen : kf < fs.length) (hw : ws.set q0 (a, .inr (ci, fs.set kf v)) = ws') (kk : Z E ws' lv k n q st) : Z E ws lv k n pc (v :: .ref a :: st) := by
  subst hq; subst hw
  obtain ⟨p, l', e, R, s, m, args, below, meth, c, Q, A, D', g', nL'⟩ := E
  obtain ⟨hx, hb, hml, rfl, rfl, rfl, rfl, rfl, hown, hts, hK, hA⟩ := hC
  intro H locs ls hP hD hS hl
  exact va_put hx hb hts hin ty0 hty hnm hown hK hP hD hS q0 he hc kf hk (hts _ hL) (fun _ h9 => h9) hfin hd hn hfit hlen d (fun H locs hP hD hS => kk H locs ls hP hD hS hl)
end ZMK
section ZRI
variable {E : ZE} {cc : ByteArray} {own : String} {Ts : List Cond} {rm : Room} {nL : Nat} {D : va_G} {g : Nat → ClassId} {l : Launch} {ws ws' w0 wr : va_W} {lv lv' : List (Nat × Value)} {k n k2 n2 pc mc ms index maxL nA b : Nat} {st As rest : List Value} {y : MethodName} {wsY wsY' : List Cond} {rmY : Room} {bytes : ByteArray} {Qa : Nat → Array Value → State → Outcome → State → Prop}
theorem z_runI (hC : ZC E cc own Ts rm nL D g l) (hN : ZNst E) (hM : ∀ sz, Met l y wsY rmY (zPc D g (.ref b :: As) w0 zTr sz) (Qa sz) mc ms (va_A w0 sz)) (isC : List Nat) (hCp : isC.map (fun i => ws[i]?) = w0.map some) (hCn : va_nd isC = true) (hT : GoodIn Ts wsY) (hini : Cond.initialized y.cls ∈ Ts) (hlk : Cond.methodLink own index y ∈ Ts) (hin : Cond.instanceMethod y ∈ Ts) (hyn : y.name = "<init>") (hd : y.cls ≠ "java/lang/invoke/MethodHandle" ∧ y.cls ≠ "java/lang/invoke/VarHandle" ∧ (parseMethodDescriptor y.desc).map (fun d => d.parameters.length) = some nA) (hw : wsY = Cond.code y bytes maxL none :: wsY') (hrc : rmY.cells = mc) (hrs : rmY.slots = ms) (hR : rmY.frames + 1 ≤ rm.frames ∧ 8 + (maxL + 11) + rmY.locals ≤ rm.locals) (hnA : As.length = nA) (hst : st = As.reverse ++ .ref b :: rest) (hcat : (rest.map fun v => v.category).sum ≤ 8) (d : decode cc pc = .ok (.invokespecial index, 3)) (hf : k + mc ≤ rm.cells ∧ n + ms ≤ rm.slots) : ZRun E ws lv k n pc st rest mc ms (fun sz => Qa sz ((.ref b :: As) : List Value).toArray) w0 := by
  obtain ⟨p, l', e, R, s, m, args, below, meth, c, Q, A, D', g', nL'⟩ := E
  obtain ⟨hx, hb, hml, rfl, rfl, rfl, rfl, rfl, hown, hts, hK, hA⟩ := hC
  intro H locs ls hP hD hS hl
  have hPc := hP.sub isC (zfm hCp)
  have hDc := hD.sub isC hCn hCp
  exact va_runI ⟨hx, hb, hml, hown, hts⟩ (hM H.size) (cwI nA hts hT hw hrc hrs (hts _ hini) (hts _ hlk) (hts _ hin) hyn hd hR) ⟨zPc_blind, fun U hU hW => ⟨rfl, by rw [hU], by rw [hU]; exact hPc, va_K.moved hW.alike hK, hDc.weaken (fun _ _ _ _ => trivial), zNs.warm hW hN, trivial⟩⟩ rfl hnA hl.1 hst (lv_room hcat) d hf
theorem z_runIN (hC : ZC E cc own Ts rm nL D g l) (hN : ZNst E) (hM : ∀ sz, Met l y wsY rmY (zPc D g (.ref b :: As) w0 zTr sz) (Qa sz) mc ms (va_A w0 sz)) (isC : List Nat) (hCp : isC.map (fun i => ws[i]?) = w0.map some) (hCn : va_nd isC = true) {host : String} (hT : GoodIn Ts wsY) (hini : Cond.initialized y.cls ∈ Ts) (hlk : Cond.methodLinkNest own index y host ∈ zNest) (hin : Cond.instanceMethod y ∈ Ts) (hyn : y.name = "<init>") (hd : y.cls ≠ "java/lang/invoke/MethodHandle" ∧ y.cls ≠ "java/lang/invoke/VarHandle" ∧ (parseMethodDescriptor y.desc).map (fun d => d.parameters.length) = some nA) (hw : wsY = Cond.code y bytes maxL none :: wsY') (hrc : rmY.cells = mc) (hrs : rmY.slots = ms) (hR : rmY.frames + 1 ≤ rm.frames ∧ 8 + (maxL + 11) + rmY.locals ≤ rm.locals) (hnA : As.length = nA) (hst : st = As.reverse ++ .ref b :: rest) (hcat : (rest.map fun v => v.category).sum ≤ 8) (d : decode cc pc = .ok (.invokespecial index, 3)) (hf : k + mc ≤ rm.cells ∧ n + ms ≤ rm.slots) : ZRun E ws lv k n pc st rest mc ms (fun sz => Qa sz ((.ref b :: As) : List Value).toArray) w0 := by
  obtain ⟨p, l', e, R, s, m, args, below, meth, c, Q, A, D', g', nL'⟩ := E
  obtain ⟨hx, hb, hml, rfl, rfl, rfl, rfl, rfl, hown, hts, hK, hA⟩ := hC
  intro H locs ls hP hD hS hl
  have hPc := hP.sub isC (zfm hCp)
  have hDc := hD.sub isC hCn hCp
  exact va_runIN ⟨hx, hb, hml, hown, hts⟩ (hM H.size) (⟨va_cnB nA hts hT hw hrc hrs (hN.1 _ hlk) (hts _ hini) hd hR, hyn, hts _ hin⟩) ⟨zPc_blind, fun U hU hW => ⟨rfl, by rw [hU], by rw [hU]; exact hPc, va_K.moved hW.alike hK, hDc.weaken (fun _ _ _ _ => trivial), zNs.warm hW hN, trivial⟩⟩ rfl hnA hl.1 hst (lv_room hcat) d hf
end ZRI
end
section
/-! more of the Shore -/
def tclS (s f w o p : Int → Int) (c x : Int) : Int := if x = 0 then s c else if x = 1 then f c else if x = 2 then hg s c else if x = 3 then w c else if x = 4 then (if o c = -1 then 0 else 1) else p c
def cntS (o : Int → Int) (k : Int) : Int := sumI (fun j => if o j = k then 1 else 0) 120
def stkS (o : Int → Int) : Int := sumI (fun j => if o j = -1 then 0 else 1) 120
theorem sumI_y {f : Int → Int} {i x : Int} (h : 0 ≤ i) (e : x = f i) : sumI f i + x = sumI f (i + 1) := by rw [sumI_s f h, e]
theorem sumI_n {f : Int → Int} {i : Int} (h : 0 ≤ i) (e : f i = 0) : sumI f i = sumI f (i + 1) := by rw [sumI_s f h, e]; omega
set_option maxHeartbeats 4000000 in
set_option maxRecDepth 100000 in
theorem c_X0_clearSticks (l : Launch) (D : va_G) (g : Nat → ClassId) (h : Nat) (a : Nat → Nat) (s f w o p t : Int → Int) (lo sl fa : Int)  : ZMv (S := Unit) l yX0_clearSticks wsX0_clearSticks ({ frames := 1, cells := 0, slots := 0, locals := 60 }) D g [.ref h] (wSh g h a s f w o p t lo sl fa) (fun _ => True) (fun _ => wSh g h a s f w (fun _ => (-1)) (fun _ => 0) (fun _ => 0) lo sl fa) 0 0 := by
  have hinX0 : ∀ w ∈ u_ws RX0 TX0 9, w ∈ wsX0_clearSticks := by decide +kernel
  have L21 : Cond.fieldLink RX0 21 "SandcastleLeague$Shore" "owner" "[I" ∈ wsX0_clearSticks := by decide +kernel
  have L24 : Cond.fieldLink RX0 24 "SandcastleLeague$Shore" "plantedHeight" "[I" ∈ wsX0_clearSticks := by decide +kernel
  have L27 : Cond.fieldLink RX0 27 "SandcastleLeague$Shore" "points" "[I" ∈ wsX0_clearSticks := by decide +kernel
  refine ZMv.of (ty := .int) (own := RX0) cX0_clearSticks 1 [(0, .ref h)] (by decide +kernel) rfl (nle rfl) rfl rfl ?_
  intro E hC hN hret
  refine z_aloadn 1 hC 0 dX0_clearSticks_0 rfl rfl rfl ?_
  refine z_get 4 0 3 hC hinX0 L21 dX0_clearSticks_1 rfl rfl rfl (by decide) rfl ?_
  refine z_iconst 5 hC dX0_clearSticks_4 rfl ?_
  refine z_callv (wr := [(h, .inr (0, [.ref (a 0), .ref (a 1), .ref (a 2), .ref (a 3), .ref (a 4), .ref (a 5), .int (iI lo), .int (iI sl), .int (iI fa)])), ((a 0), ar g 120 s), ((a 1), ar g 120 f), ((a 2), ar g 120 w), ((a 4), ar g 120 p), ((a 5), ar g 120 t)]) (w2 := fun _ => wSh g h a s f w (fun _ => -1) p t lo sl fa) 8 hC [4] [0, 1, 2, 3, 5, 6] [0, 1, 2, 3, 6, 4, 5] (z_runS (nA := 2) hC hN (c_J7_fill_53178 l D g (a 3) 120 o (-1) (by omega)) [4] rfl (by decide) gX0_clearSticks_J7_fill_53178 (by decide +kernel) rfl rfl rfl ⟨by decide, by decide⟩ rfl rfl (nle rfl) dX0_clearSticks_5 ⟨by decide, by decide⟩) rfl rfl (by decide) (by decide) (fun _ => rfl) (by decide) rfl (k2 := 0) (n2 := 0) rfl rfl (fun _ p_1 => ?_)
  refine z_aloadn 9 hC 0 dX0_clearSticks_8 rfl rfl rfl ?_
  refine z_get 12 0 4 hC hinX0 L24 dX0_clearSticks_9 rfl rfl rfl (by decide) rfl ?_
  refine z_iconst 13 hC dX0_clearSticks_12 rfl ?_
  refine z_callv (wr := [(h, .inr (0, [.ref (a 0), .ref (a 1), .ref (a 2), .ref (a 3), .ref (a 4), .ref (a 5), .int (iI lo), .int (iI sl), .int (iI fa)])), ((a 0), ar g 120 s), ((a 1), ar g 120 f), ((a 2), ar g 120 w), ((a 3), ar g 120 (fun _ => -1)), ((a 5), ar g 120 t)]) (w2 := fun _ => wSh g h a s f w (fun _ => -1) (fun _ => 0) t lo sl fa) 16 hC [5] [0, 1, 2, 3, 4, 6] [0, 1, 2, 3, 4, 6, 5] (z_runS (nA := 2) hC hN (c_J7_fill_53178 l D g (a 4) 120 p 0 (by omega)) [5] rfl (by decide) gX0_clearSticks_J7_fill_53178 (by decide +kernel) rfl rfl rfl ⟨by decide, by decide⟩ rfl rfl (nle rfl) dX0_clearSticks_13 ⟨by decide, by decide⟩) rfl rfl (by decide) (by decide) (fun _ => rfl) (by decide) rfl (k2 := 0) (n2 := 0) rfl rfl (fun _ p_2 => ?_)
  refine z_aloadn 17 hC 0 dX0_clearSticks_16 rfl rfl rfl ?_
  refine z_get 20 0 5 hC hinX0 L27 dX0_clearSticks_17 rfl rfl rfl (by decide) rfl ?_
  refine z_iconst 21 hC dX0_clearSticks_20 rfl ?_
  refine z_callv (wr := [(h, .inr (0, [.ref (a 0), .ref (a 1), .ref (a 2), .ref (a 3), .ref (a 4), .ref (a 5), .int (iI lo), .int (iI sl), .int (iI fa)])), ((a 0), ar g 120 s), ((a 1), ar g 120 f), ((a 2), ar g 120 w), ((a 3), ar g 120 (fun _ => -1)), ((a 4), ar g 120 (fun _ => 0))]) (w2 := fun _ => wSh g h a s f w (fun _ => -1) (fun _ => 0) (fun _ => 0) lo sl fa) 24 hC [6] [0, 1, 2, 3, 4, 5] [0, 1, 2, 3, 4, 5, 6] (z_runS (nA := 2) hC hN (c_J7_fill_53178 l D g (a 5) 120 t 0 (by omega)) [6] rfl (by decide) gX0_clearSticks_J7_fill_53178 (by decide +kernel) rfl rfl rfl ⟨by decide, by decide⟩ rfl rfl (nle rfl) dX0_clearSticks_21 ⟨by decide, by decide⟩) rfl rfl (by decide) (by decide) (fun _ => rfl) (by decide) rfl (k2 := 0) (n2 := 0) rfl rfl (fun _ p_3 => ?_)
  refine z_weq (ws' := wSh g h a s f w (fun _ => (-1)) (fun _ => 0) (fun _ => 0) lo sl fa) (zEq.cons zE1.rf (zEq.cons zE1.rf (zEq.cons zE1.rf (zEq.cons zE1.rf (zEq.cons (zE1.arr (by first | (intro j h0 h1; rfl) | (intro j h0 h1; first | rfl | omega))) (zEq.cons zE1.rf (zEq.cons zE1.rf zEq.nil))))))) ?_
  exact hret () dX0_clearSticks_24 (by trivial)
set_option maxHeartbeats 4000000 in
set_option maxRecDepth 100000 in
theorem c_X0_begin (l : Launch) (D : va_G) (g : Nat → ClassId) (h : Nat) (a : Nat → Nat) (s f w o p t : Int → Int) (lo sl fa : Int)  : ZMv (S := Unit) l yX0_begin wsX0_begin ({ frames := 2, cells := 0, slots := 0, locals := 120 }) D g [.ref h] (wSh g h a s f w o p t lo sl fa) (fun _ => True) (fun _ => wSh g h a (fun _ => 4) (fun _ => 0) (fun _ => 0) (fun _ => (-1)) (fun _ => 0) (fun _ => 0) 0 0 0) 0 0 := by
  have hinX0 : ∀ w ∈ u_ws RX0 TX0 9, w ∈ wsX0_begin := by decide +kernel
  have L9 : Cond.fieldLink RX0 9 "SandcastleLeague$Shore" "sand" "[I" ∈ wsX0_begin := by decide +kernel
  have L15 : Cond.fieldLink RX0 15 "SandcastleLeague$Shore" "firmness" "[I" ∈ wsX0_begin := by decide +kernel
  have L18 : Cond.fieldLink RX0 18 "SandcastleLeague$Shore" "water" "[I" ∈ wsX0_begin := by decide +kernel
  have L39 : Cond.fieldLink RX0 39 "SandcastleLeague$Shore" "lostSand" "I" ∈ wsX0_begin := by decide +kernel
  have L43 : Cond.fieldLink RX0 43 "SandcastleLeague$Shore" "slides" "I" ∈ wsX0_begin := by decide +kernel
  have L46 : Cond.fieldLink RX0 46 "SandcastleLeague$Shore" "fallenSticks" "I" ∈ wsX0_begin := by decide +kernel
  refine ZMv.of (ty := .int) (own := RX0) cX0_begin 1 [(0, .ref h)] (by decide +kernel) rfl (nle rfl) rfl rfl ?_
  intro E hC hN hret
  refine z_aloadn 1 hC 0 dX0_begin_0 rfl rfl rfl ?_
  refine z_get 4 0 0 hC hinX0 L9 dX0_begin_1 rfl rfl rfl (by decide) rfl ?_
  refine z_iconst 5 hC dX0_begin_4 rfl ?_
  refine z_callv (wr := [(h, .inr (0, [.ref (a 0), .ref (a 1), .ref (a 2), .ref (a 3), .ref (a 4), .ref (a 5), .int (iI lo), .int (iI sl), .int (iI fa)])), ((a 1), ar g 120 f), ((a 2), ar g 120 w), ((a 3), ar g 120 o), ((a 4), ar g 120 p), ((a 5), ar g 120 t)]) (w2 := fun _ => wSh g h a (fun _ => 4) f w o p t lo sl fa) 8 hC [1] [0, 2, 3, 4, 5, 6] [0, 6, 1, 2, 3, 4, 5] (z_runS (nA := 2) hC hN (c_J7_fill_53178 l D g (a 0) 120 s 4 (by omega)) [1] rfl (by decide) gX0_begin_J7_fill_53178 (by decide +kernel) rfl rfl rfl ⟨by decide, by decide⟩ rfl rfl (nle rfl) dX0_begin_5 ⟨by decide, by decide⟩) rfl rfl (by decide) (by decide) (fun _ => rfl) (by decide) rfl (k2 := 0) (n2 := 0) rfl rfl (fun _ p_1 => ?_)
  refine z_aloadn 9 hC 0 dX0_begin_8 rfl rfl rfl ?_
  refine z_get 12 0 1 hC hinX0 L15 dX0_begin_9 rfl rfl rfl (by decide) rfl ?_
  refine z_iconst 13 hC dX0_begin_12 rfl ?_
  refine z_callv (wr := [(h, .inr (0, [.ref (a 0), .ref (a 1), .ref (a 2), .ref (a 3), .ref (a 4), .ref (a 5), .int (iI lo), .int (iI sl), .int (iI fa)])), ((a 0), ar g 120 (fun _ => 4)), ((a 2), ar g 120 w), ((a 3), ar g 120 o), ((a 4), ar g 120 p), ((a 5), ar g 120 t)]) (w2 := fun _ => wSh g h a (fun _ => 4) (fun _ => 0) w o p t lo sl fa) 16 hC [2] [0, 1, 3, 4, 5, 6] [0, 1, 6, 2, 3, 4, 5] (z_runS (nA := 2) hC hN (c_J7_fill_53178 l D g (a 1) 120 f 0 (by omega)) [2] rfl (by decide) gX0_begin_J7_fill_53178 (by decide +kernel) rfl rfl rfl ⟨by decide, by decide⟩ rfl rfl (nle rfl) dX0_begin_13 ⟨by decide, by decide⟩) rfl rfl (by decide) (by decide) (fun _ => rfl) (by decide) rfl (k2 := 0) (n2 := 0) rfl rfl (fun _ p_2 => ?_)
  refine z_aloadn 17 hC 0 dX0_begin_16 rfl rfl rfl ?_
  refine z_get 20 0 2 hC hinX0 L18 dX0_begin_17 rfl rfl rfl (by decide) rfl ?_
  refine z_iconst 21 hC dX0_begin_20 rfl ?_
  refine z_callv (wr := [(h, .inr (0, [.ref (a 0), .ref (a 1), .ref (a 2), .ref (a 3), .ref (a 4), .ref (a 5), .int (iI lo), .int (iI sl), .int (iI fa)])), ((a 0), ar g 120 (fun _ => 4)), ((a 1), ar g 120 (fun _ => 0)), ((a 3), ar g 120 o), ((a 4), ar g 120 p), ((a 5), ar g 120 t)]) (w2 := fun _ => wSh g h a (fun _ => 4) (fun _ => 0) (fun _ => 0) o p t lo sl fa) 24 hC [3] [0, 1, 2, 4, 5, 6] [0, 1, 2, 6, 3, 4, 5] (z_runS (nA := 2) hC hN (c_J7_fill_53178 l D g (a 2) 120 w 0 (by omega)) [3] rfl (by decide) gX0_begin_J7_fill_53178 (by decide +kernel) rfl rfl rfl ⟨by decide, by decide⟩ rfl rfl (nle rfl) dX0_begin_21 ⟨by decide, by decide⟩) rfl rfl (by decide) (by decide) (fun _ => rfl) (by decide) rfl (k2 := 0) (n2 := 0) rfl rfl (fun _ p_3 => ?_)
  refine z_aloadn 25 hC 0 dX0_begin_24 rfl rfl rfl ?_
  refine z_callv (wr := []) (w2 := fun _ => wSh g h a (fun _ => 4) (fun _ => 0) (fun _ => 0) (fun _ => (-1)) (fun _ => 0) (fun _ => 0) lo sl fa) 28 hC [0, 1, 2, 3, 4, 5, 6] [] [0, 1, 2, 3, 4, 5, 6] (z_runV (nA := 0) hC hN (c_X0_clearSticks l D g h a (fun _ => 4) (fun _ => 0) (fun _ => 0) o p t lo sl fa  ) [0, 1, 2, 3, 4, 5, 6] rfl (by decide) gX0_begin_X0_clearSticks (by decide +kernel) rfl rfl rfl ⟨by decide, by decide⟩ rfl rfl (nle rfl) dX0_begin_25 ⟨by decide, by decide⟩ 0 rfl rfl) rfl rfl (by decide) (by decide) (fun _ => rfl) (by decide) rfl (k2 := 0) (n2 := 0) rfl rfl (fun _ p_4 => ?_)
  refine z_aloadn 29 hC 0 dX0_begin_28 rfl rfl rfl ?_
  refine z_iconst 30 hC dX0_begin_29 rfl ?_
  refine z_put (ty := .int) (ws' := wSh g h a (fun _ => 4) (fun _ => 0) (fun _ => 0) (fun _ => (-1)) (fun _ => 0) (fun _ => 0) 0 sl fa) 33 0 6 hC tyX0 tyX0_ok nmX0 hinX0 L39 dX0_begin_30 rfl rfl rfl (by decide) rfl (by decide +kernel) rfl rfl (nle rfl) rfl ?_
  refine z_aloadn 34 hC 0 dX0_begin_33 rfl rfl rfl ?_
  refine z_iconst 35 hC dX0_begin_34 rfl ?_
  refine z_put (ty := .int) (ws' := wSh g h a (fun _ => 4) (fun _ => 0) (fun _ => 0) (fun _ => (-1)) (fun _ => 0) (fun _ => 0) 0 0 fa) 38 0 7 hC tyX0 tyX0_ok nmX0 hinX0 L43 dX0_begin_35 rfl rfl rfl (by decide) rfl (by decide +kernel) rfl rfl (nle rfl) rfl ?_
  refine z_aloadn 39 hC 0 dX0_begin_38 rfl rfl rfl ?_
  refine z_iconst 40 hC dX0_begin_39 rfl ?_
  refine z_put (ty := .int) (ws' := wSh g h a (fun _ => 4) (fun _ => 0) (fun _ => 0) (fun _ => (-1)) (fun _ => 0) (fun _ => 0) 0 0 0) 43 0 8 hC tyX0 tyX0_ok nmX0 hinX0 L46 dX0_begin_40 rfl rfl rfl (by decide) rfl (by decide +kernel) rfl rfl (nle rfl) rfl ?_
  exact hret () dX0_begin_43 (by trivial)
set_option maxHeartbeats 4000000 in
set_option maxRecDepth 100000 in
theorem c_X0_tellCell (l : Launch) (D : va_G) (g : Nat → ClassId) (h : Nat) (a : Nat → Nat) (s f w o p t : Int → Int) (lo sl fa : Int) (c : Int) (x : Int) (hc : 0 ≤ c ∧ c < 120) (hx : 0 ≤ x ∧ x ≤ 5) (hs : Bd s 120 0 20) (ho : Bd o 120 (-1) 119) : ZMi (S := Unit) l yX0_tellCell wsX0_tellCell ({ frames := 1, cells := 0, slots := 0, locals := 40 }) D g [.ref h, .int (iI c), .int (iI x)] (wSh g h a s f w o p t lo sl fa) (fun z _ => z = tclS s f w o p c x) (fun _ => wSh g h a s f w o p t lo sl fa) 0 0 := by
  have hinX0 : ∀ w ∈ u_ws RX0 TX0 9, w ∈ wsX0_tellCell := by decide +kernel
  have L9 : Cond.fieldLink RX0 9 "SandcastleLeague$Shore" "sand" "[I" ∈ wsX0_tellCell := by decide +kernel
  have L15 : Cond.fieldLink RX0 15 "SandcastleLeague$Shore" "firmness" "[I" ∈ wsX0_tellCell := by decide +kernel
  have L18 : Cond.fieldLink RX0 18 "SandcastleLeague$Shore" "water" "[I" ∈ wsX0_tellCell := by decide +kernel
  have L24 : Cond.fieldLink RX0 24 "SandcastleLeague$Shore" "plantedHeight" "[I" ∈ wsX0_tellCell := by decide +kernel
  refine ZMi.of (own := RX0) cX0_tellCell 3 [(0, .ref h), (1, .int (iI c)), (2, .int (iI x))] (by decide +kernel) rfl (nle rfl) rfl rfl ?_
  intro E hC hN hret
  refine z_iloadn 1 hC 2 dX0_tellCell_0 rfl rfl rfl ?_
  by_cases e_1 : x = 0
  · refine z_tabIn 36 0 hC dX0_tellCell_1 e_1 (by decide) rfl rfl (by decide) ?_
    refine z_aloadn 37 hC 0 dX0_tellCell_36 rfl rfl rfl ?_
    refine z_get 40 0 0 hC hinX0 L9 dX0_tellCell_37 rfl rfl rfl (by decide) rfl ?_
    refine z_iloadn 41 hC 1 dX0_tellCell_40 rfl rfl rfl ?_
    refine z_iald 42 1 hC dX0_tellCell_41 rfl rfl (by decide) (by omega) ?_
    have b_2 := hs c (by omega) (by omega)
    exact hret () dX0_tellCell_42 rfl (by unfold tclS; omega)
  by_cases e_3 : x = 1
  · refine z_tabIn 43 1 hC dX0_tellCell_1 e_3 (by decide) rfl rfl (by decide) ?_
    refine z_aloadn 44 hC 0 dX0_tellCell_43 rfl rfl rfl ?_
    refine z_get 47 0 1 hC hinX0 L15 dX0_tellCell_44 rfl rfl rfl (by decide) rfl ?_
    refine z_iloadn 48 hC 1 dX0_tellCell_47 rfl rfl rfl ?_
    refine z_iald 49 2 hC dX0_tellCell_48 rfl rfl (by decide) (by omega) ?_
    exact hret () dX0_tellCell_49 rfl (by unfold tclS; omega)
  by_cases e_4 : x = 2
  · refine z_tabIn 50 2 hC dX0_tellCell_1 e_4 (by decide) rfl rfl (by decide) ?_
    refine z_aloadn 51 hC 0 dX0_tellCell_50 rfl rfl rfl ?_
    refine z_iloadn 52 hC 1 dX0_tellCell_51 rfl rfl rfl ?_
    refine z_calli (wr := []) (w2 := fun _ => wSh g h a s f w o p t lo sl fa) 55 hC [0, 1, 2, 3, 4, 5, 6] [] [0, 1, 2, 3, 4, 5, 6] (z_runV (nA := 1) hC hN (c_X0_height l D g h a s f w o p t lo sl fa c (by omega)) [0, 1, 2, 3, 4, 5, 6] rfl (by decide) gX0_tellCell_X0_height (by decide +kernel) rfl rfl rfl ⟨by decide, by decide⟩ rfl rfl (nle rfl) dX0_tellCell_52 ⟨by decide, by decide⟩ 0 rfl rfl) rfl rfl (by decide) (by decide) (fun _ => rfl) (by decide) rfl (k2 := 0) (n2 := 0) rfl rfl (fun z_6 _ p_7 => ?_)
    subst p_7
    have y_5 := hg_bd hs (c := c) (by omega)
    exact hret () dX0_tellCell_55 rfl (by unfold tclS; omega)
  by_cases e_8 : x = 3
  · refine z_tabIn 56 3 hC dX0_tellCell_1 e_8 (by decide) rfl rfl (by decide) ?_
    refine z_aloadn 57 hC 0 dX0_tellCell_56 rfl rfl rfl ?_
    refine z_get 60 0 2 hC hinX0 L18 dX0_tellCell_57 rfl rfl rfl (by decide) rfl ?_
    refine z_iloadn 61 hC 1 dX0_tellCell_60 rfl rfl rfl ?_
    refine z_iald 62 3 hC dX0_tellCell_61 rfl rfl (by decide) (by omega) ?_
    exact hret () dX0_tellCell_62 rfl (by unfold tclS; omega)
  by_cases e_9 : x = 4
  · refine z_tabIn 63 4 hC dX0_tellCell_1 e_9 (by decide) rfl rfl (by decide) ?_
    refine z_aloadn 64 hC 0 dX0_tellCell_63 rfl rfl rfl ?_
    refine z_iloadn 65 hC 1 dX0_tellCell_64 rfl rfl rfl ?_
    refine z_calli (wr := []) (w2 := fun _ => wSh g h a s f w o p t lo sl fa) 68 hC [0, 1, 2, 3, 4, 5, 6] [] [0, 1, 2, 3, 4, 5, 6] (z_runV (nA := 1) hC hN (c_X0_hasStick l D g h a s f w o p t lo sl fa c (by omega) ho) [0, 1, 2, 3, 4, 5, 6] rfl (by decide) gX0_tellCell_X0_hasStick (by decide +kernel) rfl rfl rfl ⟨by decide, by decide⟩ rfl rfl (nle rfl) dX0_tellCell_65 ⟨by decide, by decide⟩ 0 rfl rfl) rfl rfl (by decide) (by decide) (fun _ => rfl) (by decide) rfl (k2 := 0) (n2 := 0) rfl rfl (fun z_10 _ p_11 => ?_)
    refine z_if_eq 75 71 hC dX0_tellCell_68 (by decide) rfl (by omega) (fun c_12 => ?_) (fun c_12 => ?_)
    · skip
      refine z_iconst 76 hC dX0_tellCell_75 rfl ?_
      exact hret () dX0_tellCell_76 rfl (by unfold tclS; omega)
    · skip
      refine z_iconst 72 hC dX0_tellCell_71 rfl ?_
      refine z_goto 76 hC dX0_tellCell_72 (by decide) ?_
      exact hret () dX0_tellCell_76 rfl (by unfold tclS; omega)
  refine z_tabOut 77 hC dX0_tellCell_1 (by omega) (by omega) (by decide) ?_
  refine z_aloadn 78 hC 0 dX0_tellCell_77 rfl rfl rfl ?_
  refine z_get 81 0 4 hC hinX0 L24 dX0_tellCell_78 rfl rfl rfl (by decide) rfl ?_
  refine z_iloadn 82 hC 1 dX0_tellCell_81 rfl rfl rfl ?_
  refine z_iald 83 5 hC dX0_tellCell_82 rfl rfl (by decide) (by omega) ?_
  exact hret () dX0_tellCell_83 rfl (by unfold tclS; omega)
set_option maxHeartbeats 4000000 in
set_option maxRecDepth 100000 in
theorem c_X0_sticksOf (l : Launch) (D : va_G) (g : Nat → ClassId) (h : Nat) (a : Nat → Nat) (s f w o p t : Int → Int) (lo sl fa : Int) (k : Int) (ho : Bd o 120 (-1) 119) (hk : -1000000 ≤ k ∧ k ≤ 1000000) : ZMi (S := Unit) l yX0_sticksOf wsX0_sticksOf ({ frames := 1, cells := 0, slots := 0, locals := 40 }) D g [.ref h, .int (iI k)] (wSh g h a s f w o p t lo sl fa) (fun z _ => z = cntS o k) (fun _ => wSh g h a s f w o p t lo sl fa) 0 0 := by
  have hinX0 : ∀ w ∈ u_ws RX0 TX0 9, w ∈ wsX0_sticksOf := by decide +kernel
  have L21 : Cond.fieldLink RX0 21 "SandcastleLeague$Shore" "owner" "[I" ∈ wsX0_sticksOf := by decide +kernel
  refine ZMi.of (own := RX0) cX0_sticksOf 4 [(0, .ref h), (1, .int (iI k))] (by decide +kernel) rfl (nle rfl) rfl rfl ?_
  intro E hC hN hret
  refine z_iconst 1 hC dX0_sticksOf_0 rfl ?_
  refine z_istoren (lv' := [(2, .int (iI 0)), (0, .ref h), (1, .int (iI k))]) 2 hC dX0_sticksOf_1 rfl rfl (by decide) rfl ?_
  refine z_iconst 3 hC dX0_sticksOf_2 rfl ?_
  refine z_istoren (lv' := [(3, .int (iI 0)), (2, .int (iI 0)), (0, .ref h), (1, .int (iI k))]) 4 hC dX0_sticksOf_3 rfl rfl (by decide) rfl ?_
  have loop4 : ∀ (N4 : Nat) (i : Int), 0 ≤ i ∧ i ≤ 120 → (120 - i : Int) < N4 → Z E (wSh g h a s f w o p t lo sl fa) [(0, .ref h), (1, .int (iI k)), (2, .int (iI (sumI (fun j => if o j = k then 1 else 0) i))), (3, .int (iI i))] 0 0 4 [] := by
    intro N4
    induction N4 with
    | zero => intro i hi hm4; exact absurd hm4 (by omega)
    | succ N4 ih4 =>
      intro i hi hm4
      refine z_iloadn 5 hC 3 dX0_sticksOf_4 rfl rfl rfl ?_
      refine z_bipush 7 hC dX0_sticksOf_5 (by decide) rfl ?_
      refine z_icmp_ge 29 10 hC dX0_sticksOf_7 (by decide) rfl (by omega) (by omega) (fun c_1 => ?_) (fun c_1 => ?_)
      · skip
        obtain rfl : i = 120 := by omega
        refine z_iloadn 30 hC 2 dX0_sticksOf_29 rfl rfl rfl ?_
        exact hret () dX0_sticksOf_30 rfl (by rfl)
      · skip
        refine z_aloadn 11 hC 0 dX0_sticksOf_10 rfl rfl rfl ?_
        refine z_get 14 0 3 hC hinX0 L21 dX0_sticksOf_11 rfl rfl rfl (by decide) rfl ?_
        refine z_iloadn 15 hC 3 dX0_sticksOf_14 rfl rfl rfl ?_
        refine z_iald 16 4 hC dX0_sticksOf_15 rfl rfl (by decide) (by omega) ?_
        have b_2 := ho i (by omega) (by omega)
        refine z_iloadn 17 hC 1 dX0_sticksOf_16 rfl rfl rfl ?_
        refine z_icmp_ne 23 20 hC dX0_sticksOf_17 (by decide) rfl (by omega) (by omega) (fun c_3 => ?_) (fun c_3 => ?_)
        · skip
          refine z_iinc (lv' := [(3, .int (iI (i + 1))), (0, .ref h), (1, .int (iI k)), (2, .int (iI (sumI (fun j => if o j = k then 1 else 0) i)))]) 26 3 hC dX0_sticksOf_23 rfl rfl (by decide) rfl ?_
          refine z_goto 4 hC dX0_sticksOf_26 (by decide) ?_
          refine z_lv (lv' := [(0, .ref h), (1, .int (iI k)), (2, .int (iI (sumI (fun j => if o j = k then 1 else 0) i))), (3, .int (iI (i + 1)))]) [1, 2, 3, 0] rfl ?_
          refine z_lveq (lv' := [(0, .ref h), (1, .int (iI k)), (2, .int (iI (sumI (fun j => if o j = k then 1 else 0) (i + 1)))), (3, .int (iI (i + 1)))]) (zfk (zfk (zlc (by first | exact sumI_y (by omega) (by omega) | exact sumI_n (by omega) (by omega)) (zfk rfl)))) ?_
          exact ih4 (i + 1) (by omega) (by omega)
        · skip
          refine z_iinc (lv' := [(2, .int (iI ((sumI (fun j => if o j = k then 1 else 0) i) + 1))), (0, .ref h), (1, .int (iI k)), (3, .int (iI i))]) 23 2 hC dX0_sticksOf_20 rfl rfl (by decide) rfl ?_
          refine z_iinc (lv' := [(3, .int (iI (i + 1))), (2, .int (iI ((sumI (fun j => if o j = k then 1 else 0) i) + 1))), (0, .ref h), (1, .int (iI k))]) 26 3 hC dX0_sticksOf_23 rfl rfl (by decide) rfl ?_
          refine z_goto 4 hC dX0_sticksOf_26 (by decide) ?_
          refine z_lv (lv' := [(0, .ref h), (1, .int (iI k)), (2, .int (iI ((sumI (fun j => if o j = k then 1 else 0) i) + 1))), (3, .int (iI (i + 1)))]) [2, 3, 1, 0] rfl ?_
          refine z_lveq (lv' := [(0, .ref h), (1, .int (iI k)), (2, .int (iI (sumI (fun j => if o j = k then 1 else 0) (i + 1)))), (3, .int (iI (i + 1)))]) (zfk (zfk (zlc (by first | exact sumI_y (by omega) (by omega) | exact sumI_n (by omega) (by omega)) (zfk rfl)))) ?_
          exact ih4 (i + 1) (by omega) (by omega)
  refine z_lv (lv' := [(0, .ref h), (1, .int (iI k)), (2, .int (iI 0)), (3, .int (iI 0))]) [2, 3, 1, 0] rfl ?_
  refine z_lveq (lv' := [(0, .ref h), (1, .int (iI k)), (2, .int (iI (sumI (fun j => if o j = k then 1 else 0) 0))), (3, .int (iI 0))]) (zfk (zfk (zlc (by rfl) (zfk rfl)))) ?_
  exact loop4 ((120 - 0 + 1 : Int).toNat) 0 (by omega) (by omega)
set_option maxHeartbeats 4000000 in
set_option maxRecDepth 100000 in
theorem c_X0_allHeights (l : Launch) (D : va_G) (g : Nat → ClassId) (h : Nat) (a : Nat → Nat) (s f w o p t : Int → Int) (lo sl fa : Int)  (hs : Bd s 120 0 20) : ZMi (S := Unit) l yX0_allHeights wsX0_allHeights ({ frames := 1, cells := 0, slots := 0, locals := 40 }) D g [.ref h] (wSh g h a s f w o p t lo sl fa) (fun z _ => z = sumI (hg s) 120) (fun _ => wSh g h a s f w o p t lo sl fa) 0 0 := by
  refine ZMi.of (own := RX0) cX0_allHeights 3 [(0, .ref h)] (by decide +kernel) rfl (nle rfl) rfl rfl ?_
  intro E hC hN hret
  refine z_iconst 1 hC dX0_allHeights_0 rfl ?_
  refine z_istoren (lv' := [(1, .int (iI 0)), (0, .ref h)]) 2 hC dX0_allHeights_1 rfl rfl (by decide) rfl ?_
  refine z_iconst 3 hC dX0_allHeights_2 rfl ?_
  refine z_istoren (lv' := [(2, .int (iI 0)), (1, .int (iI 0)), (0, .ref h)]) 4 hC dX0_allHeights_3 rfl rfl (by decide) rfl ?_
  have loop4 : ∀ (N4 : Nat) (i : Int), 0 ≤ i ∧ i ≤ 120 → (120 - i : Int) < N4 → Z E (wSh g h a s f w o p t lo sl fa) [(0, .ref h), (1, .int (iI (sumI (hg s) i))), (2, .int (iI i))] 0 0 4 [] := by
    intro N4
    induction N4 with
    | zero => intro i hi hm4; exact absurd hm4 (by omega)
    | succ N4 ih4 =>
      intro i hi hm4
      refine z_iloadn 5 hC 2 dX0_allHeights_4 rfl rfl rfl ?_
      refine z_bipush 7 hC dX0_allHeights_5 (by decide) rfl ?_
      refine z_icmp_ge 24 10 hC dX0_allHeights_7 (by decide) rfl (by omega) (by omega) (fun c_1 => ?_) (fun c_1 => ?_)
      · skip
        obtain rfl : i = 120 := by omega
        refine z_iloadn 25 hC 1 dX0_allHeights_24 rfl rfl rfl ?_
        exact hret () dX0_allHeights_25 rfl (by rfl)
      · skip
        refine z_iloadn 11 hC 1 dX0_allHeights_10 rfl rfl rfl ?_
        refine z_aloadn 12 hC 0 dX0_allHeights_11 rfl rfl rfl ?_
        refine z_iloadn 13 hC 2 dX0_allHeights_12 rfl rfl rfl ?_
        refine z_calli (wr := []) (w2 := fun _ => wSh g h a s f w o p t lo sl fa) 16 hC [0, 1, 2, 3, 4, 5, 6] [] [0, 1, 2, 3, 4, 5, 6] (z_runV (nA := 1) hC hN (c_X0_height l D g h a s f w o p t lo sl fa i (by omega)) [0, 1, 2, 3, 4, 5, 6] rfl (by decide) gX0_allHeights_X0_height (by decide +kernel) rfl rfl rfl ⟨by decide, by decide⟩ rfl rfl (nle rfl) dX0_allHeights_13 ⟨by decide, by decide⟩ 0 rfl rfl) rfl rfl (by decide) (by decide) (fun _ => rfl) (by decide) rfl (k2 := 0) (n2 := 0) rfl rfl (fun z_3 _ p_4 => ?_)
        subst p_4
        have y_2 := hg_bd hs (c := i) (by omega)
        refine z_iadd 17 hC dX0_allHeights_16 rfl ?_
        refine z_istoren (lv' := [(1, .int (iI ((sumI (hg s) i) + (hg s i)))), (0, .ref h), (2, .int (iI i))]) 18 hC dX0_allHeights_17 rfl rfl (by decide) rfl ?_
        refine z_iinc (lv' := [(2, .int (iI (i + 1))), (1, .int (iI ((sumI (hg s) i) + (hg s i)))), (0, .ref h)]) 21 2 hC dX0_allHeights_18 rfl rfl (by decide) rfl ?_
        refine z_goto 4 hC dX0_allHeights_21 (by decide) ?_
        refine z_lv (lv' := [(0, .ref h), (1, .int (iI ((sumI (hg s) i) + (hg s i)))), (2, .int (iI (i + 1)))]) [2, 1, 0] rfl ?_
        refine z_lveq (lv' := [(0, .ref h), (1, .int (iI (sumI (hg s) (i + 1)))), (2, .int (iI (i + 1)))]) (zfk (zlc (by exact sumI_y (by omega) rfl) (zfk rfl))) ?_
        exact ih4 (i + 1) (by omega) (by omega)
  refine z_lv (lv' := [(0, .ref h), (1, .int (iI 0)), (2, .int (iI 0))]) [2, 1, 0] rfl ?_
  refine z_lveq (lv' := [(0, .ref h), (1, .int (iI (sumI (hg s) 0))), (2, .int (iI 0))]) (zfk (zlc (by rfl) (zfk rfl))) ?_
  exact loop4 ((120 - 0 + 1 : Int).toNat) 0 (by omega) (by omega)
set_option maxHeartbeats 4000000 in
set_option maxRecDepth 100000 in
theorem c_X0_allSticks (l : Launch) (D : va_G) (g : Nat → ClassId) (h : Nat) (a : Nat → Nat) (s f w o p t : Int → Int) (lo sl fa : Int)  (ho : Bd o 120 (-1) 119) : ZMi (S := Unit) l yX0_allSticks wsX0_allSticks ({ frames := 1, cells := 0, slots := 0, locals := 40 }) D g [.ref h] (wSh g h a s f w o p t lo sl fa) (fun z _ => z = stkS o) (fun _ => wSh g h a s f w o p t lo sl fa) 0 0 := by
  refine ZMi.of (own := RX0) cX0_allSticks 3 [(0, .ref h)] (by decide +kernel) rfl (nle rfl) rfl rfl ?_
  intro E hC hN hret
  refine z_iconst 1 hC dX0_allSticks_0 rfl ?_
  refine z_istoren (lv' := [(1, .int (iI 0)), (0, .ref h)]) 2 hC dX0_allSticks_1 rfl rfl (by decide) rfl ?_
  refine z_iconst 3 hC dX0_allSticks_2 rfl ?_
  refine z_istoren (lv' := [(2, .int (iI 0)), (1, .int (iI 0)), (0, .ref h)]) 4 hC dX0_allSticks_3 rfl rfl (by decide) rfl ?_
  have loop4 : ∀ (N4 : Nat) (i : Int), 0 ≤ i ∧ i ≤ 120 → (120 - i : Int) < N4 → Z E (wSh g h a s f w o p t lo sl fa) [(0, .ref h), (1, .int (iI (sumI (fun j => if o j = -1 then 0 else 1) i))), (2, .int (iI i))] 0 0 4 [] := by
    intro N4
    induction N4 with
    | zero => intro i hi hm4; exact absurd hm4 (by omega)
    | succ N4 ih4 =>
      intro i hi hm4
      refine z_iloadn 5 hC 2 dX0_allSticks_4 rfl rfl rfl ?_
      refine z_bipush 7 hC dX0_allSticks_5 (by decide) rfl ?_
      refine z_icmp_ge 27 10 hC dX0_allSticks_7 (by decide) rfl (by omega) (by omega) (fun c_1 => ?_) (fun c_1 => ?_)
      · skip
        obtain rfl : i = 120 := by omega
        refine z_iloadn 28 hC 1 dX0_allSticks_27 rfl rfl rfl ?_
        exact hret () dX0_allSticks_28 rfl (by rfl)
      · skip
        refine z_aloadn 11 hC 0 dX0_allSticks_10 rfl rfl rfl ?_
        refine z_iloadn 12 hC 2 dX0_allSticks_11 rfl rfl rfl ?_
        refine z_calli (wr := []) (w2 := fun _ => wSh g h a s f w o p t lo sl fa) 15 hC [0, 1, 2, 3, 4, 5, 6] [] [0, 1, 2, 3, 4, 5, 6] (z_runV (nA := 1) hC hN (c_X0_hasStick l D g h a s f w o p t lo sl fa i (by omega) ho) [0, 1, 2, 3, 4, 5, 6] rfl (by decide) gX0_allSticks_X0_hasStick (by decide +kernel) rfl rfl rfl ⟨by decide, by decide⟩ rfl rfl (nle rfl) dX0_allSticks_12 ⟨by decide, by decide⟩ 0 rfl rfl) rfl rfl (by decide) (by decide) (fun _ => rfl) (by decide) rfl (k2 := 0) (n2 := 0) rfl rfl (fun z_2 _ p_3 => ?_)
        refine z_if_eq 21 18 hC dX0_allSticks_15 (by decide) rfl (by omega) (fun c_4 => ?_) (fun c_4 => ?_)
        · skip
          refine z_iinc (lv' := [(2, .int (iI (i + 1))), (0, .ref h), (1, .int (iI (sumI (fun j => if o j = -1 then 0 else 1) i)))]) 24 2 hC dX0_allSticks_21 rfl rfl (by decide) rfl ?_
          refine z_goto 4 hC dX0_allSticks_24 (by decide) ?_
          refine z_lv (lv' := [(0, .ref h), (1, .int (iI (sumI (fun j => if o j = -1 then 0 else 1) i))), (2, .int (iI (i + 1)))]) [1, 2, 0] rfl ?_
          refine z_lveq (lv' := [(0, .ref h), (1, .int (iI (sumI (fun j => if o j = -1 then 0 else 1) (i + 1)))), (2, .int (iI (i + 1)))]) (zfk (zlc (by first | exact sumI_y (by omega) (by omega) | exact sumI_n (by omega) (by omega)) (zfk rfl))) ?_
          exact ih4 (i + 1) (by omega) (by omega)
        · skip
          refine z_iinc (lv' := [(1, .int (iI ((sumI (fun j => if o j = -1 then 0 else 1) i) + 1))), (0, .ref h), (2, .int (iI i))]) 21 1 hC dX0_allSticks_18 rfl rfl (by decide) rfl ?_
          refine z_iinc (lv' := [(2, .int (iI (i + 1))), (1, .int (iI ((sumI (fun j => if o j = -1 then 0 else 1) i) + 1))), (0, .ref h)]) 24 2 hC dX0_allSticks_21 rfl rfl (by decide) rfl ?_
          refine z_goto 4 hC dX0_allSticks_24 (by decide) ?_
          refine z_lv (lv' := [(0, .ref h), (1, .int (iI ((sumI (fun j => if o j = -1 then 0 else 1) i) + 1))), (2, .int (iI (i + 1)))]) [2, 1, 0] rfl ?_
          refine z_lveq (lv' := [(0, .ref h), (1, .int (iI (sumI (fun j => if o j = -1 then 0 else 1) (i + 1)))), (2, .int (iI (i + 1)))]) (zfk (zlc (by first | exact sumI_y (by omega) (by omega) | exact sumI_n (by omega) (by omega)) (zfk rfl))) ?_
          exact ih4 (i + 1) (by omega) (by omega)
  refine z_lv (lv' := [(0, .ref h), (1, .int (iI 0)), (2, .int (iI 0))]) [2, 1, 0] rfl ?_
  refine z_lveq (lv' := [(0, .ref h), (1, .int (iI (sumI (fun j => if o j = -1 then 0 else 1) 0))), (2, .int (iI 0))]) (zfk (zlc (by rfl) (zfk rfl))) ?_
  exact loop4 ((120 - 0 + 1 : Int).toNat) 0 (by omega) (by omega)
set_option maxHeartbeats 4000000 in
set_option maxRecDepth 100000 in
theorem c_X0_sum (l : Launch) (D : va_G) (g : Nat → ClassId) (x : Nat) (f : Int → Int) : ZMi (S := Unit) l yX0_sum wsX0_sum ({ frames := 0, cells := 0, slots := 0, locals := 0 }) D g [.ref x] ([(x, ar g 120 f)]) (fun z _ => z = sumI f 120) (fun _ => [(x, ar g 120 f)]) 0 0 := by
  refine ZMi.of (own := RX0) cX0_sum 6 [(0, .ref x)] (by decide +kernel) rfl (nle rfl) rfl rfl ?_
  intro E hC hN hret
  refine z_iconst 1 hC dX0_sum_0 rfl ?_
  refine z_istoren (lv' := [(1, .int (iI 0)), (0, .ref x)]) 2 hC dX0_sum_1 rfl rfl (by decide) rfl ?_
  refine z_aloadn 3 hC 1 dX0_sum_2 rfl rfl rfl ?_
  refine z_astoren (lv' := [(2, .ref x), (1, .int (iI 0)), (0, .ref x)]) 4 hC dX0_sum_3 rfl rfl (by decide) rfl ?_
  refine z_aloadn 5 hC 0 dX0_sum_4 rfl rfl rfl ?_
  refine z_alen 6 0 hC dX0_sum_5 rfl rfl rfl ?_
  refine z_istoren (lv' := [(3, .int (iI ((120 : Nat) : Int))), (2, .ref x), (1, .int (iI 0)), (0, .ref x)]) 7 hC dX0_sum_6 rfl rfl (by decide) rfl ?_
  refine z_iconst 8 hC dX0_sum_7 rfl ?_
  refine z_istore (lv' := [(4, .int (iI 0)), (3, .int (iI ((120 : Nat) : Int))), (2, .ref x), (1, .int (iI 0)), (0, .ref x)]) 10 hC dX0_sum_8 rfl (by decide) rfl ?_
  have loop10 : ∀ (N10 : Nat) (i : Int), 0 ≤ i ∧ i ≤ 120 → (120 - i : Int) < N10 → Z E ([(x, ar g 120 f)]) [(0, .ref x), (1, .int (iI (sumI f i))), (2, .ref x), (3, .int (iI ((120 : Nat) : Int))), (4, .int (iI i))] 0 0 10 [] := by
    intro N10
    induction N10 with
    | zero => intro i hi hm10; exact absurd hm10 (by omega)
    | succ N10 ih10 =>
      intro i hi hm10
      refine z_iload 12 hC 4 dX0_sum_10 rfl rfl ?_
      refine z_iloadn 13 hC 3 dX0_sum_12 rfl rfl rfl ?_
      refine z_icmp_ge 33 16 hC dX0_sum_13 (by decide) rfl (by omega) (by omega) (fun c_1 => ?_) (fun c_1 => ?_)
      · skip
        obtain rfl : i = 120 := by omega
        refine z_iloadn 34 hC 1 dX0_sum_33 rfl rfl rfl ?_
        exact hret () dX0_sum_34 rfl (by rfl)
      · skip
        refine z_aloadn 17 hC 2 dX0_sum_16 rfl rfl rfl ?_
        refine z_iload 19 hC 4 dX0_sum_17 rfl rfl ?_
        refine z_iald 20 0 hC dX0_sum_19 rfl rfl (by decide) (by omega) ?_
        refine z_istore (lv' := [(5, .int (iI (f i))), (0, .ref x), (1, .int (iI (sumI f i))), (2, .ref x), (3, .int (iI ((120 : Nat) : Int))), (4, .int (iI i))]) 22 hC dX0_sum_20 rfl (by decide) rfl ?_
        refine z_iloadn 23 hC 2 dX0_sum_22 rfl rfl rfl ?_
        refine z_iload 25 hC 0 dX0_sum_23 rfl rfl ?_
        refine z_iadd 26 hC dX0_sum_25 rfl ?_
        refine z_istoren (lv' := [(1, .int (iI ((sumI f i) + (f i)))), (5, .int (iI (f i))), (0, .ref x), (2, .ref x), (3, .int (iI ((120 : Nat) : Int))), (4, .int (iI i))]) 27 hC dX0_sum_26 rfl rfl (by decide) rfl ?_
        refine z_iinc (lv' := [(4, .int (iI (i + 1))), (1, .int (iI ((sumI f i) + (f i)))), (5, .int (iI (f i))), (0, .ref x), (2, .ref x), (3, .int (iI ((120 : Nat) : Int)))]) 30 5 hC dX0_sum_27 rfl rfl (by decide) rfl ?_
        refine z_goto 10 hC dX0_sum_30 (by decide) ?_
        refine z_lv (lv' := [(0, .ref x), (1, .int (iI ((sumI f i) + (f i)))), (2, .ref x), (3, .int (iI ((120 : Nat) : Int))), (4, .int (iI (i + 1)))]) [3, 1, 4, 5, 0] rfl ?_
        refine z_lveq (lv' := [(0, .ref x), (1, .int (iI (sumI f (i + 1)))), (2, .ref x), (3, .int (iI ((120 : Nat) : Int))), (4, .int (iI (i + 1)))]) (zfk (zlc (by exact sumI_y (by omega) rfl) (zfk (zfk (zfk rfl))))) ?_
        exact ih10 (i + 1) (by omega) (by omega)
  refine z_lv (lv' := [(0, .ref x), (1, .int (iI 0)), (2, .ref x), (3, .int (iI ((120 : Nat) : Int))), (4, .int (iI 0))]) [4, 3, 2, 1, 0] rfl ?_
  refine z_lveq (lv' := [(0, .ref x), (1, .int (iI (sumI f 0))), (2, .ref x), (3, .int (iI ((120 : Nat) : Int))), (4, .int (iI 0))]) (zfk (zlc (by rfl) (zfk (zfk (zfk rfl))))) ?_
  exact loop10 ((120 - 0 + 1 : Int).toNat) 0 (by omega) (by omega)
set_option maxHeartbeats 4000000 in
set_option maxRecDepth 100000 in
theorem c_X0_allSand (l : Launch) (D : va_G) (g : Nat → ClassId) (h : Nat) (a : Nat → Nat) (s f w o p t : Int → Int) (lo sl fa : Int)  : ZMi (S := Unit) l yX0_allSand wsX0_allSand ({ frames := 1, cells := 0, slots := 0, locals := 40 }) D g [.ref h] (wSh g h a s f w o p t lo sl fa) (fun z _ => z = sumI s 120) (fun _ => wSh g h a s f w o p t lo sl fa) 0 0 := by
  have hinX0 : ∀ w ∈ u_ws RX0 TX0 9, w ∈ wsX0_allSand := by decide +kernel
  have L9 : Cond.fieldLink RX0 9 "SandcastleLeague$Shore" "sand" "[I" ∈ wsX0_allSand := by decide +kernel
  refine ZMi.of (own := RX0) cX0_allSand 1 [(0, .ref h)] (by decide +kernel) rfl (nle rfl) rfl rfl ?_
  intro E hC hN hret
  refine z_aloadn 1 hC 0 dX0_allSand_0 rfl rfl rfl ?_
  refine z_get 4 0 0 hC hinX0 L9 dX0_allSand_1 rfl rfl rfl (by decide) rfl ?_
  refine z_calli (wr := [(h, .inr (0, [.ref (a 0), .ref (a 1), .ref (a 2), .ref (a 3), .ref (a 4), .ref (a 5), .int (iI lo), .int (iI sl), .int (iI fa)])), ((a 1), ar g 120 f), ((a 2), ar g 120 w), ((a 3), ar g 120 o), ((a 4), ar g 120 p), ((a 5), ar g 120 t)]) (w2 := fun _ => wSh g h a s f w o p t lo sl fa) 7 hC [1] [0, 2, 3, 4, 5, 6] [0, 6, 1, 2, 3, 4, 5] (z_runS (nA := 1) hC hN (c_X0_sum l D g (a 0) s) [1] rfl (by decide) gX0_allSand_X0_sum (by decide +kernel) rfl rfl rfl ⟨by decide, by decide⟩ rfl rfl (nle rfl) dX0_allSand_4 ⟨by decide, by decide⟩) rfl rfl (by decide) (by decide) (fun _ => rfl) (by decide) rfl (k2 := 0) (n2 := 0) rfl rfl (fun z_1 _ p_2 => ?_)
  subst p_2
  exact hret () dX0_allSand_7 rfl (by rfl)
set_option maxHeartbeats 4000000 in
set_option maxRecDepth 100000 in
theorem c_X0_allWater (l : Launch) (D : va_G) (g : Nat → ClassId) (h : Nat) (a : Nat → Nat) (s f w o p t : Int → Int) (lo sl fa : Int)  : ZMi (S := Unit) l yX0_allWater wsX0_allWater ({ frames := 1, cells := 0, slots := 0, locals := 40 }) D g [.ref h] (wSh g h a s f w o p t lo sl fa) (fun z _ => z = sumI w 120) (fun _ => wSh g h a s f w o p t lo sl fa) 0 0 := by
  have hinX0 : ∀ w ∈ u_ws RX0 TX0 9, w ∈ wsX0_allWater := by decide +kernel
  have L18 : Cond.fieldLink RX0 18 "SandcastleLeague$Shore" "water" "[I" ∈ wsX0_allWater := by decide +kernel
  refine ZMi.of (own := RX0) cX0_allWater 1 [(0, .ref h)] (by decide +kernel) rfl (nle rfl) rfl rfl ?_
  intro E hC hN hret
  refine z_aloadn 1 hC 0 dX0_allWater_0 rfl rfl rfl ?_
  refine z_get 4 0 2 hC hinX0 L18 dX0_allWater_1 rfl rfl rfl (by decide) rfl ?_
  refine z_calli (wr := [(h, .inr (0, [.ref (a 0), .ref (a 1), .ref (a 2), .ref (a 3), .ref (a 4), .ref (a 5), .int (iI lo), .int (iI sl), .int (iI fa)])), ((a 0), ar g 120 s), ((a 1), ar g 120 f), ((a 3), ar g 120 o), ((a 4), ar g 120 p), ((a 5), ar g 120 t)]) (w2 := fun _ => wSh g h a s f w o p t lo sl fa) 7 hC [3] [0, 1, 2, 4, 5, 6] [0, 1, 2, 6, 3, 4, 5] (z_runS (nA := 1) hC hN (c_X0_sum l D g (a 2) w) [3] rfl (by decide) gX0_allWater_X0_sum (by decide +kernel) rfl rfl rfl ⟨by decide, by decide⟩ rfl rfl (nle rfl) dX0_allWater_4 ⟨by decide, by decide⟩) rfl rfl (by decide) (by decide) (fun _ => rfl) (by decide) rfl (k2 := 0) (n2 := 0) rfl rfl (fun z_1 _ p_2 => ?_)
  subst p_2
  exact hret () dX0_allWater_7 rfl (by rfl)
set_option maxHeartbeats 4000000 in
set_option maxRecDepth 100000 in
theorem c_X0_become (l : Launch) (D : va_G) (g : Nat → ClassId) (h : Nat) (a : Nat → Nat) (s f w o p t : Int → Int) (lo sl fa : Int) (h2 : Nat) (a2 : Nat → Nat) (s2 f2 w2 o2 p2 t2 : Int → Int) (lo2 sl2 fa2 : Int) : ZMv (S := Unit) l yX0_become wsX0_become ({ frames := 1, cells := 0, slots := 0, locals := 60 }) D g [.ref h, .ref h2] ((wSh g h a s f w o p t lo sl fa) ++ ((wSh g h2 a2 s2 f2 w2 o2 p2 t2 lo2 sl2 fa2))) (fun _ => True) (fun _ => (wSh g h a s2 f2 w2 o2 p2 t2 lo2 sl2 fa2) ++ ((wSh g h2 a2 s2 f2 w2 o2 p2 t2 lo2 sl2 fa2))) 0 0 := by
  have hinX0 : ∀ w ∈ u_ws RX0 TX0 9, w ∈ wsX0_become := by decide +kernel
  have L9 : Cond.fieldLink RX0 9 "SandcastleLeague$Shore" "sand" "[I" ∈ wsX0_become := by decide +kernel
  have L15 : Cond.fieldLink RX0 15 "SandcastleLeague$Shore" "firmness" "[I" ∈ wsX0_become := by decide +kernel
  have L18 : Cond.fieldLink RX0 18 "SandcastleLeague$Shore" "water" "[I" ∈ wsX0_become := by decide +kernel
  have L21 : Cond.fieldLink RX0 21 "SandcastleLeague$Shore" "owner" "[I" ∈ wsX0_become := by decide +kernel
  have L24 : Cond.fieldLink RX0 24 "SandcastleLeague$Shore" "plantedHeight" "[I" ∈ wsX0_become := by decide +kernel
  have L27 : Cond.fieldLink RX0 27 "SandcastleLeague$Shore" "points" "[I" ∈ wsX0_become := by decide +kernel
  have L39 : Cond.fieldLink RX0 39 "SandcastleLeague$Shore" "lostSand" "I" ∈ wsX0_become := by decide +kernel
  have L43 : Cond.fieldLink RX0 43 "SandcastleLeague$Shore" "slides" "I" ∈ wsX0_become := by decide +kernel
  have L46 : Cond.fieldLink RX0 46 "SandcastleLeague$Shore" "fallenSticks" "I" ∈ wsX0_become := by decide +kernel
  refine ZMv.of (ty := .int) (own := RX0) cX0_become 2 [(0, .ref h), (1, .ref h2)] (by decide +kernel) rfl (nle rfl) rfl rfl ?_
  intro E hC hN hret
  refine z_aloadn 1 hC 1 dX0_become_0 rfl rfl rfl ?_
  refine z_get 4 7 0 hC hinX0 L9 dX0_become_1 rfl rfl rfl (by decide) rfl ?_
  refine z_iconst 5 hC dX0_become_4 rfl ?_
  refine z_aloadn 6 hC 0 dX0_become_5 rfl rfl rfl ?_
  refine z_get 9 0 0 hC hinX0 L9 dX0_become_6 rfl rfl rfl (by decide) rfl ?_
  refine z_iconst 10 hC dX0_become_9 rfl ?_
  refine z_bipush 12 hC dX0_become_10 (by decide) rfl ?_
  refine z_copy (ws' := (wSh g h a s2 f w o p t lo sl fa) ++ ((wSh g h2 a2 s2 f2 w2 o2 p2 t2 lo2 sl2 fa2))) 15 8 1 hC (by decide +kernel) (by decide +kernel) (by decide +kernel) (by decide +kernel) (by decide) (by decide) dX0_become_12 rfl rfl rfl (by decide) rfl ?_
  refine z_aloadn 16 hC 1 dX0_become_15 rfl rfl rfl ?_
  refine z_get 19 7 1 hC hinX0 L15 dX0_become_16 rfl rfl rfl (by decide) rfl ?_
  refine z_iconst 20 hC dX0_become_19 rfl ?_
  refine z_aloadn 21 hC 0 dX0_become_20 rfl rfl rfl ?_
  refine z_get 24 0 1 hC hinX0 L15 dX0_become_21 rfl rfl rfl (by decide) rfl ?_
  refine z_iconst 25 hC dX0_become_24 rfl ?_
  refine z_bipush 27 hC dX0_become_25 (by decide) rfl ?_
  refine z_copy (ws' := (wSh g h a s2 f2 w o p t lo sl fa) ++ ((wSh g h2 a2 s2 f2 w2 o2 p2 t2 lo2 sl2 fa2))) 30 9 2 hC (by decide +kernel) (by decide +kernel) (by decide +kernel) (by decide +kernel) (by decide) (by decide) dX0_become_27 rfl rfl rfl (by decide) rfl ?_
  refine z_aloadn 31 hC 1 dX0_become_30 rfl rfl rfl ?_
  refine z_get 34 7 2 hC hinX0 L18 dX0_become_31 rfl rfl rfl (by decide) rfl ?_
  refine z_iconst 35 hC dX0_become_34 rfl ?_
  refine z_aloadn 36 hC 0 dX0_become_35 rfl rfl rfl ?_
  refine z_get 39 0 2 hC hinX0 L18 dX0_become_36 rfl rfl rfl (by decide) rfl ?_
  refine z_iconst 40 hC dX0_become_39 rfl ?_
  refine z_bipush 42 hC dX0_become_40 (by decide) rfl ?_
  refine z_copy (ws' := (wSh g h a s2 f2 w2 o p t lo sl fa) ++ ((wSh g h2 a2 s2 f2 w2 o2 p2 t2 lo2 sl2 fa2))) 45 10 3 hC (by decide +kernel) (by decide +kernel) (by decide +kernel) (by decide +kernel) (by decide) (by decide) dX0_become_42 rfl rfl rfl (by decide) rfl ?_
  refine z_aloadn 46 hC 1 dX0_become_45 rfl rfl rfl ?_
  refine z_get 49 7 3 hC hinX0 L21 dX0_become_46 rfl rfl rfl (by decide) rfl ?_
  refine z_iconst 50 hC dX0_become_49 rfl ?_
  refine z_aloadn 51 hC 0 dX0_become_50 rfl rfl rfl ?_
  refine z_get 54 0 3 hC hinX0 L21 dX0_become_51 rfl rfl rfl (by decide) rfl ?_
  refine z_iconst 55 hC dX0_become_54 rfl ?_
  refine z_bipush 57 hC dX0_become_55 (by decide) rfl ?_
  refine z_copy (ws' := (wSh g h a s2 f2 w2 o2 p t lo sl fa) ++ ((wSh g h2 a2 s2 f2 w2 o2 p2 t2 lo2 sl2 fa2))) 60 11 4 hC (by decide +kernel) (by decide +kernel) (by decide +kernel) (by decide +kernel) (by decide) (by decide) dX0_become_57 rfl rfl rfl (by decide) rfl ?_
  refine z_aloadn 61 hC 1 dX0_become_60 rfl rfl rfl ?_
  refine z_get 64 7 4 hC hinX0 L24 dX0_become_61 rfl rfl rfl (by decide) rfl ?_
  refine z_iconst 65 hC dX0_become_64 rfl ?_
  refine z_aloadn 66 hC 0 dX0_become_65 rfl rfl rfl ?_
  refine z_get 69 0 4 hC hinX0 L24 dX0_become_66 rfl rfl rfl (by decide) rfl ?_
  refine z_iconst 70 hC dX0_become_69 rfl ?_
  refine z_bipush 72 hC dX0_become_70 (by decide) rfl ?_
  refine z_copy (ws' := (wSh g h a s2 f2 w2 o2 p2 t lo sl fa) ++ ((wSh g h2 a2 s2 f2 w2 o2 p2 t2 lo2 sl2 fa2))) 75 12 5 hC (by decide +kernel) (by decide +kernel) (by decide +kernel) (by decide +kernel) (by decide) (by decide) dX0_become_72 rfl rfl rfl (by decide) rfl ?_
  refine z_aloadn 76 hC 1 dX0_become_75 rfl rfl rfl ?_
  refine z_get 79 7 5 hC hinX0 L27 dX0_become_76 rfl rfl rfl (by decide) rfl ?_
  refine z_iconst 80 hC dX0_become_79 rfl ?_
  refine z_aloadn 81 hC 0 dX0_become_80 rfl rfl rfl ?_
  refine z_get 84 0 5 hC hinX0 L27 dX0_become_81 rfl rfl rfl (by decide) rfl ?_
  refine z_iconst 85 hC dX0_become_84 rfl ?_
  refine z_bipush 87 hC dX0_become_85 (by decide) rfl ?_
  refine z_copy (ws' := (wSh g h a s2 f2 w2 o2 p2 t2 lo sl fa) ++ ((wSh g h2 a2 s2 f2 w2 o2 p2 t2 lo2 sl2 fa2))) 90 13 6 hC (by decide +kernel) (by decide +kernel) (by decide +kernel) (by decide +kernel) (by decide) (by decide) dX0_become_87 rfl rfl rfl (by decide) rfl ?_
  refine z_aloadn 91 hC 0 dX0_become_90 rfl rfl rfl ?_
  refine z_aloadn 92 hC 1 dX0_become_91 rfl rfl rfl ?_
  refine z_get 95 7 6 hC hinX0 L39 dX0_become_92 rfl rfl rfl (by decide) rfl ?_
  refine z_put (ty := .int) (ws' := (wSh g h a s2 f2 w2 o2 p2 t2 lo2 sl fa) ++ ((wSh g h2 a2 s2 f2 w2 o2 p2 t2 lo2 sl2 fa2))) 98 0 6 hC tyX0 tyX0_ok nmX0 hinX0 L39 dX0_become_95 rfl rfl rfl (by decide) rfl (by decide +kernel) rfl rfl (nle rfl) rfl ?_
  refine z_aloadn 99 hC 0 dX0_become_98 rfl rfl rfl ?_
  refine z_aloadn 100 hC 1 dX0_become_99 rfl rfl rfl ?_
  refine z_get 103 7 7 hC hinX0 L43 dX0_become_100 rfl rfl rfl (by decide) rfl ?_
  refine z_put (ty := .int) (ws' := (wSh g h a s2 f2 w2 o2 p2 t2 lo2 sl2 fa) ++ ((wSh g h2 a2 s2 f2 w2 o2 p2 t2 lo2 sl2 fa2))) 106 0 7 hC tyX0 tyX0_ok nmX0 hinX0 L43 dX0_become_103 rfl rfl rfl (by decide) rfl (by decide +kernel) rfl rfl (nle rfl) rfl ?_
  refine z_aloadn 107 hC 0 dX0_become_106 rfl rfl rfl ?_
  refine z_aloadn 108 hC 1 dX0_become_107 rfl rfl rfl ?_
  refine z_get 111 7 8 hC hinX0 L46 dX0_become_108 rfl rfl rfl (by decide) rfl ?_
  refine z_put (ty := .int) (ws' := (wSh g h a s2 f2 w2 o2 p2 t2 lo2 sl2 fa2) ++ ((wSh g h2 a2 s2 f2 w2 o2 p2 t2 lo2 sl2 fa2))) 114 0 8 hC tyX0 tyX0_ok nmX0 hinX0 L46 dX0_become_111 rfl rfl rfl (by decide) rfl (by decide +kernel) rfl rfl (nle rfl) rfl ?_
  exact hret () dX0_become_114 (by trivial)
set_option maxHeartbeats 4000000 in
set_option maxRecDepth 100000 in
theorem c_X0_init (l : Launch) (D : va_G) (g : Nat → ClassId) (h : Nat) : ZMv (S := (Nat → Nat)) l yX0_init wsX0_init ({ frames := 1, cells := 6, slots := 720, locals := 40 }) D g [.ref h] ([(h, .inr (0, [.null, .null, .null, .null, .null, .null, .int (iI 0), .int (iI 0), .int (iI 0)]))]) (fun _ => True) (fun u => wSh g h u (fun _ => 0) (fun _ => 0) (fun _ => 0) (fun _ => 0) (fun _ => 0) (fun _ => 0) 0 0 0) 6 720 := by
  have hinX0 : ∀ w ∈ u_ws RX0 TX0 9, w ∈ wsX0_init := by decide +kernel
  have L9 : Cond.fieldLink RX0 9 "SandcastleLeague$Shore" "sand" "[I" ∈ wsX0_init := by decide +kernel
  have L15 : Cond.fieldLink RX0 15 "SandcastleLeague$Shore" "firmness" "[I" ∈ wsX0_init := by decide +kernel
  have L18 : Cond.fieldLink RX0 18 "SandcastleLeague$Shore" "water" "[I" ∈ wsX0_init := by decide +kernel
  have L21 : Cond.fieldLink RX0 21 "SandcastleLeague$Shore" "owner" "[I" ∈ wsX0_init := by decide +kernel
  have L24 : Cond.fieldLink RX0 24 "SandcastleLeague$Shore" "plantedHeight" "[I" ∈ wsX0_init := by decide +kernel
  have L27 : Cond.fieldLink RX0 27 "SandcastleLeague$Shore" "points" "[I" ∈ wsX0_init := by decide +kernel
  refine ZMv.ofI (own := RX0) cX0_init 1 [(0, .ref h)] (by decide +kernel) (by decide +kernel) rfl (nle rfl) rfl rfl ?_
  intro E hC hN hI hret
  refine z_aloadn 1 hC 0 dX0_init_0 rfl rfl rfl ?_
  refine z_objInit 4 hC (by decide +kernel) (by decide +kernel) (by decide +kernel) (by decide) (nle rfl) dX0_init_1 rfl ?_
  refine z_aloadn 5 hC 0 dX0_init_4 rfl rfl rfl ?_
  refine z_bipush 7 hC dX0_init_5 (by decide) rfl ?_
  refine z_newi (ws' := fun x_1 => ([(h, .inr (0, [.null, .null, .null, .null, .null, .null, .int (iI 0), .int (iI 0), .int (iI 0)]))]) ++ (([(x_1, ar g 120 (fun _ => 0))]))) (k2 := 1) (n2 := 120) 9 hC (by decide +kernel) (by decide) (nle rfl) (by decide) (by decide) dX0_init_7 rfl rfl rfl (fun _ => rfl) (fun x_1 => ?_)
  refine z_putF (ty := .array .int) (ws' := ([(h, .inr (0, [.ref x_1, .null, .null, .null, .null, .null, .int (iI 0), .int (iI 0), .int (iI 0)]))]) ++ (([(x_1, ar g 120 (fun _ => 0))]))) 12 0 0 hC tyX0 tyX0_ok nmX0 hinX0 L9 dX0_init_9 rfl rfl rfl (by decide) rfl hI rfl (by decide +kernel) rfl rfl (nle rfl) rfl ?_
  refine z_aloadn 13 hC 0 dX0_init_12 rfl rfl rfl ?_
  refine z_bipush 15 hC dX0_init_13 (by decide) rfl ?_
  refine z_newi (ws' := fun x_2 => ([(h, .inr (0, [.ref x_1, .null, .null, .null, .null, .null, .int (iI 0), .int (iI 0), .int (iI 0)]))]) ++ (([(x_1, ar g 120 (fun _ => 0))]) ++ (([(x_2, ar g 120 (fun _ => 0))])))) (k2 := 2) (n2 := 240) 17 hC (by decide +kernel) (by decide) (nle rfl) (by decide) (by decide) dX0_init_15 rfl rfl rfl (fun _ => rfl) (fun x_2 => ?_)
  refine z_putF (ty := .array .int) (ws' := ([(h, .inr (0, [.ref x_1, .ref x_2, .null, .null, .null, .null, .int (iI 0), .int (iI 0), .int (iI 0)]))]) ++ (([(x_1, ar g 120 (fun _ => 0))]) ++ (([(x_2, ar g 120 (fun _ => 0))])))) 20 0 1 hC tyX0 tyX0_ok nmX0 hinX0 L15 dX0_init_17 rfl rfl rfl (by decide) rfl hI rfl (by decide +kernel) rfl rfl (nle rfl) rfl ?_
  refine z_aloadn 21 hC 0 dX0_init_20 rfl rfl rfl ?_
  refine z_bipush 23 hC dX0_init_21 (by decide) rfl ?_
  refine z_newi (ws' := fun x_3 => ([(h, .inr (0, [.ref x_1, .ref x_2, .null, .null, .null, .null, .int (iI 0), .int (iI 0), .int (iI 0)]))]) ++ (([(x_1, ar g 120 (fun _ => 0))]) ++ (([(x_2, ar g 120 (fun _ => 0))]) ++ (([(x_3, ar g 120 (fun _ => 0))]))))) (k2 := 3) (n2 := 360) 25 hC (by decide +kernel) (by decide) (nle rfl) (by decide) (by decide) dX0_init_23 rfl rfl rfl (fun _ => rfl) (fun x_3 => ?_)
  refine z_putF (ty := .array .int) (ws' := ([(h, .inr (0, [.ref x_1, .ref x_2, .ref x_3, .null, .null, .null, .int (iI 0), .int (iI 0), .int (iI 0)]))]) ++ (([(x_1, ar g 120 (fun _ => 0))]) ++ (([(x_2, ar g 120 (fun _ => 0))]) ++ (([(x_3, ar g 120 (fun _ => 0))]))))) 28 0 2 hC tyX0 tyX0_ok nmX0 hinX0 L18 dX0_init_25 rfl rfl rfl (by decide) rfl hI rfl (by decide +kernel) rfl rfl (nle rfl) rfl ?_
  refine z_aloadn 29 hC 0 dX0_init_28 rfl rfl rfl ?_
  refine z_bipush 31 hC dX0_init_29 (by decide) rfl ?_
  refine z_newi (ws' := fun x_4 => ([(h, .inr (0, [.ref x_1, .ref x_2, .ref x_3, .null, .null, .null, .int (iI 0), .int (iI 0), .int (iI 0)]))]) ++ (([(x_1, ar g 120 (fun _ => 0))]) ++ (([(x_2, ar g 120 (fun _ => 0))]) ++ (([(x_3, ar g 120 (fun _ => 0))]) ++ (([(x_4, ar g 120 (fun _ => 0))])))))) (k2 := 4) (n2 := 480) 33 hC (by decide +kernel) (by decide) (nle rfl) (by decide) (by decide) dX0_init_31 rfl rfl rfl (fun _ => rfl) (fun x_4 => ?_)
  refine z_putF (ty := .array .int) (ws' := ([(h, .inr (0, [.ref x_1, .ref x_2, .ref x_3, .ref x_4, .null, .null, .int (iI 0), .int (iI 0), .int (iI 0)]))]) ++ (([(x_1, ar g 120 (fun _ => 0))]) ++ (([(x_2, ar g 120 (fun _ => 0))]) ++ (([(x_3, ar g 120 (fun _ => 0))]) ++ (([(x_4, ar g 120 (fun _ => 0))])))))) 36 0 3 hC tyX0 tyX0_ok nmX0 hinX0 L21 dX0_init_33 rfl rfl rfl (by decide) rfl hI rfl (by decide +kernel) rfl rfl (nle rfl) rfl ?_
  refine z_aloadn 37 hC 0 dX0_init_36 rfl rfl rfl ?_
  refine z_bipush 39 hC dX0_init_37 (by decide) rfl ?_
  refine z_newi (ws' := fun x_5 => ([(h, .inr (0, [.ref x_1, .ref x_2, .ref x_3, .ref x_4, .null, .null, .int (iI 0), .int (iI 0), .int (iI 0)]))]) ++ (([(x_1, ar g 120 (fun _ => 0))]) ++ (([(x_2, ar g 120 (fun _ => 0))]) ++ (([(x_3, ar g 120 (fun _ => 0))]) ++ (([(x_4, ar g 120 (fun _ => 0))]) ++ (([(x_5, ar g 120 (fun _ => 0))]))))))) (k2 := 5) (n2 := 600) 41 hC (by decide +kernel) (by decide) (nle rfl) (by decide) (by decide) dX0_init_39 rfl rfl rfl (fun _ => rfl) (fun x_5 => ?_)
  refine z_putF (ty := .array .int) (ws' := ([(h, .inr (0, [.ref x_1, .ref x_2, .ref x_3, .ref x_4, .ref x_5, .null, .int (iI 0), .int (iI 0), .int (iI 0)]))]) ++ (([(x_1, ar g 120 (fun _ => 0))]) ++ (([(x_2, ar g 120 (fun _ => 0))]) ++ (([(x_3, ar g 120 (fun _ => 0))]) ++ (([(x_4, ar g 120 (fun _ => 0))]) ++ (([(x_5, ar g 120 (fun _ => 0))]))))))) 44 0 4 hC tyX0 tyX0_ok nmX0 hinX0 L24 dX0_init_41 rfl rfl rfl (by decide) rfl hI rfl (by decide +kernel) rfl rfl (nle rfl) rfl ?_
  refine z_aloadn 45 hC 0 dX0_init_44 rfl rfl rfl ?_
  refine z_bipush 47 hC dX0_init_45 (by decide) rfl ?_
  refine z_newi (ws' := fun x_6 => ([(h, .inr (0, [.ref x_1, .ref x_2, .ref x_3, .ref x_4, .ref x_5, .null, .int (iI 0), .int (iI 0), .int (iI 0)]))]) ++ (([(x_1, ar g 120 (fun _ => 0))]) ++ (([(x_2, ar g 120 (fun _ => 0))]) ++ (([(x_3, ar g 120 (fun _ => 0))]) ++ (([(x_4, ar g 120 (fun _ => 0))]) ++ (([(x_5, ar g 120 (fun _ => 0))]) ++ (([(x_6, ar g 120 (fun _ => 0))])))))))) (k2 := 6) (n2 := 720) 49 hC (by decide +kernel) (by decide) (nle rfl) (by decide) (by decide) dX0_init_47 rfl rfl rfl (fun _ => rfl) (fun x_6 => ?_)
  refine z_putF (ty := .array .int) (ws' := ([(h, .inr (0, [.ref x_1, .ref x_2, .ref x_3, .ref x_4, .ref x_5, .ref x_6, .int (iI 0), .int (iI 0), .int (iI 0)]))]) ++ (([(x_1, ar g 120 (fun _ => 0))]) ++ (([(x_2, ar g 120 (fun _ => 0))]) ++ (([(x_3, ar g 120 (fun _ => 0))]) ++ (([(x_4, ar g 120 (fun _ => 0))]) ++ (([(x_5, ar g 120 (fun _ => 0))]) ++ (([(x_6, ar g 120 (fun _ => 0))])))))))) 52 0 5 hC tyX0 tyX0_ok nmX0 hinX0 L27 dX0_init_49 rfl rfl rfl (by decide) rfl hI rfl (by decide +kernel) rfl rfl (nle rfl) rfl ?_
  exact hret (fun i => ([x_1, x_2, x_3, x_4, x_5, x_6] : List Nat).getD i 0) dX0_init_52 (by trivial)
end
section
theorem ggX1_init_X0_init : GoodIn wsX1_init wsX0_init := goodIn_r _ [22, 23, 2, 3, 17, 24, 25, 26, 27, 28, 29, 51, 52, 53, 54, 55, 56, 57, 58, 59] (by decide +kernel) (by decide +kernel)
set_option maxRecDepth 20000 in
theorem gX1_init_X0_init_n9 : GoodIn wsX1_init (wsX0_init) := ggX1_init_X0_init
set_option maxRecDepth 20000 in
theorem ggX1_init_X1_beginRound : GoodIn wsX1_init wsX1_beginRound := goodIn_r _ [34, 7, 18, 19, 35, 36, 37, 6, 38, 24, 25, 26, 39, 40, 41, 42, 43, 44, 45, 46, 47, 48, 49, 27, 28, 29, 50, 60, 61, 62, 63, 64, 65, 66, 67, 68, 51, 52, 53, 54, 55, 56, 57, 58, 59] (by decide +kernel) (by decide +kernel)
set_option maxRecDepth 20000 in
theorem gX1_init_X1_beginRound : GoodIn wsX1_init (wsV RX1 40 RX1 yX1_beginRound wsX1_beginRound) := goodIn_app (goodIn_of _ (by decide +kernel)) ggX1_init_X1_beginRound
theorem dX1_init_0 : decode cX1_init 0 = .ok (.aload_n 0, 1) := by decide +kernel
theorem dX1_init_1 : decode cX1_init 1 = .ok (.invokespecial 1, 3) := by decide +kernel
theorem dX1_init_4 : decode cX1_init 4 = .ok (.aload_n 0, 1) := by decide +kernel
theorem dX1_init_5 : decode cX1_init 5 = .ok (.new 7, 3) := by decide +kernel
theorem dX1_init_8 : decode cX1_init 8 = .ok (.dup, 1) := by decide +kernel
theorem dX1_init_9 : decode cX1_init 9 = .ok (.invokespecial 9, 3) := by decide +kernel
theorem dX1_init_12 : decode cX1_init 12 = .ok (.putfield 10, 3) := by decide +kernel
theorem dX1_init_15 : decode cX1_init 15 = .ok (.aload_n 0, 1) := by decide +kernel
theorem dX1_init_16 : decode cX1_init 16 = .ok (.new 7, 3) := by decide +kernel
theorem dX1_init_19 : decode cX1_init 19 = .ok (.dup, 1) := by decide +kernel
theorem dX1_init_20 : decode cX1_init 20 = .ok (.invokespecial 9, 3) := by decide +kernel
theorem dX1_init_23 : decode cX1_init 23 = .ok (.putfield 16, 3) := by decide +kernel
theorem dX1_init_26 : decode cX1_init 26 = .ok (.aload_n 0, 1) := by decide +kernel
theorem dX1_init_27 : decode cX1_init 27 = .ok (.getstatic 19, 3) := by decide +kernel
theorem dX1_init_30 : decode cX1_init 30 = .ok (.invokevirtual 23, 3) := by decide +kernel
theorem dX1_init_33 : decode cX1_init 33 = .ok (.checkcast 24, 3) := by decide +kernel
theorem dX1_init_36 : decode cX1_init 36 = .ok (.putfield 28, 3) := by decide +kernel
theorem dX1_init_39 : decode cX1_init 39 = .ok (.aload_n 0, 1) := by decide +kernel
theorem dX1_init_40 : decode cX1_init 40 = .ok (.iconst 4, 1) := by decide +kernel
theorem dX1_init_41 : decode cX1_init 41 = .ok (.newarray .int, 2) := by decide +kernel
theorem dX1_init_43 : decode cX1_init 43 = .ok (.putfield 31, 3) := by decide +kernel
theorem dX1_init_46 : decode cX1_init 46 = .ok (.aload_n 0, 1) := by decide +kernel
theorem dX1_init_47 : decode cX1_init 47 = .ok (.iconst 4, 1) := by decide +kernel
theorem dX1_init_48 : decode cX1_init 48 = .ok (.newarray .int, 2) := by decide +kernel
theorem dX1_init_50 : decode cX1_init 50 = .ok (.putfield 34, 3) := by decide +kernel
theorem dX1_init_53 : decode cX1_init 53 = .ok (.aload_n 0, 1) := by decide +kernel
theorem dX1_init_54 : decode cX1_init 54 = .ok (.iconst 4, 1) := by decide +kernel
theorem dX1_init_55 : decode cX1_init 55 = .ok (.newarray .int, 2) := by decide +kernel
theorem dX1_init_57 : decode cX1_init 57 = .ok (.putfield 37, 3) := by decide +kernel
theorem dX1_init_60 : decode cX1_init 60 = .ok (.aload_n 0, 1) := by decide +kernel
theorem dX1_init_61 : decode cX1_init 61 = .ok (.invokevirtual 40, 3) := by decide +kernel
theorem dX1_init_64 : decode cX1_init 64 = .ok (.return_, 1) := by decide +kernel
theorem dX1_addTeam_0 : decode cX1_addTeam 0 = .ok (.aload_n 0, 1) := by decide +kernel
theorem dX1_addTeam_1 : decode cX1_addTeam 1 = .ok (.getfield 43, 3) := by decide +kernel
theorem dX1_addTeam_4 : decode cX1_addTeam 4 = .ok (.iconst 4, 1) := by decide +kernel
theorem dX1_addTeam_5 : decode cX1_addTeam 5 = .ok (.if_icmp .lt 13, 3) := by decide +kernel
theorem dX1_addTeam_8 : decode cX1_addTeam 8 = .ok (.new 47, 3) := by decide +kernel
theorem dX1_addTeam_11 : decode cX1_addTeam 11 = .ok (.dup, 1) := by decide +kernel
theorem dX1_addTeam_12 : decode cX1_addTeam 12 = .ok (.ldc 49, 2) := by decide +kernel
theorem dX1_addTeam_14 : decode cX1_addTeam 14 = .ok (.invokespecial 51, 3) := by decide +kernel
theorem dX1_addTeam_17 : decode cX1_addTeam 17 = .ok (.athrow, 1) := by decide +kernel
theorem dX1_addTeam_18 : decode cX1_addTeam 18 = .ok (.aload_n 0, 1) := by decide +kernel
theorem dX1_addTeam_19 : decode cX1_addTeam 19 = .ok (.dup, 1) := by decide +kernel
theorem dX1_addTeam_20 : decode cX1_addTeam 20 = .ok (.getfield 43, 3) := by decide +kernel
theorem dX1_addTeam_23 : decode cX1_addTeam 23 = .ok (.iconst 1, 1) := by decide +kernel
theorem dX1_addTeam_24 : decode cX1_addTeam 24 = .ok (.iadd, 1) := by decide +kernel
theorem dX1_addTeam_25 : decode cX1_addTeam 25 = .ok (.putfield 43, 3) := by decide +kernel
theorem dX1_addTeam_28 : decode cX1_addTeam 28 = .ok (.aload_n 0, 1) := by decide +kernel
theorem dX1_addTeam_29 : decode cX1_addTeam 29 = .ok (.getfield 43, 3) := by decide +kernel
theorem dX1_addTeam_32 : decode cX1_addTeam 32 = .ok (.iconst 1, 1) := by decide +kernel
theorem dX1_addTeam_33 : decode cX1_addTeam 33 = .ok (.isub, 1) := by decide +kernel
theorem dX1_addTeam_34 : decode cX1_addTeam 34 = .ok (.ireturn, 1) := by decide +kernel
set_option maxRecDepth 20000 in
theorem ggX1_setTide_X1_requireLevel : GoodIn wsX1_setTide wsX1_requireLevel := goodIn_ca (goodIn_r _ [7, 8, 9] (by decide +kernel) (by decide +kernel)) (goodIn_sub (fun _ h => List.mem_cons_of_mem _ (List.mem_append_right _ h)) (by decide +kernel))
set_option maxRecDepth 20000 in
theorem gX1_setTide_X1_requireLevel : GoodIn wsX1_setTide (va_wsS RX1 59 yX1_requireLevel wsX1_requireLevel) := goodIn_app (goodIn_of _ (by decide +kernel)) ggX1_setTide_X1_requireLevel
theorem dX1_setTide_0 : decode cX1_setTide 0 = .ok (.iload_n 1, 1) := by decide +kernel
theorem dX1_setTide_1 : decode cX1_setTide 1 = .ok (.ifCond .lt 9, 3) := by decide +kernel
theorem dX1_setTide_4 : decode cX1_setTide 4 = .ok (.iload_n 1, 1) := by decide +kernel
theorem dX1_setTide_5 : decode cX1_setTide 5 = .ok (.bipush 12, 2) := by decide +kernel
theorem dX1_setTide_7 : decode cX1_setTide 7 = .ok (.if_icmp .lt 13, 3) := by decide +kernel
theorem dX1_setTide_10 : decode cX1_setTide 10 = .ok (.new 54, 3) := by decide +kernel
theorem dX1_setTide_13 : decode cX1_setTide 13 = .ok (.dup, 1) := by decide +kernel
theorem dX1_setTide_14 : decode cX1_setTide 14 = .ok (.ldc 56, 2) := by decide +kernel
theorem dX1_setTide_16 : decode cX1_setTide 16 = .ok (.invokespecial 58, 3) := by decide +kernel
theorem dX1_setTide_19 : decode cX1_setTide 19 = .ok (.athrow, 1) := by decide +kernel
theorem dX1_setTide_20 : decode cX1_setTide 20 = .ok (.iload_n 2, 1) := by decide +kernel
theorem dX1_setTide_21 : decode cX1_setTide 21 = .ok (.invokestatic 59, 3) := by decide +kernel
theorem dX1_setTide_24 : decode cX1_setTide 24 = .ok (.aload_n 0, 1) := by decide +kernel
theorem dX1_setTide_25 : decode cX1_setTide 25 = .ok (.getfield 28, 3) := by decide +kernel
theorem dX1_setTide_28 : decode cX1_setTide 28 = .ok (.iload_n 1, 1) := by decide +kernel
theorem dX1_setTide_29 : decode cX1_setTide 29 = .ok (.iaload, 1) := by decide +kernel
theorem dX1_setTide_30 : decode cX1_setTide 30 = .ok (.istore_n 3, 1) := by decide +kernel
theorem dX1_setTide_31 : decode cX1_setTide 31 = .ok (.aload_n 0, 1) := by decide +kernel
theorem dX1_setTide_32 : decode cX1_setTide 32 = .ok (.getfield 28, 3) := by decide +kernel
theorem dX1_setTide_35 : decode cX1_setTide 35 = .ok (.iload_n 1, 1) := by decide +kernel
theorem dX1_setTide_36 : decode cX1_setTide 36 = .ok (.iload_n 2, 1) := by decide +kernel
theorem dX1_setTide_37 : decode cX1_setTide 37 = .ok (.iastore, 1) := by decide +kernel
theorem dX1_setTide_38 : decode cX1_setTide 38 = .ok (.iload_n 3, 1) := by decide +kernel
theorem dX1_setTide_39 : decode cX1_setTide 39 = .ok (.ireturn, 1) := by decide +kernel
set_option maxRecDepth 20000 in
theorem ggX1_dig_X1_requireTeam : GoodIn wsX1_dig wsX1_requireTeam := goodIn_ca (goodIn_r _ [12, 13, 14, 15, 47, 48, 49, 50, 51, 52, 53, 54, 55] (by decide +kernel) (by decide +kernel)) (goodIn_sub (fun _ h => List.mem_cons_of_mem _ (List.mem_append_left _ (List.mem_append_left _ (List.mem_append_right _ h)))) (by decide +kernel))
set_option maxRecDepth 20000 in
theorem gX1_dig_X1_requireTeam : GoodIn wsX1_dig (wsV RX1 63 RX1 yX1_requireTeam wsX1_requireTeam) := goodIn_app (goodIn_of _ (by decide +kernel)) ggX1_dig_X1_requireTeam
set_option maxRecDepth 20000 in
theorem ggX1_dig_X1_requireArea : GoodIn wsX1_dig wsX1_requireArea := goodIn_ca (goodIn_r _ [18, 19, 20, 21, 22, 11, 23, 24, 25, 26, 27, 28, 29] (by decide +kernel) (by decide +kernel)) (goodIn_sub (fun _ h => List.mem_cons_of_mem _ (List.mem_append_left _ (List.mem_append_right _ h))) (by decide +kernel))
set_option maxRecDepth 20000 in
theorem gX1_dig_X1_requireArea : GoodIn wsX1_dig (va_wsS RX1 66 yX1_requireArea wsX1_requireArea) := goodIn_app (goodIn_of _ (by decide +kernel)) ggX1_dig_X1_requireArea
set_option maxRecDepth 20000 in
theorem ggX1_dig_X1_requireAmount : GoodIn wsX1_dig wsX1_requireAmount := goodIn_ca (goodIn_r _ [32, 19, 20] (by decide +kernel) (by decide +kernel)) (goodIn_sub (fun _ h => List.mem_cons_of_mem _ (List.mem_append_left _ (List.mem_append_right _ h))) (by decide +kernel))
set_option maxRecDepth 20000 in
theorem gX1_dig_X1_requireAmount : GoodIn wsX1_dig (va_wsS RX1 70 yX1_requireAmount wsX1_requireAmount) := goodIn_app (goodIn_of _ (by decide +kernel)) ggX1_dig_X1_requireAmount
set_option maxRecDepth 20000 in
theorem ggX1_dig_X1_requireStrength : GoodIn wsX1_dig wsX1_requireStrength := goodIn_ca (goodIn_r _ [36, 37, 38, 1, 47, 48, 49, 50, 51, 52, 53, 54, 55] (by decide +kernel) (by decide +kernel)) (goodIn_sub (fun _ h => List.mem_cons_of_mem _ (List.mem_append_right _ h)) (by decide +kernel))
set_option maxRecDepth 20000 in
theorem gX1_dig_X1_requireStrength : GoodIn wsX1_dig (wsV RX1 73 RX1 yX1_requireStrength wsX1_requireStrength) := goodIn_app (goodIn_of _ (by decide +kernel)) ggX1_dig_X1_requireStrength
set_option maxRecDepth 20000 in
theorem ggX1_dig_X1_cellAt : GoodIn wsX1_dig wsX1_cellAt := goodIn_r _ [26] (by decide +kernel) (by decide +kernel)
set_option maxRecDepth 20000 in
theorem gX1_dig_X1_cellAt : GoodIn wsX1_dig (va_wsS RX1 76 yX1_cellAt wsX1_cellAt) := goodIn_app (goodIn_of _ (by decide +kernel)) ggX1_dig_X1_cellAt
set_option maxRecDepth 20000 in
theorem ggX1_dig_X0_takeSand : GoodIn wsX1_dig wsX0_takeSand := goodIn_r _ [43, 44, 45, 5, 6, 7, 46, 56, 57, 58, 59, 60, 61, 62, 63, 64] (by decide +kernel) (by decide +kernel)
set_option maxRecDepth 20000 in
theorem gX1_dig_X0_takeSand : GoodIn wsX1_dig (wsV RX1 85 RX0 yX0_takeSand wsX0_takeSand) := goodIn_app (goodIn_of _ (by decide +kernel)) ggX1_dig_X0_takeSand
theorem dX1_dig_0 : decode cX1_dig 0 = .ok (.aload_n 0, 1) := by decide +kernel
theorem dX1_dig_1 : decode cX1_dig 1 = .ok (.iload_n 1, 1) := by decide +kernel
theorem dX1_dig_2 : decode cX1_dig 2 = .ok (.invokevirtual 63, 3) := by decide +kernel
theorem dX1_dig_5 : decode cX1_dig 5 = .ok (.iload_n 1, 1) := by decide +kernel
theorem dX1_dig_6 : decode cX1_dig 6 = .ok (.iload_n 2, 1) := by decide +kernel
theorem dX1_dig_7 : decode cX1_dig 7 = .ok (.iload_n 3, 1) := by decide +kernel
theorem dX1_dig_8 : decode cX1_dig 8 = .ok (.invokestatic 66, 3) := by decide +kernel
theorem dX1_dig_11 : decode cX1_dig 11 = .ok (.iload 4, 2) := by decide +kernel
theorem dX1_dig_13 : decode cX1_dig 13 = .ok (.invokestatic 70, 3) := by decide +kernel
theorem dX1_dig_16 : decode cX1_dig 16 = .ok (.aload_n 0, 1) := by decide +kernel
theorem dX1_dig_17 : decode cX1_dig 17 = .ok (.iload_n 1, 1) := by decide +kernel
theorem dX1_dig_18 : decode cX1_dig 18 = .ok (.invokevirtual 73, 3) := by decide +kernel
theorem dX1_dig_21 : decode cX1_dig 21 = .ok (.aload_n 0, 1) := by decide +kernel
theorem dX1_dig_22 : decode cX1_dig 22 = .ok (.getfield 34, 3) := by decide +kernel
theorem dX1_dig_25 : decode cX1_dig 25 = .ok (.iload_n 1, 1) := by decide +kernel
theorem dX1_dig_26 : decode cX1_dig 26 = .ok (.dup2, 1) := by decide +kernel
theorem dX1_dig_27 : decode cX1_dig 27 = .ok (.iaload, 1) := by decide +kernel
theorem dX1_dig_28 : decode cX1_dig 28 = .ok (.iconst 1, 1) := by decide +kernel
theorem dX1_dig_29 : decode cX1_dig 29 = .ok (.isub, 1) := by decide +kernel
theorem dX1_dig_30 : decode cX1_dig 30 = .ok (.iastore, 1) := by decide +kernel
theorem dX1_dig_31 : decode cX1_dig 31 = .ok (.aload_n 0, 1) := by decide +kernel
theorem dX1_dig_32 : decode cX1_dig 32 = .ok (.getfield 10, 3) := by decide +kernel
theorem dX1_dig_35 : decode cX1_dig 35 = .ok (.iload_n 2, 1) := by decide +kernel
theorem dX1_dig_36 : decode cX1_dig 36 = .ok (.iload_n 3, 1) := by decide +kernel
theorem dX1_dig_37 : decode cX1_dig 37 = .ok (.invokestatic 76, 3) := by decide +kernel
theorem dX1_dig_40 : decode cX1_dig 40 = .ok (.iload 4, 2) := by decide +kernel
theorem dX1_dig_42 : decode cX1_dig 42 = .ok (.bipush 40, 2) := by decide +kernel
theorem dX1_dig_44 : decode cX1_dig 44 = .ok (.aload_n 0, 1) := by decide +kernel
theorem dX1_dig_45 : decode cX1_dig 45 = .ok (.getfield 31, 3) := by decide +kernel
theorem dX1_dig_48 : decode cX1_dig 48 = .ok (.iload_n 1, 1) := by decide +kernel
theorem dX1_dig_49 : decode cX1_dig 49 = .ok (.iaload, 1) := by decide +kernel
theorem dX1_dig_50 : decode cX1_dig 50 = .ok (.isub, 1) := by decide +kernel
theorem dX1_dig_51 : decode cX1_dig 51 = .ok (.invokestatic 80, 3) := by decide +kernel
theorem dX1_dig_54 : decode cX1_dig 54 = .ok (.invokevirtual 85, 3) := by decide +kernel
theorem dX1_dig_57 : decode cX1_dig 57 = .ok (.istore 5, 2) := by decide +kernel
theorem dX1_dig_59 : decode cX1_dig 59 = .ok (.aload_n 0, 1) := by decide +kernel
theorem dX1_dig_60 : decode cX1_dig 60 = .ok (.getfield 31, 3) := by decide +kernel
theorem dX1_dig_63 : decode cX1_dig 63 = .ok (.iload_n 1, 1) := by decide +kernel
theorem dX1_dig_64 : decode cX1_dig 64 = .ok (.dup2, 1) := by decide +kernel
theorem dX1_dig_65 : decode cX1_dig 65 = .ok (.iaload, 1) := by decide +kernel
theorem dX1_dig_66 : decode cX1_dig 66 = .ok (.iload 5, 2) := by decide +kernel
theorem dX1_dig_68 : decode cX1_dig 68 = .ok (.iadd, 1) := by decide +kernel
theorem dX1_dig_69 : decode cX1_dig 69 = .ok (.iastore, 1) := by decide +kernel
theorem dX1_dig_70 : decode cX1_dig 70 = .ok (.iload 5, 2) := by decide +kernel
theorem dX1_dig_72 : decode cX1_dig 72 = .ok (.ireturn, 1) := by decide +kernel
set_option maxRecDepth 20000 in
theorem ggX1_pile_X1_requireTeam : GoodIn wsX1_pile wsX1_requireTeam := goodIn_ca (goodIn_r _ [12, 13, 14, 15, 51, 52, 53, 54, 55, 56, 57, 58, 59] (by decide +kernel) (by decide +kernel)) (goodIn_sub (fun _ h => List.mem_cons_of_mem _ (List.mem_append_left _ (List.mem_append_left _ (List.mem_append_right _ h)))) (by decide +kernel))
set_option maxRecDepth 20000 in
theorem gX1_pile_X1_requireTeam : GoodIn wsX1_pile (wsV RX1 63 RX1 yX1_requireTeam wsX1_requireTeam) := goodIn_app (goodIn_of _ (by decide +kernel)) ggX1_pile_X1_requireTeam
set_option maxRecDepth 20000 in
theorem ggX1_pile_X1_requireArea : GoodIn wsX1_pile wsX1_requireArea := goodIn_ca (goodIn_r _ [18, 19, 20, 21, 22, 11, 23, 24, 25, 26, 27, 28, 29] (by decide +kernel) (by decide +kernel)) (goodIn_sub (fun _ h => List.mem_cons_of_mem _ (List.mem_append_left _ (List.mem_append_right _ h))) (by decide +kernel))
set_option maxRecDepth 20000 in
theorem gX1_pile_X1_requireArea : GoodIn wsX1_pile (va_wsS RX1 66 yX1_requireArea wsX1_requireArea) := goodIn_app (goodIn_of _ (by decide +kernel)) ggX1_pile_X1_requireArea
set_option maxRecDepth 20000 in
theorem ggX1_pile_X1_requireAmount : GoodIn wsX1_pile wsX1_requireAmount := goodIn_ca (goodIn_r _ [32, 19, 20] (by decide +kernel) (by decide +kernel)) (goodIn_sub (fun _ h => List.mem_cons_of_mem _ (List.mem_append_left _ (List.mem_append_right _ h))) (by decide +kernel))
set_option maxRecDepth 20000 in
theorem gX1_pile_X1_requireAmount : GoodIn wsX1_pile (va_wsS RX1 70 yX1_requireAmount wsX1_requireAmount) := goodIn_app (goodIn_of _ (by decide +kernel)) ggX1_pile_X1_requireAmount
set_option maxRecDepth 20000 in
theorem ggX1_pile_X1_requireStrength : GoodIn wsX1_pile wsX1_requireStrength := goodIn_ca (goodIn_r _ [36, 37, 38, 1, 51, 52, 53, 54, 55, 56, 57, 58, 59] (by decide +kernel) (by decide +kernel)) (goodIn_sub (fun _ h => List.mem_cons_of_mem _ (List.mem_append_right _ h)) (by decide +kernel))
set_option maxRecDepth 20000 in
theorem gX1_pile_X1_requireStrength : GoodIn wsX1_pile (wsV RX1 73 RX1 yX1_requireStrength wsX1_requireStrength) := goodIn_app (goodIn_of _ (by decide +kernel)) ggX1_pile_X1_requireStrength
set_option maxRecDepth 20000 in
theorem ggX1_pile_X1_cellAt : GoodIn wsX1_pile wsX1_cellAt := goodIn_r _ [26] (by decide +kernel) (by decide +kernel)
set_option maxRecDepth 20000 in
theorem gX1_pile_X1_cellAt : GoodIn wsX1_pile (va_wsS RX1 76 yX1_cellAt wsX1_cellAt) := goodIn_app (goodIn_of _ (by decide +kernel)) ggX1_pile_X1_cellAt
set_option maxRecDepth 20000 in
theorem ggX1_pile_X0_putSand : GoodIn wsX1_pile wsX0_putSand := goodIn_r _ [43, 44, 45, 5, 6, 7, 46, 47, 48, 42, 49, 50, 60, 61, 62, 63, 64, 65, 66, 67, 68] (by decide +kernel) (by decide +kernel)
set_option maxRecDepth 20000 in
theorem gX1_pile_X0_putSand : GoodIn wsX1_pile (wsV RX1 88 RX0 yX0_putSand wsX0_putSand) := goodIn_app (goodIn_of _ (by decide +kernel)) ggX1_pile_X0_putSand
theorem dX1_pile_0 : decode cX1_pile 0 = .ok (.aload_n 0, 1) := by decide +kernel
theorem dX1_pile_1 : decode cX1_pile 1 = .ok (.iload_n 1, 1) := by decide +kernel
theorem dX1_pile_2 : decode cX1_pile 2 = .ok (.invokevirtual 63, 3) := by decide +kernel
theorem dX1_pile_5 : decode cX1_pile 5 = .ok (.iload_n 1, 1) := by decide +kernel
theorem dX1_pile_6 : decode cX1_pile 6 = .ok (.iload_n 2, 1) := by decide +kernel
theorem dX1_pile_7 : decode cX1_pile 7 = .ok (.iload_n 3, 1) := by decide +kernel
theorem dX1_pile_8 : decode cX1_pile 8 = .ok (.invokestatic 66, 3) := by decide +kernel
theorem dX1_pile_11 : decode cX1_pile 11 = .ok (.iload 4, 2) := by decide +kernel
theorem dX1_pile_13 : decode cX1_pile 13 = .ok (.invokestatic 70, 3) := by decide +kernel
theorem dX1_pile_16 : decode cX1_pile 16 = .ok (.aload_n 0, 1) := by decide +kernel
theorem dX1_pile_17 : decode cX1_pile 17 = .ok (.iload_n 1, 1) := by decide +kernel
theorem dX1_pile_18 : decode cX1_pile 18 = .ok (.invokevirtual 73, 3) := by decide +kernel
theorem dX1_pile_21 : decode cX1_pile 21 = .ok (.aload_n 0, 1) := by decide +kernel
theorem dX1_pile_22 : decode cX1_pile 22 = .ok (.getfield 34, 3) := by decide +kernel
theorem dX1_pile_25 : decode cX1_pile 25 = .ok (.iload_n 1, 1) := by decide +kernel
theorem dX1_pile_26 : decode cX1_pile 26 = .ok (.dup2, 1) := by decide +kernel
theorem dX1_pile_27 : decode cX1_pile 27 = .ok (.iaload, 1) := by decide +kernel
theorem dX1_pile_28 : decode cX1_pile 28 = .ok (.iconst 1, 1) := by decide +kernel
theorem dX1_pile_29 : decode cX1_pile 29 = .ok (.isub, 1) := by decide +kernel
theorem dX1_pile_30 : decode cX1_pile 30 = .ok (.iastore, 1) := by decide +kernel
theorem dX1_pile_31 : decode cX1_pile 31 = .ok (.aload_n 0, 1) := by decide +kernel
theorem dX1_pile_32 : decode cX1_pile 32 = .ok (.getfield 10, 3) := by decide +kernel
theorem dX1_pile_35 : decode cX1_pile 35 = .ok (.iload_n 2, 1) := by decide +kernel
theorem dX1_pile_36 : decode cX1_pile 36 = .ok (.iload_n 3, 1) := by decide +kernel
theorem dX1_pile_37 : decode cX1_pile 37 = .ok (.invokestatic 76, 3) := by decide +kernel
theorem dX1_pile_40 : decode cX1_pile 40 = .ok (.iload 4, 2) := by decide +kernel
theorem dX1_pile_42 : decode cX1_pile 42 = .ok (.aload_n 0, 1) := by decide +kernel
theorem dX1_pile_43 : decode cX1_pile 43 = .ok (.getfield 31, 3) := by decide +kernel
theorem dX1_pile_46 : decode cX1_pile 46 = .ok (.iload_n 1, 1) := by decide +kernel
theorem dX1_pile_47 : decode cX1_pile 47 = .ok (.iaload, 1) := by decide +kernel
theorem dX1_pile_48 : decode cX1_pile 48 = .ok (.invokestatic 80, 3) := by decide +kernel
theorem dX1_pile_51 : decode cX1_pile 51 = .ok (.invokevirtual 88, 3) := by decide +kernel
theorem dX1_pile_54 : decode cX1_pile 54 = .ok (.istore 5, 2) := by decide +kernel
theorem dX1_pile_56 : decode cX1_pile 56 = .ok (.aload_n 0, 1) := by decide +kernel
theorem dX1_pile_57 : decode cX1_pile 57 = .ok (.getfield 31, 3) := by decide +kernel
theorem dX1_pile_60 : decode cX1_pile 60 = .ok (.iload_n 1, 1) := by decide +kernel
theorem dX1_pile_61 : decode cX1_pile 61 = .ok (.dup2, 1) := by decide +kernel
theorem dX1_pile_62 : decode cX1_pile 62 = .ok (.iaload, 1) := by decide +kernel
theorem dX1_pile_63 : decode cX1_pile 63 = .ok (.iload 5, 2) := by decide +kernel
theorem dX1_pile_65 : decode cX1_pile 65 = .ok (.isub, 1) := by decide +kernel
theorem dX1_pile_66 : decode cX1_pile 66 = .ok (.iastore, 1) := by decide +kernel
theorem dX1_pile_67 : decode cX1_pile 67 = .ok (.iload 5, 2) := by decide +kernel
theorem dX1_pile_69 : decode cX1_pile 69 = .ok (.ireturn, 1) := by decide +kernel
set_option maxRecDepth 20000 in
theorem ggX1_pack_X1_requireTeam : GoodIn wsX1_pack wsX1_requireTeam := goodIn_ca (goodIn_r _ [7, 8, 9, 10, 43, 44, 45, 46, 47, 48, 49, 50, 51] (by decide +kernel) (by decide +kernel)) (goodIn_sub (fun _ h => List.mem_cons_of_mem _ (List.mem_append_left _ (List.mem_append_left _ (List.mem_append_right _ h)))) (by decide +kernel))
set_option maxRecDepth 20000 in
theorem gX1_pack_X1_requireTeam : GoodIn wsX1_pack (wsV RX1 63 RX1 yX1_requireTeam wsX1_requireTeam) := goodIn_app (goodIn_of _ (by decide +kernel)) ggX1_pack_X1_requireTeam
set_option maxRecDepth 20000 in
theorem ggX1_pack_X1_requireArea : GoodIn wsX1_pack wsX1_requireArea := goodIn_ca (goodIn_r _ [13, 14, 15, 16, 17, 6, 18, 19, 20, 21, 22, 23, 24] (by decide +kernel) (by decide +kernel)) (goodIn_sub (fun _ h => List.mem_cons_of_mem _ (List.mem_append_left _ (List.mem_append_right _ h))) (by decide +kernel))
set_option maxRecDepth 20000 in
theorem gX1_pack_X1_requireArea : GoodIn wsX1_pack (va_wsS RX1 66 yX1_requireArea wsX1_requireArea) := goodIn_app (goodIn_of _ (by decide +kernel)) ggX1_pack_X1_requireArea
set_option maxRecDepth 20000 in
theorem ggX1_pack_X1_requireStrength : GoodIn wsX1_pack wsX1_requireStrength := goodIn_ca (goodIn_r _ [28, 29, 30, 1, 43, 44, 45, 46, 47, 48, 49, 50, 51] (by decide +kernel) (by decide +kernel)) (goodIn_sub (fun _ h => List.mem_cons_of_mem _ (List.mem_append_right _ h)) (by decide +kernel))
set_option maxRecDepth 20000 in
theorem gX1_pack_X1_requireStrength : GoodIn wsX1_pack (wsV RX1 73 RX1 yX1_requireStrength wsX1_requireStrength) := goodIn_app (goodIn_of _ (by decide +kernel)) ggX1_pack_X1_requireStrength
set_option maxRecDepth 20000 in
theorem ggX1_pack_X1_cellAt : GoodIn wsX1_pack wsX1_cellAt := goodIn_r _ [21] (by decide +kernel) (by decide +kernel)
set_option maxRecDepth 20000 in
theorem gX1_pack_X1_cellAt : GoodIn wsX1_pack (va_wsS RX1 76 yX1_cellAt wsX1_cellAt) := goodIn_app (goodIn_of _ (by decide +kernel)) ggX1_pack_X1_cellAt
set_option maxRecDepth 20000 in
theorem ggX1_pack_X0_harden : GoodIn wsX1_pack wsX0_harden := goodIn_r _ [35, 36, 37, 38, 39, 40, 34, 41, 42, 52, 53, 54, 55, 56, 57, 58, 59, 60] (by decide +kernel) (by decide +kernel)
set_option maxRecDepth 20000 in
theorem gX1_pack_X0_harden : GoodIn wsX1_pack (wsV RX1 91 RX0 yX0_harden wsX0_harden) := goodIn_app (goodIn_of _ (by decide +kernel)) ggX1_pack_X0_harden
theorem dX1_pack_0 : decode cX1_pack 0 = .ok (.aload_n 0, 1) := by decide +kernel
theorem dX1_pack_1 : decode cX1_pack 1 = .ok (.iload_n 1, 1) := by decide +kernel
theorem dX1_pack_2 : decode cX1_pack 2 = .ok (.invokevirtual 63, 3) := by decide +kernel
theorem dX1_pack_5 : decode cX1_pack 5 = .ok (.iload_n 1, 1) := by decide +kernel
theorem dX1_pack_6 : decode cX1_pack 6 = .ok (.iload_n 2, 1) := by decide +kernel
theorem dX1_pack_7 : decode cX1_pack 7 = .ok (.iload_n 3, 1) := by decide +kernel
theorem dX1_pack_8 : decode cX1_pack 8 = .ok (.invokestatic 66, 3) := by decide +kernel
theorem dX1_pack_11 : decode cX1_pack 11 = .ok (.aload_n 0, 1) := by decide +kernel
theorem dX1_pack_12 : decode cX1_pack 12 = .ok (.iload_n 1, 1) := by decide +kernel
theorem dX1_pack_13 : decode cX1_pack 13 = .ok (.invokevirtual 73, 3) := by decide +kernel
theorem dX1_pack_16 : decode cX1_pack 16 = .ok (.aload_n 0, 1) := by decide +kernel
theorem dX1_pack_17 : decode cX1_pack 17 = .ok (.getfield 34, 3) := by decide +kernel
theorem dX1_pack_20 : decode cX1_pack 20 = .ok (.iload_n 1, 1) := by decide +kernel
theorem dX1_pack_21 : decode cX1_pack 21 = .ok (.dup2, 1) := by decide +kernel
theorem dX1_pack_22 : decode cX1_pack 22 = .ok (.iaload, 1) := by decide +kernel
theorem dX1_pack_23 : decode cX1_pack 23 = .ok (.iconst 1, 1) := by decide +kernel
theorem dX1_pack_24 : decode cX1_pack 24 = .ok (.isub, 1) := by decide +kernel
theorem dX1_pack_25 : decode cX1_pack 25 = .ok (.iastore, 1) := by decide +kernel
theorem dX1_pack_26 : decode cX1_pack 26 = .ok (.aload_n 0, 1) := by decide +kernel
theorem dX1_pack_27 : decode cX1_pack 27 = .ok (.getfield 10, 3) := by decide +kernel
theorem dX1_pack_30 : decode cX1_pack 30 = .ok (.iload_n 2, 1) := by decide +kernel
theorem dX1_pack_31 : decode cX1_pack 31 = .ok (.iload_n 3, 1) := by decide +kernel
theorem dX1_pack_32 : decode cX1_pack 32 = .ok (.invokestatic 76, 3) := by decide +kernel
theorem dX1_pack_35 : decode cX1_pack 35 = .ok (.invokevirtual 91, 3) := by decide +kernel
theorem dX1_pack_38 : decode cX1_pack 38 = .ok (.ireturn, 1) := by decide +kernel
set_option maxRecDepth 20000 in
theorem ggX1_plant_X1_requireTeam : GoodIn wsX1_plant wsX1_requireTeam := goodIn_ca (goodIn_r _ [9, 10, 11, 12, 60, 61, 62, 63, 64, 65, 66, 67, 68] (by decide +kernel) (by decide +kernel)) (goodIn_sub (fun _ h => List.mem_cons_of_mem _ (List.mem_append_left _ (List.mem_append_right _ h))) (by decide +kernel))
set_option maxRecDepth 20000 in
theorem gX1_plant_X1_requireTeam : GoodIn wsX1_plant (wsV RX1 63 RX1 yX1_requireTeam wsX1_requireTeam) := goodIn_app (goodIn_of _ (by decide +kernel)) ggX1_plant_X1_requireTeam
set_option maxRecDepth 20000 in
theorem ggX1_plant_X1_requireArea : GoodIn wsX1_plant wsX1_requireArea := goodIn_ca (goodIn_r _ [15, 16, 17, 18, 19, 8, 20, 21, 22, 23, 24, 25, 26] (by decide +kernel) (by decide +kernel)) (goodIn_sub (fun _ h => List.mem_cons_of_mem _ (List.mem_append_right _ h)) (by decide +kernel))
set_option maxRecDepth 20000 in
theorem gX1_plant_X1_requireArea : GoodIn wsX1_plant (va_wsS RX1 66 yX1_requireArea wsX1_requireArea) := goodIn_app (goodIn_of _ (by decide +kernel)) ggX1_plant_X1_requireArea
set_option maxRecDepth 20000 in
theorem ggX1_plant_X1_requireStrength : GoodIn wsX1_plant wsX1_requireStrength := goodIn_ca (goodIn_r _ [30, 1, 2, 4, 60, 61, 62, 63, 64, 65, 66, 67, 68] (by decide +kernel) (by decide +kernel)) (goodIn_sub (fun _ h => List.mem_cons_of_mem _ (List.mem_append_left _ (List.mem_append_left _ (List.mem_append_right _ h)))) (by decide +kernel))
set_option maxRecDepth 20000 in
theorem gX1_plant_X1_requireStrength : GoodIn wsX1_plant (wsV RX1 73 RX1 yX1_requireStrength wsX1_requireStrength) := goodIn_app (goodIn_of _ (by decide +kernel)) ggX1_plant_X1_requireStrength
set_option maxRecDepth 20000 in
theorem ggX1_plant_X0_sticksOf : GoodIn wsX1_plant wsX0_sticksOf := goodIn_r _ [35, 36, 69, 70, 71, 72, 73, 74, 75, 76, 77] (by decide +kernel) (by decide +kernel)
set_option maxRecDepth 20000 in
theorem gX1_plant_X0_sticksOf : GoodIn wsX1_plant (wsV RX1 95 RX0 yX0_sticksOf wsX0_sticksOf) := goodIn_app (goodIn_of _ (by decide +kernel)) ggX1_plant_X0_sticksOf
set_option maxRecDepth 20000 in
theorem ggX1_plant_X1_cellAt : GoodIn wsX1_plant wsX1_cellAt := goodIn_r _ [23] (by decide +kernel) (by decide +kernel)
set_option maxRecDepth 20000 in
theorem gX1_plant_X1_cellAt : GoodIn wsX1_plant (va_wsS RX1 76 yX1_cellAt wsX1_cellAt) := goodIn_app (goodIn_of _ (by decide +kernel)) ggX1_plant_X1_cellAt
set_option maxRecDepth 20000 in
theorem ggX1_plant_X0_isFree : GoodIn wsX1_plant wsX0_isFree := goodIn_r _ [40, 41, 42, 43, 34, 44, 36, 45, 46, 47, 48, 49, 69, 70, 71, 72, 73, 74, 75, 76, 77] (by decide +kernel) (by decide +kernel)
set_option maxRecDepth 20000 in
theorem gX1_plant_X0_isFree : GoodIn wsX1_plant (wsV RX1 100 RX0 yX0_isFree wsX0_isFree) := goodIn_app (goodIn_of _ (by decide +kernel)) ggX1_plant_X0_isFree
set_option maxRecDepth 20000 in
theorem ggX1_plant_X0_putStick : GoodIn wsX1_plant wsX0_putStick := goodIn_r _ [53, 36, 54, 55, 56, 57, 34, 58, 59, 69, 70, 71, 72, 73, 74, 75, 76, 77] (by decide +kernel) (by decide +kernel)
set_option maxRecDepth 20000 in
theorem gX1_plant_X0_putStick : GoodIn wsX1_plant (wsV RX1 106 RX0 yX0_putStick wsX0_putStick) := goodIn_app (goodIn_of _ (by decide +kernel)) ggX1_plant_X0_putStick
theorem dX1_plant_0 : decode cX1_plant 0 = .ok (.aload_n 0, 1) := by decide +kernel
theorem dX1_plant_1 : decode cX1_plant 1 = .ok (.iload_n 1, 1) := by decide +kernel
theorem dX1_plant_2 : decode cX1_plant 2 = .ok (.invokevirtual 63, 3) := by decide +kernel
theorem dX1_plant_5 : decode cX1_plant 5 = .ok (.iload_n 1, 1) := by decide +kernel
theorem dX1_plant_6 : decode cX1_plant 6 = .ok (.iload_n 2, 1) := by decide +kernel
theorem dX1_plant_7 : decode cX1_plant 7 = .ok (.iload_n 3, 1) := by decide +kernel
theorem dX1_plant_8 : decode cX1_plant 8 = .ok (.invokestatic 66, 3) := by decide +kernel
theorem dX1_plant_11 : decode cX1_plant 11 = .ok (.aload_n 0, 1) := by decide +kernel
theorem dX1_plant_12 : decode cX1_plant 12 = .ok (.iload_n 1, 1) := by decide +kernel
theorem dX1_plant_13 : decode cX1_plant 13 = .ok (.invokevirtual 73, 3) := by decide +kernel
theorem dX1_plant_16 : decode cX1_plant 16 = .ok (.aload_n 0, 1) := by decide +kernel
theorem dX1_plant_17 : decode cX1_plant 17 = .ok (.getfield 10, 3) := by decide +kernel
theorem dX1_plant_20 : decode cX1_plant 20 = .ok (.iload_n 1, 1) := by decide +kernel
theorem dX1_plant_21 : decode cX1_plant 21 = .ok (.invokevirtual 95, 3) := by decide +kernel
theorem dX1_plant_24 : decode cX1_plant 24 = .ok (.iconst 3, 1) := by decide +kernel
theorem dX1_plant_25 : decode cX1_plant 25 = .ok (.if_icmp .lt 13, 3) := by decide +kernel
theorem dX1_plant_28 : decode cX1_plant 28 = .ok (.new 47, 3) := by decide +kernel
theorem dX1_plant_31 : decode cX1_plant 31 = .ok (.dup, 1) := by decide +kernel
theorem dX1_plant_32 : decode cX1_plant 32 = .ok (.ldc 98, 2) := by decide +kernel
theorem dX1_plant_34 : decode cX1_plant 34 = .ok (.invokespecial 51, 3) := by decide +kernel
theorem dX1_plant_37 : decode cX1_plant 37 = .ok (.athrow, 1) := by decide +kernel
theorem dX1_plant_38 : decode cX1_plant 38 = .ok (.aload_n 0, 1) := by decide +kernel
theorem dX1_plant_39 : decode cX1_plant 39 = .ok (.getfield 10, 3) := by decide +kernel
theorem dX1_plant_42 : decode cX1_plant 42 = .ok (.iload_n 2, 1) := by decide +kernel
theorem dX1_plant_43 : decode cX1_plant 43 = .ok (.iload_n 3, 1) := by decide +kernel
theorem dX1_plant_44 : decode cX1_plant 44 = .ok (.invokestatic 76, 3) := by decide +kernel
theorem dX1_plant_47 : decode cX1_plant 47 = .ok (.invokevirtual 100, 3) := by decide +kernel
theorem dX1_plant_50 : decode cX1_plant 50 = .ok (.ifCond .ne 13, 3) := by decide +kernel
theorem dX1_plant_53 : decode cX1_plant 53 = .ok (.new 47, 3) := by decide +kernel
theorem dX1_plant_56 : decode cX1_plant 56 = .ok (.dup, 1) := by decide +kernel
theorem dX1_plant_57 : decode cX1_plant 57 = .ok (.ldc 104, 2) := by decide +kernel
theorem dX1_plant_59 : decode cX1_plant 59 = .ok (.invokespecial 51, 3) := by decide +kernel
theorem dX1_plant_62 : decode cX1_plant 62 = .ok (.athrow, 1) := by decide +kernel
theorem dX1_plant_63 : decode cX1_plant 63 = .ok (.aload_n 0, 1) := by decide +kernel
theorem dX1_plant_64 : decode cX1_plant 64 = .ok (.getfield 34, 3) := by decide +kernel
theorem dX1_plant_67 : decode cX1_plant 67 = .ok (.iload_n 1, 1) := by decide +kernel
theorem dX1_plant_68 : decode cX1_plant 68 = .ok (.dup2, 1) := by decide +kernel
theorem dX1_plant_69 : decode cX1_plant 69 = .ok (.iaload, 1) := by decide +kernel
theorem dX1_plant_70 : decode cX1_plant 70 = .ok (.iconst 1, 1) := by decide +kernel
theorem dX1_plant_71 : decode cX1_plant 71 = .ok (.isub, 1) := by decide +kernel
theorem dX1_plant_72 : decode cX1_plant 72 = .ok (.iastore, 1) := by decide +kernel
theorem dX1_plant_73 : decode cX1_plant 73 = .ok (.aload_n 0, 1) := by decide +kernel
theorem dX1_plant_74 : decode cX1_plant 74 = .ok (.getfield 10, 3) := by decide +kernel
theorem dX1_plant_77 : decode cX1_plant 77 = .ok (.iload_n 2, 1) := by decide +kernel
theorem dX1_plant_78 : decode cX1_plant 78 = .ok (.iload_n 3, 1) := by decide +kernel
theorem dX1_plant_79 : decode cX1_plant 79 = .ok (.invokestatic 76, 3) := by decide +kernel
theorem dX1_plant_82 : decode cX1_plant 82 = .ok (.iload_n 1, 1) := by decide +kernel
theorem dX1_plant_83 : decode cX1_plant 83 = .ok (.invokevirtual 106, 3) := by decide +kernel
theorem dX1_plant_86 : decode cX1_plant 86 = .ok (.aload_n 0, 1) := by decide +kernel
theorem dX1_plant_87 : decode cX1_plant 87 = .ok (.getfield 10, 3) := by decide +kernel
theorem dX1_plant_90 : decode cX1_plant 90 = .ok (.iload_n 1, 1) := by decide +kernel
theorem dX1_plant_91 : decode cX1_plant 91 = .ok (.invokevirtual 95, 3) := by decide +kernel
theorem dX1_plant_94 : decode cX1_plant 94 = .ok (.ireturn, 1) := by decide +kernel
set_option maxRecDepth 20000 in
theorem ggX1_cell_X1_requireCell : GoodIn wsX1_cell wsX1_requireCell := goodIn_ca (goodIn_r _ [5, 6, 7, 8, 9, 4, 10] (by decide +kernel) (by decide +kernel)) (goodIn_sub (fun _ h => List.mem_cons_of_mem _ (List.mem_append_right _ h)) (by decide +kernel))
set_option maxRecDepth 20000 in
theorem gX1_cell_X1_requireCell : GoodIn wsX1_cell (va_wsS RX1 110 yX1_requireCell wsX1_requireCell) := goodIn_app (goodIn_of _ (by decide +kernel)) ggX1_cell_X1_requireCell
set_option maxRecDepth 20000 in
theorem ggX1_cell_X1_requireWhat : GoodIn wsX1_cell wsX1_requireWhat := goodIn_ca (goodIn_r _ [13, 6, 7] (by decide +kernel) (by decide +kernel)) (goodIn_sub (fun _ h => List.mem_cons_of_mem _ (List.mem_append_right _ h)) (by decide +kernel))
set_option maxRecDepth 20000 in
theorem gX1_cell_X1_requireWhat : GoodIn wsX1_cell (va_wsS RX1 113 yX1_requireWhat wsX1_requireWhat) := goodIn_app (goodIn_of _ (by decide +kernel)) ggX1_cell_X1_requireWhat
set_option maxRecDepth 20000 in
theorem ggX1_cell_X1_cellAt : GoodIn wsX1_cell wsX1_cellAt := goodIn_r _ [16] (by decide +kernel) (by decide +kernel)
set_option maxRecDepth 20000 in
theorem gX1_cell_X1_cellAt : GoodIn wsX1_cell (va_wsS RX1 76 yX1_cellAt wsX1_cellAt) := goodIn_app (goodIn_of _ (by decide +kernel)) ggX1_cell_X1_cellAt
set_option maxRecDepth 20000 in
theorem ggX1_cell_X0_tellCell : GoodIn wsX1_cell wsX0_tellCell := goodIn_r _ [21, 22, 23, 24, 25, 26, 27, 28, 20, 29, 30, 31, 32, 33, 34, 44, 45, 46, 47, 48, 49, 50, 51, 52] (by decide +kernel) (by decide +kernel)
set_option maxRecDepth 20000 in
theorem gX1_cell_X0_tellCell : GoodIn wsX1_cell (wsV RX1 116 RX0 yX0_tellCell wsX0_tellCell) := goodIn_app (goodIn_of _ (by decide +kernel)) ggX1_cell_X0_tellCell
theorem dX1_cell_0 : decode cX1_cell 0 = .ok (.iload_n 1, 1) := by decide +kernel
theorem dX1_cell_1 : decode cX1_cell 1 = .ok (.iload_n 2, 1) := by decide +kernel
theorem dX1_cell_2 : decode cX1_cell 2 = .ok (.invokestatic 110, 3) := by decide +kernel
theorem dX1_cell_5 : decode cX1_cell 5 = .ok (.iload_n 3, 1) := by decide +kernel
theorem dX1_cell_6 : decode cX1_cell 6 = .ok (.bipush 6, 2) := by decide +kernel
theorem dX1_cell_8 : decode cX1_cell 8 = .ok (.invokestatic 113, 3) := by decide +kernel
theorem dX1_cell_11 : decode cX1_cell 11 = .ok (.aload_n 0, 1) := by decide +kernel
theorem dX1_cell_12 : decode cX1_cell 12 = .ok (.getfield 10, 3) := by decide +kernel
theorem dX1_cell_15 : decode cX1_cell 15 = .ok (.iload_n 1, 1) := by decide +kernel
theorem dX1_cell_16 : decode cX1_cell 16 = .ok (.iload_n 2, 1) := by decide +kernel
theorem dX1_cell_17 : decode cX1_cell 17 = .ok (.invokestatic 76, 3) := by decide +kernel
theorem dX1_cell_20 : decode cX1_cell 20 = .ok (.iload_n 3, 1) := by decide +kernel
theorem dX1_cell_21 : decode cX1_cell 21 = .ok (.invokevirtual 116, 3) := by decide +kernel
theorem dX1_cell_24 : decode cX1_cell 24 = .ok (.ireturn, 1) := by decide +kernel
set_option maxRecDepth 20000 in
theorem ggX1_team_X1_requireTeam : GoodIn wsX1_team wsX1_requireTeam := goodIn_ca (goodIn_r _ [9, 10, 11, 12, 54, 55, 56, 57, 58, 59, 60, 61, 62] (by decide +kernel) (by decide +kernel)) (goodIn_sub (fun _ h => List.mem_cons_of_mem _ (List.mem_append_right _ h)) (by decide +kernel))
set_option maxRecDepth 20000 in
theorem gX1_team_X1_requireTeam : GoodIn wsX1_team (wsV RX1 63 RX1 yX1_requireTeam wsX1_requireTeam) := goodIn_app (goodIn_of _ (by decide +kernel)) ggX1_team_X1_requireTeam
set_option maxRecDepth 20000 in
theorem ggX1_team_X1_requireWhat : GoodIn wsX1_team wsX1_requireWhat := goodIn_ca (goodIn_r _ [15, 10, 11] (by decide +kernel) (by decide +kernel)) (goodIn_sub (fun _ h => List.mem_cons_of_mem _ (List.mem_append_right _ h)) (by decide +kernel))
set_option maxRecDepth 20000 in
theorem gX1_team_X1_requireWhat : GoodIn wsX1_team (va_wsS RX1 113 yX1_requireWhat wsX1_requireWhat) := goodIn_app (goodIn_of _ (by decide +kernel)) ggX1_team_X1_requireWhat
set_option maxRecDepth 20000 in
theorem ggX1_team_X0_pointsOf : GoodIn wsX1_team wsX0_pointsOf := goodIn_r _ [20, 21, 63, 64, 65, 66, 67, 68, 69, 70, 71] (by decide +kernel) (by decide +kernel)
set_option maxRecDepth 20000 in
theorem gX1_team_X0_pointsOf : GoodIn wsX1_team (wsV RX1 119 RX0 yX0_pointsOf wsX0_pointsOf) := goodIn_app (goodIn_of _ (by decide +kernel)) ggX1_team_X0_pointsOf
set_option maxRecDepth 20000 in
theorem ggX1_team_X0_sticksOf : GoodIn wsX1_team wsX0_sticksOf := goodIn_r _ [25, 26, 63, 64, 65, 66, 67, 68, 69, 70, 71] (by decide +kernel) (by decide +kernel)
set_option maxRecDepth 20000 in
theorem gX1_team_X0_sticksOf : GoodIn wsX1_team (wsV RX1 95 RX0 yX0_sticksOf wsX0_sticksOf) := goodIn_app (goodIn_of _ (by decide +kernel)) ggX1_team_X0_sticksOf
set_option maxRecDepth 20000 in
theorem ggX1_team_X0_sandOfArea : GoodIn wsX1_team wsX0_sandOfArea := goodIn_r _ [30, 31, 32, 33, 19, 34, 35, 8, 36, 63, 64, 65, 66, 67, 68, 69, 70, 71] (by decide +kernel) (by decide +kernel)
set_option maxRecDepth 20000 in
theorem gX1_team_X0_sandOfArea : GoodIn wsX1_team (wsV RX1 122 RX0 yX0_sandOfArea wsX0_sandOfArea) := goodIn_app (goodIn_of _ (by decide +kernel)) ggX1_team_X0_sandOfArea
set_option maxRecDepth 20000 in
theorem ggX1_team_X0_greatestHeightOfArea : GoodIn wsX1_team wsX0_greatestHeightOfArea := goodIn_r _ [40, 41, 42, 43, 44, 35, 8, 36, 45, 46, 47, 19, 48, 31, 63, 64, 65, 66, 67, 68, 69, 70, 71] (by decide +kernel) (by decide +kernel)
set_option maxRecDepth 20000 in
theorem gX1_team_X0_greatestHeightOfArea : GoodIn wsX1_team (wsV RX1 125 RX0 yX0_greatestHeightOfArea wsX0_greatestHeightOfArea) := goodIn_app (goodIn_of _ (by decide +kernel)) ggX1_team_X0_greatestHeightOfArea
set_option maxRecDepth 20000 in
theorem ggX1_team_X0_waterOfArea : GoodIn wsX1_team wsX0_waterOfArea := goodIn_r _ [52, 53, 32, 33, 19, 34, 35, 8, 36, 63, 64, 65, 66, 67, 68, 69, 70, 71] (by decide +kernel) (by decide +kernel)
set_option maxRecDepth 20000 in
theorem gX1_team_X0_waterOfArea : GoodIn wsX1_team (wsV RX1 128 RX0 yX0_waterOfArea wsX0_waterOfArea) := goodIn_app (goodIn_of _ (by decide +kernel)) ggX1_team_X0_waterOfArea
theorem dX1_team_0 : decode cX1_team 0 = .ok (.aload_n 0, 1) := by decide +kernel
theorem dX1_team_1 : decode cX1_team 1 = .ok (.iload_n 1, 1) := by decide +kernel
theorem dX1_team_2 : decode cX1_team 2 = .ok (.invokevirtual 63, 3) := by decide +kernel
theorem dX1_team_5 : decode cX1_team 5 = .ok (.iload_n 2, 1) := by decide +kernel
theorem dX1_team_6 : decode cX1_team 6 = .ok (.bipush 8, 2) := by decide +kernel
theorem dX1_team_8 : decode cX1_team 8 = .ok (.invokestatic 113, 3) := by decide +kernel
theorem dX1_team_11 : decode cX1_team 11 = .ok (.iload_n 2, 1) := by decide +kernel
theorem dX1_team_12 : decode cX1_team 12 = .ok (.tableswitch 103 0 6 #[44, 51, 58, 67, 76, 85, 94], 44) := by decide +kernel
theorem dX1_team_56 : decode cX1_team 56 = .ok (.aload_n 0, 1) := by decide +kernel
theorem dX1_team_57 : decode cX1_team 57 = .ok (.getfield 31, 3) := by decide +kernel
theorem dX1_team_60 : decode cX1_team 60 = .ok (.iload_n 1, 1) := by decide +kernel
theorem dX1_team_61 : decode cX1_team 61 = .ok (.iaload, 1) := by decide +kernel
theorem dX1_team_62 : decode cX1_team 62 = .ok (.ireturn, 1) := by decide +kernel
theorem dX1_team_63 : decode cX1_team 63 = .ok (.aload_n 0, 1) := by decide +kernel
theorem dX1_team_64 : decode cX1_team 64 = .ok (.getfield 34, 3) := by decide +kernel
theorem dX1_team_67 : decode cX1_team 67 = .ok (.iload_n 1, 1) := by decide +kernel
theorem dX1_team_68 : decode cX1_team 68 = .ok (.iaload, 1) := by decide +kernel
theorem dX1_team_69 : decode cX1_team 69 = .ok (.ireturn, 1) := by decide +kernel
theorem dX1_team_70 : decode cX1_team 70 = .ok (.aload_n 0, 1) := by decide +kernel
theorem dX1_team_71 : decode cX1_team 71 = .ok (.getfield 10, 3) := by decide +kernel
theorem dX1_team_74 : decode cX1_team 74 = .ok (.iload_n 1, 1) := by decide +kernel
theorem dX1_team_75 : decode cX1_team 75 = .ok (.invokevirtual 119, 3) := by decide +kernel
theorem dX1_team_78 : decode cX1_team 78 = .ok (.ireturn, 1) := by decide +kernel
theorem dX1_team_79 : decode cX1_team 79 = .ok (.aload_n 0, 1) := by decide +kernel
theorem dX1_team_80 : decode cX1_team 80 = .ok (.getfield 10, 3) := by decide +kernel
theorem dX1_team_83 : decode cX1_team 83 = .ok (.iload_n 1, 1) := by decide +kernel
theorem dX1_team_84 : decode cX1_team 84 = .ok (.invokevirtual 95, 3) := by decide +kernel
theorem dX1_team_87 : decode cX1_team 87 = .ok (.ireturn, 1) := by decide +kernel
theorem dX1_team_88 : decode cX1_team 88 = .ok (.aload_n 0, 1) := by decide +kernel
theorem dX1_team_89 : decode cX1_team 89 = .ok (.getfield 10, 3) := by decide +kernel
theorem dX1_team_92 : decode cX1_team 92 = .ok (.iload_n 1, 1) := by decide +kernel
theorem dX1_team_93 : decode cX1_team 93 = .ok (.invokevirtual 122, 3) := by decide +kernel
theorem dX1_team_96 : decode cX1_team 96 = .ok (.ireturn, 1) := by decide +kernel
theorem dX1_team_97 : decode cX1_team 97 = .ok (.aload_n 0, 1) := by decide +kernel
theorem dX1_team_98 : decode cX1_team 98 = .ok (.getfield 10, 3) := by decide +kernel
theorem dX1_team_101 : decode cX1_team 101 = .ok (.iload_n 1, 1) := by decide +kernel
theorem dX1_team_102 : decode cX1_team 102 = .ok (.invokevirtual 125, 3) := by decide +kernel
theorem dX1_team_105 : decode cX1_team 105 = .ok (.ireturn, 1) := by decide +kernel
theorem dX1_team_106 : decode cX1_team 106 = .ok (.aload_n 0, 1) := by decide +kernel
theorem dX1_team_107 : decode cX1_team 107 = .ok (.getfield 10, 3) := by decide +kernel
theorem dX1_team_110 : decode cX1_team 110 = .ok (.iload_n 1, 1) := by decide +kernel
theorem dX1_team_111 : decode cX1_team 111 = .ok (.invokevirtual 128, 3) := by decide +kernel
theorem dX1_team_114 : decode cX1_team 114 = .ok (.ireturn, 1) := by decide +kernel
theorem dX1_team_115 : decode cX1_team 115 = .ok (.aload_n 0, 1) := by decide +kernel
theorem dX1_team_116 : decode cX1_team 116 = .ok (.getfield 37, 3) := by decide +kernel
theorem dX1_team_119 : decode cX1_team 119 = .ok (.iload_n 1, 1) := by decide +kernel
theorem dX1_team_120 : decode cX1_team 120 = .ok (.iaload, 1) := by decide +kernel
theorem dX1_team_121 : decode cX1_team 121 = .ok (.ireturn, 1) := by decide +kernel
set_option maxRecDepth 20000 in
theorem ggX1_count_X1_requireWhat : GoodIn wsX1_count wsX1_requireWhat := goodIn_ca (goodIn_r _ [8, 9, 10] (by decide +kernel) (by decide +kernel)) (goodIn_sub (fun _ h => List.mem_cons_of_mem _ (List.mem_append_right _ h)) (by decide +kernel))
set_option maxRecDepth 20000 in
theorem gX1_count_X1_requireWhat : GoodIn wsX1_count (va_wsS RX1 113 yX1_requireWhat wsX1_requireWhat) := goodIn_app (goodIn_of _ (by decide +kernel)) ggX1_count_X1_requireWhat
set_option maxRecDepth 20000 in
theorem ggX1_count_X0_allWater : GoodIn wsX1_count wsX0_allWater := goodIn_r _ [15, 16, 17, 18, 14, 19, 43, 44, 45, 46, 47, 48, 49, 50, 51] (by decide +kernel) (by decide +kernel)
set_option maxRecDepth 20000 in
theorem gX1_count_X0_allWater : GoodIn wsX1_count (wsV RX1 134 RX0 yX0_allWater wsX0_allWater) := goodIn_app (goodIn_of _ (by decide +kernel)) ggX1_count_X0_allWater
set_option maxRecDepth 20000 in
theorem ggX1_count_X0_allSand : GoodIn wsX1_count wsX0_allSand := goodIn_r _ [23, 24, 17, 18, 14, 19, 43, 44, 45, 46, 47, 48, 49, 50, 51] (by decide +kernel) (by decide +kernel)
set_option maxRecDepth 20000 in
theorem gX1_count_X0_allSand : GoodIn wsX1_count (wsV RX1 138 RX0 yX0_allSand wsX0_allSand) := goodIn_app (goodIn_of _ (by decide +kernel)) ggX1_count_X0_allSand
set_option maxRecDepth 20000 in
theorem ggX1_count_X0_allSticks : GoodIn wsX1_count wsX0_allSticks := goodIn_r _ [28, 29, 30, 31, 14, 32, 33, 43, 44, 45, 46, 47, 48, 49, 50, 51] (by decide +kernel) (by decide +kernel)
set_option maxRecDepth 20000 in
theorem gX1_count_X0_allSticks : GoodIn wsX1_count (wsV RX1 147 RX0 yX0_allSticks wsX0_allSticks) := goodIn_app (goodIn_of _ (by decide +kernel)) ggX1_count_X0_allSticks
theorem dX1_count_0 : decode cX1_count 0 = .ok (.iload_n 1, 1) := by decide +kernel
theorem dX1_count_1 : decode cX1_count 1 = .ok (.bipush 9, 2) := by decide +kernel
theorem dX1_count_3 : decode cX1_count 3 = .ok (.invokestatic 113, 3) := by decide +kernel
theorem dX1_count_6 : decode cX1_count 6 = .ok (.iload_n 1, 1) := by decide +kernel
theorem dX1_count_7 : decode cX1_count 7 = .ok (.tableswitch 103 0 7 #[45, 50, 55, 63, 71, 79, 87, 95], 45) := by decide +kernel
theorem dX1_count_52 : decode cX1_count 52 = .ok (.aload_n 0, 1) := by decide +kernel
theorem dX1_count_53 : decode cX1_count 53 = .ok (.getfield 131, 3) := by decide +kernel
theorem dX1_count_56 : decode cX1_count 56 = .ok (.ireturn, 1) := by decide +kernel
theorem dX1_count_57 : decode cX1_count 57 = .ok (.aload_n 0, 1) := by decide +kernel
theorem dX1_count_58 : decode cX1_count 58 = .ok (.getfield 43, 3) := by decide +kernel
theorem dX1_count_61 : decode cX1_count 61 = .ok (.ireturn, 1) := by decide +kernel
theorem dX1_count_62 : decode cX1_count 62 = .ok (.aload_n 0, 1) := by decide +kernel
theorem dX1_count_63 : decode cX1_count 63 = .ok (.getfield 10, 3) := by decide +kernel
theorem dX1_count_66 : decode cX1_count 66 = .ok (.invokevirtual 134, 3) := by decide +kernel
theorem dX1_count_69 : decode cX1_count 69 = .ok (.ireturn, 1) := by decide +kernel
theorem dX1_count_70 : decode cX1_count 70 = .ok (.aload_n 0, 1) := by decide +kernel
theorem dX1_count_71 : decode cX1_count 71 = .ok (.getfield 10, 3) := by decide +kernel
theorem dX1_count_74 : decode cX1_count 74 = .ok (.invokevirtual 138, 3) := by decide +kernel
theorem dX1_count_77 : decode cX1_count 77 = .ok (.ireturn, 1) := by decide +kernel
theorem dX1_count_78 : decode cX1_count 78 = .ok (.aload_n 0, 1) := by decide +kernel
theorem dX1_count_79 : decode cX1_count 79 = .ok (.getfield 10, 3) := by decide +kernel
theorem dX1_count_82 : decode cX1_count 82 = .ok (.getfield 141, 3) := by decide +kernel
theorem dX1_count_85 : decode cX1_count 85 = .ok (.ireturn, 1) := by decide +kernel
theorem dX1_count_86 : decode cX1_count 86 = .ok (.aload_n 0, 1) := by decide +kernel
theorem dX1_count_87 : decode cX1_count 87 = .ok (.getfield 10, 3) := by decide +kernel
theorem dX1_count_90 : decode cX1_count 90 = .ok (.getfield 144, 3) := by decide +kernel
theorem dX1_count_93 : decode cX1_count 93 = .ok (.ireturn, 1) := by decide +kernel
theorem dX1_count_94 : decode cX1_count 94 = .ok (.aload_n 0, 1) := by decide +kernel
theorem dX1_count_95 : decode cX1_count 95 = .ok (.getfield 10, 3) := by decide +kernel
theorem dX1_count_98 : decode cX1_count 98 = .ok (.invokevirtual 147, 3) := by decide +kernel
theorem dX1_count_101 : decode cX1_count 101 = .ok (.ireturn, 1) := by decide +kernel
theorem dX1_count_102 : decode cX1_count 102 = .ok (.aload_n 0, 1) := by decide +kernel
theorem dX1_count_103 : decode cX1_count 103 = .ok (.getfield 10, 3) := by decide +kernel
theorem dX1_count_106 : decode cX1_count 106 = .ok (.getfield 150, 3) := by decide +kernel
theorem dX1_count_109 : decode cX1_count 109 = .ok (.ireturn, 1) := by decide +kernel
theorem dX1_count_110 : decode cX1_count 110 = .ok (.aload_n 0, 1) := by decide +kernel
theorem dX1_count_111 : decode cX1_count 111 = .ok (.getfield 153, 3) := by decide +kernel
theorem dX1_count_114 : decode cX1_count 114 = .ok (.ireturn, 1) := by decide +kernel
set_option maxRecDepth 20000 in
theorem ggX1_pass_X1_requireHours : GoodIn wsX1_pass wsX1_requireHours := goodIn_ca (goodIn_r _ [7, 8, 9] (by decide +kernel) (by decide +kernel)) (goodIn_sub (fun _ h => List.mem_cons_of_mem _ (List.mem_append_right _ h)) (by decide +kernel))
set_option maxRecDepth 20000 in
theorem gX1_pass_X1_requireHours : GoodIn wsX1_pass (va_wsS RX1 156 yX1_requireHours wsX1_requireHours) := goodIn_app (goodIn_of _ (by decide +kernel)) ggX1_pass_X1_requireHours
set_option maxRecDepth 20000 in
theorem ggX1_pass_X1_letHoursGoBy : GoodIn wsX1_pass wsX1_letHoursGoBy := goodIn_r _ [13, 14, 2, 15, 16, 17, 18, 19, 20, 21, 22, 23, 24, 25, 26, 27, 28, 29, 30, 31, 32, 33, 34, 35, 36, 37, 38, 39, 40, 41, 42, 43, 44, 45, 46, 47, 48, 49, 50, 51, 52, 53, 54, 55, 56, 57, 58, 59, 60, 61, 62, 63, 64, 65, 66, 67, 68, 69, 70, 71, 72, 73, 74, 75, 76, 77, 78, 79, 80, 81, 82, 83, 84, 85, 86, 87, 88, 89, 90, 91, 92, 93, 94, 96, 97, 98, 99, 100, 101, 102, 103, 104, 105, 106, 107, 108, 109, 110, 111, 112, 113] (by decide +kernel) (by decide +kernel)
set_option maxRecDepth 20000 in
theorem gX1_pass_X1_letHoursGoBy : GoodIn wsX1_pass (wsV RX1 159 RX1 yX1_letHoursGoBy wsX1_letHoursGoBy) := goodIn_app (goodIn_of _ (by decide +kernel)) ggX1_pass_X1_letHoursGoBy
set_option maxRecDepth 20000 in
theorem ggX1_pass_J7_fill_53178 : GoodIn wsX1_pass wsJ7_fill_53178 := goodIn_r _ [33] (by decide +kernel) (by decide +kernel)
set_option maxRecDepth 20000 in
theorem gX1_pass_J7_fill_53178 : GoodIn wsX1_pass (va_wsS RX1 163 yJ7_fill_53178 wsJ7_fill_53178) := goodIn_app (goodIn_of _ (by decide +kernel)) ggX1_pass_J7_fill_53178
theorem dX1_pass_0 : decode cX1_pass 0 = .ok (.iload_n 1, 1) := by decide +kernel
theorem dX1_pass_1 : decode cX1_pass 1 = .ok (.bipush 48, 2) := by decide +kernel
theorem dX1_pass_3 : decode cX1_pass 3 = .ok (.invokestatic 156, 3) := by decide +kernel
theorem dX1_pass_6 : decode cX1_pass 6 = .ok (.aload_n 0, 1) := by decide +kernel
theorem dX1_pass_7 : decode cX1_pass 7 = .ok (.getfield 10, 3) := by decide +kernel
theorem dX1_pass_10 : decode cX1_pass 10 = .ok (.getfield 150, 3) := by decide +kernel
theorem dX1_pass_13 : decode cX1_pass 13 = .ok (.istore_n 2, 1) := by decide +kernel
theorem dX1_pass_14 : decode cX1_pass 14 = .ok (.aload_n 0, 1) := by decide +kernel
theorem dX1_pass_15 : decode cX1_pass 15 = .ok (.aload_n 0, 1) := by decide +kernel
theorem dX1_pass_16 : decode cX1_pass 16 = .ok (.getfield 10, 3) := by decide +kernel
theorem dX1_pass_19 : decode cX1_pass 19 = .ok (.iload_n 1, 1) := by decide +kernel
theorem dX1_pass_20 : decode cX1_pass 20 = .ok (.invokevirtual 159, 3) := by decide +kernel
theorem dX1_pass_23 : decode cX1_pass 23 = .ok (.aload_n 0, 1) := by decide +kernel
theorem dX1_pass_24 : decode cX1_pass 24 = .ok (.dup, 1) := by decide +kernel
theorem dX1_pass_25 : decode cX1_pass 25 = .ok (.getfield 131, 3) := by decide +kernel
theorem dX1_pass_28 : decode cX1_pass 28 = .ok (.iload_n 1, 1) := by decide +kernel
theorem dX1_pass_29 : decode cX1_pass 29 = .ok (.iadd, 1) := by decide +kernel
theorem dX1_pass_30 : decode cX1_pass 30 = .ok (.putfield 131, 3) := by decide +kernel
theorem dX1_pass_33 : decode cX1_pass 33 = .ok (.aload_n 0, 1) := by decide +kernel
theorem dX1_pass_34 : decode cX1_pass 34 = .ok (.getfield 34, 3) := by decide +kernel
theorem dX1_pass_37 : decode cX1_pass 37 = .ok (.bipush 20, 2) := by decide +kernel
theorem dX1_pass_39 : decode cX1_pass 39 = .ok (.invokestatic 163, 3) := by decide +kernel
theorem dX1_pass_42 : decode cX1_pass 42 = .ok (.aload_n 0, 1) := by decide +kernel
theorem dX1_pass_43 : decode cX1_pass 43 = .ok (.getfield 10, 3) := by decide +kernel
theorem dX1_pass_46 : decode cX1_pass 46 = .ok (.getfield 150, 3) := by decide +kernel
theorem dX1_pass_49 : decode cX1_pass 49 = .ok (.iload_n 2, 1) := by decide +kernel
theorem dX1_pass_50 : decode cX1_pass 50 = .ok (.isub, 1) := by decide +kernel
theorem dX1_pass_51 : decode cX1_pass 51 = .ok (.ireturn, 1) := by decide +kernel
set_option maxRecDepth 20000 in
theorem ggX1_endRound_X1_teamsWithFewerPoints : GoodIn wsX1_endRound wsX1_teamsWithFewerPoints := goodIn_r _ [8, 1, 9, 10, 11, 12, 13, 14, 15, 43, 44, 45, 46, 47, 48, 49, 50, 51, 52, 53, 54, 55, 56, 57, 58, 59, 60] (by decide +kernel) (by decide +kernel)
set_option maxRecDepth 20000 in
theorem gX1_endRound_X1_teamsWithFewerPoints : GoodIn wsX1_endRound (wsV RX1 169 RX1 yX1_teamsWithFewerPoints wsX1_teamsWithFewerPoints) := goodIn_app (goodIn_of _ (by decide +kernel)) ggX1_endRound_X1_teamsWithFewerPoints
set_option maxRecDepth 20000 in
theorem ggX1_endRound_X1_beginRound : GoodIn wsX1_endRound wsX1_beginRound := goodIn_r _ [19, 9, 20, 21, 22, 23, 24, 13, 25, 26, 27, 28, 29, 30, 31, 32, 33, 34, 35, 36, 37, 38, 39, 40, 41, 15, 42, 43, 44, 45, 46, 47, 48, 49, 50, 51, 52, 53, 54, 55, 56, 57, 58, 59, 60] (by decide +kernel) (by decide +kernel)
set_option maxRecDepth 20000 in
theorem gX1_endRound_X1_beginRound : GoodIn wsX1_endRound (wsV RX1 40 RX1 yX1_beginRound wsX1_beginRound) := goodIn_app (goodIn_of _ (by decide +kernel)) ggX1_endRound_X1_beginRound
theorem dX1_endRound_0 : decode cX1_endRound 0 = .ok (.iconst 0, 1) := by decide +kernel
theorem dX1_endRound_1 : decode cX1_endRound 1 = .ok (.istore_n 1, 1) := by decide +kernel
theorem dX1_endRound_2 : decode cX1_endRound 2 = .ok (.iload_n 1, 1) := by decide +kernel
theorem dX1_endRound_3 : decode cX1_endRound 3 = .ok (.aload_n 0, 1) := by decide +kernel
theorem dX1_endRound_4 : decode cX1_endRound 4 = .ok (.getfield 43, 3) := by decide +kernel
theorem dX1_endRound_7 : decode cX1_endRound 7 = .ok (.if_icmp .ge 23, 3) := by decide +kernel
theorem dX1_endRound_10 : decode cX1_endRound 10 = .ok (.aload_n 0, 1) := by decide +kernel
theorem dX1_endRound_11 : decode cX1_endRound 11 = .ok (.getfield 37, 3) := by decide +kernel
theorem dX1_endRound_14 : decode cX1_endRound 14 = .ok (.iload_n 1, 1) := by decide +kernel
theorem dX1_endRound_15 : decode cX1_endRound 15 = .ok (.dup2, 1) := by decide +kernel
theorem dX1_endRound_16 : decode cX1_endRound 16 = .ok (.iaload, 1) := by decide +kernel
theorem dX1_endRound_17 : decode cX1_endRound 17 = .ok (.aload_n 0, 1) := by decide +kernel
theorem dX1_endRound_18 : decode cX1_endRound 18 = .ok (.iload_n 1, 1) := by decide +kernel
theorem dX1_endRound_19 : decode cX1_endRound 19 = .ok (.invokevirtual 169, 3) := by decide +kernel
theorem dX1_endRound_22 : decode cX1_endRound 22 = .ok (.iadd, 1) := by decide +kernel
theorem dX1_endRound_23 : decode cX1_endRound 23 = .ok (.iastore, 1) := by decide +kernel
theorem dX1_endRound_24 : decode cX1_endRound 24 = .ok (.iinc 1 1, 3) := by decide +kernel
theorem dX1_endRound_27 : decode cX1_endRound 27 = .ok (.goto (-25), 3) := by decide +kernel
theorem dX1_endRound_30 : decode cX1_endRound 30 = .ok (.aload_n 0, 1) := by decide +kernel
theorem dX1_endRound_31 : decode cX1_endRound 31 = .ok (.invokevirtual 40, 3) := by decide +kernel
theorem dX1_endRound_34 : decode cX1_endRound 34 = .ok (.aload_n 0, 1) := by decide +kernel
theorem dX1_endRound_35 : decode cX1_endRound 35 = .ok (.dup, 1) := by decide +kernel
theorem dX1_endRound_36 : decode cX1_endRound 36 = .ok (.getfield 153, 3) := by decide +kernel
theorem dX1_endRound_39 : decode cX1_endRound 39 = .ok (.iconst 1, 1) := by decide +kernel
theorem dX1_endRound_40 : decode cX1_endRound 40 = .ok (.iadd, 1) := by decide +kernel
theorem dX1_endRound_41 : decode cX1_endRound 41 = .ok (.putfield 153, 3) := by decide +kernel
theorem dX1_endRound_44 : decode cX1_endRound 44 = .ok (.aload_n 0, 1) := by decide +kernel
theorem dX1_endRound_45 : decode cX1_endRound 45 = .ok (.getfield 153, 3) := by decide +kernel
theorem dX1_endRound_48 : decode cX1_endRound 48 = .ok (.ireturn, 1) := by decide +kernel
set_option maxRecDepth 20000 in
theorem ggX1_leader_X1_teamsAheadOf : GoodIn wsX1_leader wsX1_teamsAheadOf := goodIn_r _ [8, 3, 9, 10, 11, 7, 12, 13, 14, 15, 16, 17, 18, 19, 20, 21, 22, 23, 24, 25, 26, 27, 28, 29, 30, 31, 32, 33, 34, 35, 36, 37, 38] (by decide +kernel) (by decide +kernel)
set_option maxRecDepth 20000 in
theorem gX1_leader_X1_teamsAheadOf : GoodIn wsX1_leader (wsV RX1 174 RX1 yX1_teamsAheadOf wsX1_teamsAheadOf) := goodIn_app (goodIn_of _ (by decide +kernel)) ggX1_leader_X1_teamsAheadOf
theorem dX1_leader_0 : decode cX1_leader 0 = .ok (.iload_n 1, 1) := by decide +kernel
theorem dX1_leader_1 : decode cX1_leader 1 = .ok (.ifCond .lt 11, 3) := by decide +kernel
theorem dX1_leader_4 : decode cX1_leader 4 = .ok (.iload_n 1, 1) := by decide +kernel
theorem dX1_leader_5 : decode cX1_leader 5 = .ok (.aload_n 0, 1) := by decide +kernel
theorem dX1_leader_6 : decode cX1_leader 6 = .ok (.getfield 43, 3) := by decide +kernel
theorem dX1_leader_9 : decode cX1_leader 9 = .ok (.if_icmp .lt 13, 3) := by decide +kernel
theorem dX1_leader_12 : decode cX1_leader 12 = .ok (.new 54, 3) := by decide +kernel
theorem dX1_leader_15 : decode cX1_leader 15 = .ok (.dup, 1) := by decide +kernel
theorem dX1_leader_16 : decode cX1_leader 16 = .ok (.ldc 172, 2) := by decide +kernel
theorem dX1_leader_18 : decode cX1_leader 18 = .ok (.invokespecial 58, 3) := by decide +kernel
theorem dX1_leader_21 : decode cX1_leader 21 = .ok (.athrow, 1) := by decide +kernel
theorem dX1_leader_22 : decode cX1_leader 22 = .ok (.iconst 0, 1) := by decide +kernel
theorem dX1_leader_23 : decode cX1_leader 23 = .ok (.istore_n 2, 1) := by decide +kernel
theorem dX1_leader_24 : decode cX1_leader 24 = .ok (.iconst 0, 1) := by decide +kernel
theorem dX1_leader_25 : decode cX1_leader 25 = .ok (.istore_n 3, 1) := by decide +kernel
theorem dX1_leader_26 : decode cX1_leader 26 = .ok (.iload_n 3, 1) := by decide +kernel
theorem dX1_leader_27 : decode cX1_leader 27 = .ok (.aload_n 0, 1) := by decide +kernel
theorem dX1_leader_28 : decode cX1_leader 28 = .ok (.getfield 43, 3) := by decide +kernel
theorem dX1_leader_31 : decode cX1_leader 31 = .ok (.if_icmp .ge 20, 3) := by decide +kernel
theorem dX1_leader_34 : decode cX1_leader 34 = .ok (.aload_n 0, 1) := by decide +kernel
theorem dX1_leader_35 : decode cX1_leader 35 = .ok (.iload_n 3, 1) := by decide +kernel
theorem dX1_leader_36 : decode cX1_leader 36 = .ok (.invokevirtual 174, 3) := by decide +kernel
theorem dX1_leader_39 : decode cX1_leader 39 = .ok (.iload_n 1, 1) := by decide +kernel
theorem dX1_leader_40 : decode cX1_leader 40 = .ok (.if_icmp .ne 5, 3) := by decide +kernel
theorem dX1_leader_43 : decode cX1_leader 43 = .ok (.iload_n 3, 1) := by decide +kernel
theorem dX1_leader_44 : decode cX1_leader 44 = .ok (.istore_n 2, 1) := by decide +kernel
theorem dX1_leader_45 : decode cX1_leader 45 = .ok (.iinc 3 1, 3) := by decide +kernel
theorem dX1_leader_48 : decode cX1_leader 48 = .ok (.goto (-22), 3) := by decide +kernel
theorem dX1_leader_51 : decode cX1_leader 51 = .ok (.iload_n 2, 1) := by decide +kernel
theorem dX1_leader_52 : decode cX1_leader 52 = .ok (.ireturn, 1) := by decide +kernel
set_option maxRecDepth 20000 in
theorem ggX1_flood_X1_requireLevel : GoodIn wsX1_flood wsX1_requireLevel := goodIn_ca (goodIn_r _ [6, 7, 8] (by decide +kernel) (by decide +kernel)) (goodIn_sub (fun _ h => List.mem_cons_of_mem _ (List.mem_append_right _ h)) (by decide +kernel))
set_option maxRecDepth 20000 in
theorem gX1_flood_X1_requireLevel : GoodIn wsX1_flood (va_wsS RX1 59 yX1_requireLevel wsX1_requireLevel) := goodIn_app (goodIn_of _ (by decide +kernel)) ggX1_flood_X1_requireLevel
set_option maxRecDepth 20000 in
theorem ggX1_flood_X0_become : GoodIn wsX1_flood wsX0_become := goodIn_r _ [13, 14, 15, 16, 17, 18, 19, 20, 21, 22, 23, 24, 25, 26, 70, 71, 72, 73, 74, 75, 76, 77, 78] (by decide +kernel) (by decide +kernel)
set_option maxRecDepth 20000 in
theorem gX1_flood_X0_become : GoodIn wsX1_flood (wsV RX1 177 RX0 yX0_become wsX0_become) := goodIn_app (goodIn_of _ (by decide +kernel)) ggX1_flood_X0_become
set_option maxRecDepth 20000 in
theorem ggX1_flood_X0_findWater : GoodIn wsX1_flood wsX0_findWater := goodIn_r _ [30, 20, 31, 32, 33, 34, 35, 36, 37, 12, 38, 39, 40, 41, 42, 43, 44, 45, 46, 14, 47, 48, 49, 50, 51, 52, 53, 70, 71, 72, 73, 74, 75, 76, 77, 78] (by decide +kernel) (by decide +kernel)
set_option maxRecDepth 20000 in
theorem gX1_flood_X0_findWater : GoodIn wsX1_flood (wsV RX1 181 RX0 yX0_findWater wsX0_findWater) := goodIn_app (goodIn_of _ (by decide +kernel)) ggX1_flood_X0_findWater
set_option maxRecDepth 20000 in
theorem ggX1_flood_X0_allWater : GoodIn wsX1_flood wsX0_allWater := goodIn_r _ [57, 20, 58, 59, 12, 60, 70, 71, 72, 73, 74, 75, 76, 77, 78] (by decide +kernel) (by decide +kernel)
set_option maxRecDepth 20000 in
theorem gX1_flood_X0_allWater : GoodIn wsX1_flood (wsV RX1 134 RX0 yX0_allWater wsX0_allWater) := goodIn_app (goodIn_of _ (by decide +kernel)) ggX1_flood_X0_allWater
theorem dX1_flood_0 : decode cX1_flood 0 = .ok (.iload_n 1, 1) := by decide +kernel
theorem dX1_flood_1 : decode cX1_flood 1 = .ok (.invokestatic 59, 3) := by decide +kernel
theorem dX1_flood_4 : decode cX1_flood 4 = .ok (.aload_n 0, 1) := by decide +kernel
theorem dX1_flood_5 : decode cX1_flood 5 = .ok (.getfield 16, 3) := by decide +kernel
theorem dX1_flood_8 : decode cX1_flood 8 = .ok (.aload_n 0, 1) := by decide +kernel
theorem dX1_flood_9 : decode cX1_flood 9 = .ok (.getfield 10, 3) := by decide +kernel
theorem dX1_flood_12 : decode cX1_flood 12 = .ok (.invokevirtual 177, 3) := by decide +kernel
theorem dX1_flood_15 : decode cX1_flood 15 = .ok (.aload_n 0, 1) := by decide +kernel
theorem dX1_flood_16 : decode cX1_flood 16 = .ok (.getfield 16, 3) := by decide +kernel
theorem dX1_flood_19 : decode cX1_flood 19 = .ok (.iload_n 1, 1) := by decide +kernel
theorem dX1_flood_20 : decode cX1_flood 20 = .ok (.invokevirtual 181, 3) := by decide +kernel
theorem dX1_flood_23 : decode cX1_flood 23 = .ok (.aload_n 0, 1) := by decide +kernel
theorem dX1_flood_24 : decode cX1_flood 24 = .ok (.getfield 16, 3) := by decide +kernel
theorem dX1_flood_27 : decode cX1_flood 27 = .ok (.invokevirtual 134, 3) := by decide +kernel
theorem dX1_flood_30 : decode cX1_flood 30 = .ok (.ireturn, 1) := by decide +kernel
set_option maxRecDepth 20000 in
theorem ggX1_reach_X1_requireCell : GoodIn wsX1_reach wsX1_requireCell := goodIn_ca (goodIn_r _ [6, 7, 8, 9, 10, 5, 11] (by decide +kernel) (by decide +kernel)) (goodIn_sub (fun _ h => List.mem_cons_of_mem _ (List.mem_append_right _ h)) (by decide +kernel))
set_option maxRecDepth 20000 in
theorem gX1_reach_X1_requireCell : GoodIn wsX1_reach (va_wsS RX1 110 yX1_requireCell wsX1_requireCell) := goodIn_app (goodIn_of _ (by decide +kernel)) ggX1_reach_X1_requireCell
set_option maxRecDepth 20000 in
theorem ggX1_reach_X1_cellAt : GoodIn wsX1_reach wsX1_cellAt := goodIn_r _ [14] (by decide +kernel) (by decide +kernel)
set_option maxRecDepth 20000 in
theorem gX1_reach_X1_cellAt : GoodIn wsX1_reach (va_wsS RX1 76 yX1_cellAt wsX1_cellAt) := goodIn_app (goodIn_of _ (by decide +kernel)) ggX1_reach_X1_cellAt
set_option maxRecDepth 20000 in
theorem ggX1_reach_X0_become : GoodIn wsX1_reach wsX0_become := goodIn_r _ [19, 20, 21, 22, 23, 24, 25, 26, 27, 28, 29, 30, 31, 32, 70, 71, 72, 73, 74, 75, 76, 77, 78] (by decide +kernel) (by decide +kernel)
set_option maxRecDepth 20000 in
theorem gX1_reach_X0_become : GoodIn wsX1_reach (wsV RX1 177 RX0 yX0_become wsX0_become) := goodIn_app (goodIn_of _ (by decide +kernel)) ggX1_reach_X0_become
set_option maxRecDepth 20000 in
theorem ggX1_reach_X0_findWater : GoodIn wsX1_reach wsX0_findWater := goodIn_r _ [36, 26, 37, 38, 39, 40, 41, 42, 43, 18, 44, 45, 46, 47, 48, 49, 50, 51, 52, 20, 53, 54, 55, 56, 57, 58, 59, 70, 71, 72, 73, 74, 75, 76, 77, 78] (by decide +kernel) (by decide +kernel)
set_option maxRecDepth 20000 in
theorem gX1_reach_X0_findWater : GoodIn wsX1_reach (wsV RX1 181 RX0 yX0_findWater wsX0_findWater) := goodIn_app (goodIn_of _ (by decide +kernel)) ggX1_reach_X0_findWater
set_option maxRecDepth 20000 in
theorem ggX1_reach_X0_isWet : GoodIn wsX1_reach wsX0_isWet := goodIn_r _ [48, 26, 70, 71, 72, 73, 74, 75, 76, 77, 78] (by decide +kernel) (by decide +kernel)
set_option maxRecDepth 20000 in
theorem gX1_reach_X0_isWet : GoodIn wsX1_reach (wsV RX1 184 RX0 yX0_isWet wsX0_isWet) := goodIn_app (goodIn_of _ (by decide +kernel)) ggX1_reach_X0_isWet
theorem dX1_reach_0 : decode cX1_reach 0 = .ok (.iload_n 1, 1) := by decide +kernel
theorem dX1_reach_1 : decode cX1_reach 1 = .ok (.iload_n 2, 1) := by decide +kernel
theorem dX1_reach_2 : decode cX1_reach 2 = .ok (.invokestatic 110, 3) := by decide +kernel
theorem dX1_reach_5 : decode cX1_reach 5 = .ok (.iload_n 1, 1) := by decide +kernel
theorem dX1_reach_6 : decode cX1_reach 6 = .ok (.iload_n 2, 1) := by decide +kernel
theorem dX1_reach_7 : decode cX1_reach 7 = .ok (.invokestatic 76, 3) := by decide +kernel
theorem dX1_reach_10 : decode cX1_reach 10 = .ok (.istore_n 3, 1) := by decide +kernel
theorem dX1_reach_11 : decode cX1_reach 11 = .ok (.aload_n 0, 1) := by decide +kernel
theorem dX1_reach_12 : decode cX1_reach 12 = .ok (.getfield 16, 3) := by decide +kernel
theorem dX1_reach_15 : decode cX1_reach 15 = .ok (.aload_n 0, 1) := by decide +kernel
theorem dX1_reach_16 : decode cX1_reach 16 = .ok (.getfield 10, 3) := by decide +kernel
theorem dX1_reach_19 : decode cX1_reach 19 = .ok (.invokevirtual 177, 3) := by decide +kernel
theorem dX1_reach_22 : decode cX1_reach 22 = .ok (.iconst 0, 1) := by decide +kernel
theorem dX1_reach_23 : decode cX1_reach 23 = .ok (.istore 4, 2) := by decide +kernel
theorem dX1_reach_25 : decode cX1_reach 25 = .ok (.iload 4, 2) := by decide +kernel
theorem dX1_reach_27 : decode cX1_reach 27 = .ok (.bipush 60, 2) := by decide +kernel
theorem dX1_reach_29 : decode cX1_reach 29 = .ok (.if_icmp .ge 32, 3) := by decide +kernel
theorem dX1_reach_32 : decode cX1_reach 32 = .ok (.aload_n 0, 1) := by decide +kernel
theorem dX1_reach_33 : decode cX1_reach 33 = .ok (.getfield 16, 3) := by decide +kernel
theorem dX1_reach_36 : decode cX1_reach 36 = .ok (.iload 4, 2) := by decide +kernel
theorem dX1_reach_38 : decode cX1_reach 38 = .ok (.invokevirtual 181, 3) := by decide +kernel
theorem dX1_reach_41 : decode cX1_reach 41 = .ok (.aload_n 0, 1) := by decide +kernel
theorem dX1_reach_42 : decode cX1_reach 42 = .ok (.getfield 16, 3) := by decide +kernel
theorem dX1_reach_45 : decode cX1_reach 45 = .ok (.iload_n 3, 1) := by decide +kernel
theorem dX1_reach_46 : decode cX1_reach 46 = .ok (.invokevirtual 184, 3) := by decide +kernel
theorem dX1_reach_49 : decode cX1_reach 49 = .ok (.ifCond .eq 6, 3) := by decide +kernel
theorem dX1_reach_52 : decode cX1_reach 52 = .ok (.iload 4, 2) := by decide +kernel
theorem dX1_reach_54 : decode cX1_reach 54 = .ok (.ireturn, 1) := by decide +kernel
theorem dX1_reach_55 : decode cX1_reach 55 = .ok (.iinc 4 1, 3) := by decide +kernel
theorem dX1_reach_58 : decode cX1_reach 58 = .ok (.goto (-33), 3) := by decide +kernel
theorem dX1_reach_61 : decode cX1_reach 61 = .ok (.bipush 60, 2) := by decide +kernel
theorem dX1_reach_63 : decode cX1_reach 63 = .ok (.ireturn, 1) := by decide +kernel
set_option maxRecDepth 20000 in
theorem ggX1_foresee_X1_requireHours : GoodIn wsX1_foresee wsX1_requireHours := goodIn_ca (goodIn_r _ [6, 7, 8] (by decide +kernel) (by decide +kernel)) (goodIn_sub (fun _ h => List.mem_cons_of_mem _ (List.mem_append_left _ (List.mem_append_right _ h))) (by decide +kernel))
set_option maxRecDepth 20000 in
theorem gX1_foresee_X1_requireHours : GoodIn wsX1_foresee (va_wsS RX1 156 yX1_requireHours wsX1_requireHours) := goodIn_app (goodIn_of _ (by decide +kernel)) ggX1_foresee_X1_requireHours
set_option maxRecDepth 20000 in
theorem ggX1_foresee_X1_requireTeam : GoodIn wsX1_foresee wsX1_requireTeam := goodIn_ca (goodIn_r _ [12, 13, 14, 15, 130, 131, 132, 133, 134, 135, 136, 137, 138] (by decide +kernel) (by decide +kernel)) (goodIn_sub (fun _ h => List.mem_cons_of_mem _ (List.mem_append_right _ h)) (by decide +kernel))
set_option maxRecDepth 20000 in
theorem gX1_foresee_X1_requireTeam : GoodIn wsX1_foresee (wsV RX1 63 RX1 yX1_requireTeam wsX1_requireTeam) := goodIn_app (goodIn_of _ (by decide +kernel)) ggX1_foresee_X1_requireTeam
set_option maxRecDepth 20000 in
theorem ggX1_foresee_X1_requireWhat : GoodIn wsX1_foresee wsX1_requireWhat := goodIn_ca (goodIn_r _ [18, 13, 14] (by decide +kernel) (by decide +kernel)) (goodIn_sub (fun _ h => List.mem_cons_of_mem _ (List.mem_append_right _ h)) (by decide +kernel))
set_option maxRecDepth 20000 in
theorem gX1_foresee_X1_requireWhat : GoodIn wsX1_foresee (va_wsS RX1 113 yX1_requireWhat wsX1_requireWhat) := goodIn_app (goodIn_of _ (by decide +kernel)) ggX1_foresee_X1_requireWhat
set_option maxRecDepth 20000 in
theorem ggX1_foresee_X0_become : GoodIn wsX1_foresee wsX0_become := goodIn_r _ [23, 24, 25, 26, 27, 28, 29, 30, 31, 32, 33, 34, 35, 36, 139, 140, 141, 142, 143, 144, 145, 146, 147] (by decide +kernel) (by decide +kernel)
set_option maxRecDepth 20000 in
theorem gX1_foresee_X0_become : GoodIn wsX1_foresee (wsV RX1 177 RX0 yX0_become wsX0_become) := goodIn_app (goodIn_of _ (by decide +kernel)) ggX1_foresee_X0_become
set_option maxRecDepth 20000 in
theorem ggX1_foresee_X1_letHoursGoBy : GoodIn wsX1_foresee wsX1_letHoursGoBy := goodIn_r _ [40, 41, 42, 43, 44, 45, 46, 47, 48, 49, 22, 50, 35, 51, 52, 53, 54, 30, 55, 56, 57, 58, 59, 60, 61, 62, 63, 64, 65, 66, 67, 68, 69, 70, 24, 71, 72, 73, 74, 75, 76, 77, 78, 79, 80, 81, 29, 82, 83, 84, 85, 86, 87, 88, 34, 89, 90, 91, 92, 93, 94, 95, 96, 97, 98, 99, 100, 101, 102, 103, 104, 105, 106, 107, 108, 109, 110, 111, 112, 31, 32, 36, 33, 130, 131, 132, 133, 134, 135, 136, 137, 138, 139, 140, 141, 142, 143, 144, 145, 146, 147] (by decide +kernel) (by decide +kernel)
set_option maxRecDepth 20000 in
theorem gX1_foresee_X1_letHoursGoBy : GoodIn wsX1_foresee (wsV RX1 159 RX1 yX1_letHoursGoBy wsX1_letHoursGoBy) := goodIn_app (goodIn_of _ (by decide +kernel)) ggX1_foresee_X1_letHoursGoBy
set_option maxRecDepth 20000 in
theorem ggX1_foresee_X0_pointsOf : GoodIn wsX1_foresee wsX0_pointsOf := goodIn_r _ [116, 33, 139, 140, 141, 142, 143, 144, 145, 146, 147] (by decide +kernel) (by decide +kernel)
set_option maxRecDepth 20000 in
theorem gX1_foresee_X0_pointsOf : GoodIn wsX1_foresee (wsV RX1 119 RX0 yX0_pointsOf wsX0_pointsOf) := goodIn_app (goodIn_of _ (by decide +kernel)) ggX1_foresee_X0_pointsOf
set_option maxRecDepth 20000 in
theorem ggX1_foresee_X0_sticksOf : GoodIn wsX1_foresee wsX0_sticksOf := goodIn_r _ [120, 31, 139, 140, 141, 142, 143, 144, 145, 146, 147] (by decide +kernel) (by decide +kernel)
set_option maxRecDepth 20000 in
theorem gX1_foresee_X0_sticksOf : GoodIn wsX1_foresee (wsV RX1 95 RX0 yX0_sticksOf wsX0_sticksOf) := goodIn_app (goodIn_of _ (by decide +kernel)) ggX1_foresee_X0_sticksOf
set_option maxRecDepth 20000 in
theorem ggX1_foresee_X0_sandOfArea : GoodIn wsX1_foresee wsX0_sandOfArea := goodIn_r _ [124, 24, 125, 126, 22, 127, 128, 5, 129, 139, 140, 141, 142, 143, 144, 145, 146, 147] (by decide +kernel) (by decide +kernel)
set_option maxRecDepth 20000 in
theorem gX1_foresee_X0_sandOfArea : GoodIn wsX1_foresee (wsV RX1 122 RX0 yX0_sandOfArea wsX0_sandOfArea) := goodIn_app (goodIn_of _ (by decide +kernel)) ggX1_foresee_X0_sandOfArea
theorem dX1_foresee_0 : decode cX1_foresee 0 = .ok (.iload_n 1, 1) := by decide +kernel
theorem dX1_foresee_1 : decode cX1_foresee 1 = .ok (.bipush 48, 2) := by decide +kernel
theorem dX1_foresee_3 : decode cX1_foresee 3 = .ok (.invokestatic 156, 3) := by decide +kernel
theorem dX1_foresee_6 : decode cX1_foresee 6 = .ok (.aload_n 0, 1) := by decide +kernel
theorem dX1_foresee_7 : decode cX1_foresee 7 = .ok (.iload_n 2, 1) := by decide +kernel
theorem dX1_foresee_8 : decode cX1_foresee 8 = .ok (.invokevirtual 63, 3) := by decide +kernel
theorem dX1_foresee_11 : decode cX1_foresee 11 = .ok (.iload_n 3, 1) := by decide +kernel
theorem dX1_foresee_12 : decode cX1_foresee 12 = .ok (.iconst 3, 1) := by decide +kernel
theorem dX1_foresee_13 : decode cX1_foresee 13 = .ok (.invokestatic 113, 3) := by decide +kernel
theorem dX1_foresee_16 : decode cX1_foresee 16 = .ok (.aload_n 0, 1) := by decide +kernel
theorem dX1_foresee_17 : decode cX1_foresee 17 = .ok (.getfield 16, 3) := by decide +kernel
theorem dX1_foresee_20 : decode cX1_foresee 20 = .ok (.aload_n 0, 1) := by decide +kernel
theorem dX1_foresee_21 : decode cX1_foresee 21 = .ok (.getfield 10, 3) := by decide +kernel
theorem dX1_foresee_24 : decode cX1_foresee 24 = .ok (.invokevirtual 177, 3) := by decide +kernel
theorem dX1_foresee_27 : decode cX1_foresee 27 = .ok (.aload_n 0, 1) := by decide +kernel
theorem dX1_foresee_28 : decode cX1_foresee 28 = .ok (.aload_n 0, 1) := by decide +kernel
theorem dX1_foresee_29 : decode cX1_foresee 29 = .ok (.getfield 16, 3) := by decide +kernel
theorem dX1_foresee_32 : decode cX1_foresee 32 = .ok (.iload_n 1, 1) := by decide +kernel
theorem dX1_foresee_33 : decode cX1_foresee 33 = .ok (.invokevirtual 159, 3) := by decide +kernel
theorem dX1_foresee_36 : decode cX1_foresee 36 = .ok (.iload_n 3, 1) := by decide +kernel
theorem dX1_foresee_37 : decode cX1_foresee 37 = .ok (.lookupswitch 54 #[(0, 27), (1, 45)], 27) := by decide +kernel
theorem dX1_foresee_64 : decode cX1_foresee 64 = .ok (.aload_n 0, 1) := by decide +kernel
theorem dX1_foresee_65 : decode cX1_foresee 65 = .ok (.getfield 16, 3) := by decide +kernel
theorem dX1_foresee_68 : decode cX1_foresee 68 = .ok (.iload_n 2, 1) := by decide +kernel
theorem dX1_foresee_69 : decode cX1_foresee 69 = .ok (.invokevirtual 119, 3) := by decide +kernel
theorem dX1_foresee_72 : decode cX1_foresee 72 = .ok (.aload_n 0, 1) := by decide +kernel
theorem dX1_foresee_73 : decode cX1_foresee 73 = .ok (.getfield 10, 3) := by decide +kernel
theorem dX1_foresee_76 : decode cX1_foresee 76 = .ok (.iload_n 2, 1) := by decide +kernel
theorem dX1_foresee_77 : decode cX1_foresee 77 = .ok (.invokevirtual 119, 3) := by decide +kernel
theorem dX1_foresee_80 : decode cX1_foresee 80 = .ok (.isub, 1) := by decide +kernel
theorem dX1_foresee_81 : decode cX1_foresee 81 = .ok (.ireturn, 1) := by decide +kernel
theorem dX1_foresee_82 : decode cX1_foresee 82 = .ok (.aload_n 0, 1) := by decide +kernel
theorem dX1_foresee_83 : decode cX1_foresee 83 = .ok (.getfield 16, 3) := by decide +kernel
theorem dX1_foresee_86 : decode cX1_foresee 86 = .ok (.iload_n 2, 1) := by decide +kernel
theorem dX1_foresee_87 : decode cX1_foresee 87 = .ok (.invokevirtual 95, 3) := by decide +kernel
theorem dX1_foresee_90 : decode cX1_foresee 90 = .ok (.ireturn, 1) := by decide +kernel
theorem dX1_foresee_91 : decode cX1_foresee 91 = .ok (.aload_n 0, 1) := by decide +kernel
theorem dX1_foresee_92 : decode cX1_foresee 92 = .ok (.getfield 16, 3) := by decide +kernel
theorem dX1_foresee_95 : decode cX1_foresee 95 = .ok (.iload_n 2, 1) := by decide +kernel
theorem dX1_foresee_96 : decode cX1_foresee 96 = .ok (.invokevirtual 122, 3) := by decide +kernel
theorem dX1_foresee_99 : decode cX1_foresee 99 = .ok (.ireturn, 1) := by decide +kernel
set_option maxRecDepth 20000 in
theorem ggX1_advise_X1_requireTeam : GoodIn wsX1_advise wsX1_requireTeam := goodIn_ca (goodIn_r _ [7, 8, 9, 10, 133, 134, 135, 136, 137, 138, 139, 140, 141] (by decide +kernel) (by decide +kernel)) (goodIn_sub (fun _ h => List.mem_cons_of_mem _ (List.mem_append_left _ (List.mem_append_right _ h))) (by decide +kernel))
set_option maxRecDepth 20000 in
theorem gX1_advise_X1_requireTeam : GoodIn wsX1_advise (wsV RX1 63 RX1 yX1_requireTeam wsX1_requireTeam) := goodIn_app (goodIn_of _ (by decide +kernel)) ggX1_advise_X1_requireTeam
set_option maxRecDepth 20000 in
theorem ggX1_advise_X1_requireHours : GoodIn wsX1_advise wsX1_requireHours := goodIn_ca (goodIn_r _ [13, 14, 15] (by decide +kernel) (by decide +kernel)) (goodIn_sub (fun _ h => List.mem_cons_of_mem _ (List.mem_append_right _ h)) (by decide +kernel))
set_option maxRecDepth 20000 in
theorem gX1_advise_X1_requireHours : GoodIn wsX1_advise (va_wsS RX1 156 yX1_requireHours wsX1_requireHours) := goodIn_app (goodIn_of _ (by decide +kernel)) ggX1_advise_X1_requireHours
set_option maxRecDepth 20000 in
theorem ggX1_advise_X0_become : GoodIn wsX1_advise wsX0_become := goodIn_r _ [20, 21, 22, 23, 24, 25, 26, 27, 28, 29, 30, 31, 32, 33, 142, 143, 144, 145, 146, 147, 148, 149, 150] (by decide +kernel) (by decide +kernel)
set_option maxRecDepth 20000 in
theorem gX1_advise_X0_become : GoodIn wsX1_advise (wsV RX1 177 RX0 yX0_become wsX0_become) := goodIn_app (goodIn_of _ (by decide +kernel)) ggX1_advise_X0_become
set_option maxRecDepth 20000 in
theorem ggX1_advise_X0_clearSticks : GoodIn wsX1_advise wsX0_clearSticks := goodIn_r _ [37, 28, 29, 30, 38, 39, 40, 41, 142, 143, 144, 145, 146, 147, 148, 149, 150] (by decide +kernel) (by decide +kernel)
set_option maxRecDepth 20000 in
theorem gX1_advise_X0_clearSticks : GoodIn wsX1_advise (wsV RX1 187 RX0 yX0_clearSticks wsX0_clearSticks) := goodIn_app (goodIn_of _ (by decide +kernel)) ggX1_advise_X0_clearSticks
set_option maxRecDepth 20000 in
theorem ggX1_advise_X1_isInArea : GoodIn wsX1_advise wsX1_isInArea := goodIn_r _ [44] (by decide +kernel) (by decide +kernel)
set_option maxRecDepth 20000 in
theorem gX1_advise_X1_isInArea : GoodIn wsX1_advise (va_wsS RX1 190 yX1_isInArea wsX1_isInArea) := goodIn_app (goodIn_of _ (by decide +kernel)) ggX1_advise_X1_isInArea
set_option maxRecDepth 20000 in
theorem ggX1_advise_X0_isFree : GoodIn wsX1_advise wsX0_isFree := goodIn_r _ [48, 49, 50, 51, 19, 52, 28, 53, 54, 55, 56, 27, 142, 143, 144, 145, 146, 147, 148, 149, 150] (by decide +kernel) (by decide +kernel)
set_option maxRecDepth 20000 in
theorem gX1_advise_X0_isFree : GoodIn wsX1_advise (wsV RX1 100 RX0 yX0_isFree wsX0_isFree) := goodIn_app (goodIn_of _ (by decide +kernel)) ggX1_advise_X0_isFree
set_option maxRecDepth 20000 in
theorem ggX1_advise_X0_putStick : GoodIn wsX1_advise wsX0_putStick := goodIn_r _ [60, 28, 29, 61, 62, 63, 19, 64, 21, 142, 143, 144, 145, 146, 147, 148, 149, 150] (by decide +kernel) (by decide +kernel)
set_option maxRecDepth 20000 in
theorem gX1_advise_X0_putStick : GoodIn wsX1_advise (wsV RX1 106 RX0 yX0_putStick wsX0_putStick) := goodIn_app (goodIn_of _ (by decide +kernel)) ggX1_advise_X0_putStick
set_option maxRecDepth 20000 in
theorem ggX1_advise_X1_letHoursGoBy : GoodIn wsX1_advise wsX1_letHoursGoBy := goodIn_r _ [68, 69, 70, 71, 72, 73, 74, 75, 76, 77, 19, 78, 32, 79, 80, 81, 82, 27, 38, 39, 40, 41, 83, 84, 85, 86, 53, 54, 55, 56, 61, 62, 63, 64, 21, 87, 88, 89, 90, 91, 92, 93, 94, 95, 96, 97, 26, 98, 99, 100, 101, 102, 103, 104, 31, 105, 106, 107, 108, 109, 110, 111, 112, 113, 114, 115, 116, 117, 118, 119, 120, 121, 122, 123, 124, 125, 126, 127, 128, 28, 29, 33, 30, 133, 134, 135, 136, 137, 138, 139, 140, 141, 142, 143, 144, 145, 146, 147, 148, 149, 150] (by decide +kernel) (by decide +kernel)
set_option maxRecDepth 20000 in
theorem gX1_advise_X1_letHoursGoBy : GoodIn wsX1_advise (wsV RX1 159 RX1 yX1_letHoursGoBy wsX1_letHoursGoBy) := goodIn_app (goodIn_of _ (by decide +kernel)) ggX1_advise_X1_letHoursGoBy
set_option maxRecDepth 20000 in
theorem ggX1_advise_X0_pointsOf : GoodIn wsX1_advise wsX0_pointsOf := goodIn_r _ [132, 30, 142, 143, 144, 145, 146, 147, 148, 149, 150] (by decide +kernel) (by decide +kernel)
set_option maxRecDepth 20000 in
theorem gX1_advise_X0_pointsOf : GoodIn wsX1_advise (wsV RX1 119 RX0 yX0_pointsOf wsX0_pointsOf) := goodIn_app (goodIn_of _ (by decide +kernel)) ggX1_advise_X0_pointsOf
theorem dX1_advise_0 : decode cX1_advise 0 = .ok (.aload_n 0, 1) := by decide +kernel
theorem dX1_advise_1 : decode cX1_advise 1 = .ok (.iload_n 1, 1) := by decide +kernel
theorem dX1_advise_2 : decode cX1_advise 2 = .ok (.invokevirtual 63, 3) := by decide +kernel
theorem dX1_advise_5 : decode cX1_advise 5 = .ok (.iload_n 2, 1) := by decide +kernel
theorem dX1_advise_6 : decode cX1_advise 6 = .ok (.bipush 12, 2) := by decide +kernel
theorem dX1_advise_8 : decode cX1_advise 8 = .ok (.invokestatic 156, 3) := by decide +kernel
theorem dX1_advise_11 : decode cX1_advise 11 = .ok (.aload_n 0, 1) := by decide +kernel
theorem dX1_advise_12 : decode cX1_advise 12 = .ok (.getfield 16, 3) := by decide +kernel
theorem dX1_advise_15 : decode cX1_advise 15 = .ok (.aload_n 0, 1) := by decide +kernel
theorem dX1_advise_16 : decode cX1_advise 16 = .ok (.getfield 10, 3) := by decide +kernel
theorem dX1_advise_19 : decode cX1_advise 19 = .ok (.invokevirtual 177, 3) := by decide +kernel
theorem dX1_advise_22 : decode cX1_advise 22 = .ok (.aload_n 0, 1) := by decide +kernel
theorem dX1_advise_23 : decode cX1_advise 23 = .ok (.getfield 16, 3) := by decide +kernel
theorem dX1_advise_26 : decode cX1_advise 26 = .ok (.invokevirtual 187, 3) := by decide +kernel
theorem dX1_advise_29 : decode cX1_advise 29 = .ok (.iconst 0, 1) := by decide +kernel
theorem dX1_advise_30 : decode cX1_advise 30 = .ok (.istore_n 3, 1) := by decide +kernel
theorem dX1_advise_31 : decode cX1_advise 31 = .ok (.iload_n 3, 1) := by decide +kernel
theorem dX1_advise_32 : decode cX1_advise 32 = .ok (.bipush 120, 2) := by decide +kernel
theorem dX1_advise_34 : decode cX1_advise 34 = .ok (.if_icmp .ge 37, 3) := by decide +kernel
theorem dX1_advise_37 : decode cX1_advise 37 = .ok (.iload_n 1, 1) := by decide +kernel
theorem dX1_advise_38 : decode cX1_advise 38 = .ok (.iload_n 3, 1) := by decide +kernel
theorem dX1_advise_39 : decode cX1_advise 39 = .ok (.invokestatic 190, 3) := by decide +kernel
theorem dX1_advise_42 : decode cX1_advise 42 = .ok (.ifCond .eq 23, 3) := by decide +kernel
theorem dX1_advise_45 : decode cX1_advise 45 = .ok (.aload_n 0, 1) := by decide +kernel
theorem dX1_advise_46 : decode cX1_advise 46 = .ok (.getfield 10, 3) := by decide +kernel
theorem dX1_advise_49 : decode cX1_advise 49 = .ok (.iload_n 3, 1) := by decide +kernel
theorem dX1_advise_50 : decode cX1_advise 50 = .ok (.invokevirtual 100, 3) := by decide +kernel
theorem dX1_advise_53 : decode cX1_advise 53 = .ok (.ifCond .eq 12, 3) := by decide +kernel
theorem dX1_advise_56 : decode cX1_advise 56 = .ok (.aload_n 0, 1) := by decide +kernel
theorem dX1_advise_57 : decode cX1_advise 57 = .ok (.getfield 16, 3) := by decide +kernel
theorem dX1_advise_60 : decode cX1_advise 60 = .ok (.iload_n 3, 1) := by decide +kernel
theorem dX1_advise_61 : decode cX1_advise 61 = .ok (.iload_n 3, 1) := by decide +kernel
theorem dX1_advise_62 : decode cX1_advise 62 = .ok (.invokevirtual 106, 3) := by decide +kernel
theorem dX1_advise_65 : decode cX1_advise 65 = .ok (.iinc 3 1, 3) := by decide +kernel
theorem dX1_advise_68 : decode cX1_advise 68 = .ok (.goto (-37), 3) := by decide +kernel
theorem dX1_advise_71 : decode cX1_advise 71 = .ok (.aload_n 0, 1) := by decide +kernel
theorem dX1_advise_72 : decode cX1_advise 72 = .ok (.aload_n 0, 1) := by decide +kernel
theorem dX1_advise_73 : decode cX1_advise 73 = .ok (.getfield 16, 3) := by decide +kernel
theorem dX1_advise_76 : decode cX1_advise 76 = .ok (.iload_n 2, 1) := by decide +kernel
theorem dX1_advise_77 : decode cX1_advise 77 = .ok (.invokevirtual 159, 3) := by decide +kernel
theorem dX1_advise_80 : decode cX1_advise 80 = .ok (.iconst (-1), 1) := by decide +kernel
theorem dX1_advise_81 : decode cX1_advise 81 = .ok (.istore_n 3, 1) := by decide +kernel
theorem dX1_advise_82 : decode cX1_advise 82 = .ok (.iconst (-1), 1) := by decide +kernel
theorem dX1_advise_83 : decode cX1_advise 83 = .ok (.istore 4, 2) := by decide +kernel
theorem dX1_advise_85 : decode cX1_advise 85 = .ok (.iconst 0, 1) := by decide +kernel
theorem dX1_advise_86 : decode cX1_advise 86 = .ok (.istore 5, 2) := by decide +kernel
theorem dX1_advise_88 : decode cX1_advise 88 = .ok (.iload 5, 2) := by decide +kernel
theorem dX1_advise_90 : decode cX1_advise 90 = .ok (.bipush 120, 2) := by decide +kernel
theorem dX1_advise_92 : decode cX1_advise 92 = .ok (.if_icmp .ge 58, 3) := by decide +kernel
theorem dX1_advise_95 : decode cX1_advise 95 = .ok (.iload_n 1, 1) := by decide +kernel
theorem dX1_advise_96 : decode cX1_advise 96 = .ok (.iload 5, 2) := by decide +kernel
theorem dX1_advise_98 : decode cX1_advise 98 = .ok (.invokestatic 190, 3) := by decide +kernel
theorem dX1_advise_101 : decode cX1_advise 101 = .ok (.ifCond .eq 43, 3) := by decide +kernel
theorem dX1_advise_104 : decode cX1_advise 104 = .ok (.aload_n 0, 1) := by decide +kernel
theorem dX1_advise_105 : decode cX1_advise 105 = .ok (.getfield 10, 3) := by decide +kernel
theorem dX1_advise_108 : decode cX1_advise 108 = .ok (.iload 5, 2) := by decide +kernel
theorem dX1_advise_110 : decode cX1_advise 110 = .ok (.invokevirtual 100, 3) := by decide +kernel
theorem dX1_advise_113 : decode cX1_advise 113 = .ok (.ifCond .eq 31, 3) := by decide +kernel
theorem dX1_advise_116 : decode cX1_advise 116 = .ok (.aload_n 0, 1) := by decide +kernel
theorem dX1_advise_117 : decode cX1_advise 117 = .ok (.getfield 16, 3) := by decide +kernel
theorem dX1_advise_120 : decode cX1_advise 120 = .ok (.iload 5, 2) := by decide +kernel
theorem dX1_advise_122 : decode cX1_advise 122 = .ok (.invokevirtual 119, 3) := by decide +kernel
theorem dX1_advise_125 : decode cX1_advise 125 = .ok (.iload 4, 2) := by decide +kernel
theorem dX1_advise_127 : decode cX1_advise 127 = .ok (.if_icmp .le 17, 3) := by decide +kernel
theorem dX1_advise_130 : decode cX1_advise 130 = .ok (.iload 5, 2) := by decide +kernel
theorem dX1_advise_132 : decode cX1_advise 132 = .ok (.istore_n 3, 1) := by decide +kernel
theorem dX1_advise_133 : decode cX1_advise 133 = .ok (.aload_n 0, 1) := by decide +kernel
theorem dX1_advise_134 : decode cX1_advise 134 = .ok (.getfield 16, 3) := by decide +kernel
theorem dX1_advise_137 : decode cX1_advise 137 = .ok (.iload 5, 2) := by decide +kernel
theorem dX1_advise_139 : decode cX1_advise 139 = .ok (.invokevirtual 119, 3) := by decide +kernel
theorem dX1_advise_142 : decode cX1_advise 142 = .ok (.istore 4, 2) := by decide +kernel
theorem dX1_advise_144 : decode cX1_advise 144 = .ok (.iinc 5 1, 3) := by decide +kernel
theorem dX1_advise_147 : decode cX1_advise 147 = .ok (.goto (-59), 3) := by decide +kernel
theorem dX1_advise_150 : decode cX1_advise 150 = .ok (.iload_n 3, 1) := by decide +kernel
theorem dX1_advise_151 : decode cX1_advise 151 = .ok (.ireturn, 1) := by decide +kernel
set_option maxRecDepth 20000 in
theorem ggX1_mean_X0_allHeights : GoodIn wsX1_mean wsX0_allHeights := goodIn_r _ [7, 8, 9, 10, 6, 11, 12, 22, 23, 24, 25, 26, 27, 28, 29, 30] (by decide +kernel) (by decide +kernel)
set_option maxRecDepth 20000 in
theorem gX1_mean_X0_allHeights : GoodIn wsX1_mean (wsV RX1 194 RX0 yX0_allHeights wsX0_allHeights) := goodIn_app (goodIn_of _ (by decide +kernel)) ggX1_mean_X0_allHeights
theorem dX1_mean_0 : decode cX1_mean 0 = .ok (.aload_n 0, 1) := by decide +kernel
theorem dX1_mean_1 : decode cX1_mean 1 = .ok (.getfield 10, 3) := by decide +kernel
theorem dX1_mean_4 : decode cX1_mean 4 = .ok (.invokevirtual 194, 3) := by decide +kernel
theorem dX1_mean_7 : decode cX1_mean 7 = .ok (.i2d, 1) := by decide +kernel
theorem dX1_mean_8 : decode cX1_mean 8 = .ok (.ldc2_w 197, 3) := by decide +kernel
theorem dX1_mean_11 : decode cX1_mean 11 = .ok (.ddiv, 1) := by decide +kernel
theorem dX1_mean_12 : decode cX1_mean 12 = .ok (.dreturn, 1) := by decide +kernel
set_option maxRecDepth 20000 in
theorem ggX1_digest_X1_count : GoodIn wsX1_digest wsX1_count := goodIn_ca (goodIn_r _ [10, 11, 4, 5, 12, 13, 14, 9, 15, 16, 17, 18, 19, 20, 21, 22, 23, 24, 25, 26, 27, 28, 29, 30, 31, 32, 33, 34, 35, 36, 37, 38, 39, 40, 92, 93, 94, 95, 96, 97, 98, 99, 100, 101, 102, 103, 104, 105, 106, 107, 108, 109] (by decide +kernel) (by decide +kernel)) (goodIn_sub (fun _ h => List.mem_cons_of_mem _ (List.mem_append_right _ h)) (by decide +kernel))
set_option maxRecDepth 20000 in
theorem gX1_digest_X1_count : GoodIn wsX1_digest (wsV RX1 203 RX1 yX1_count wsX1_count) := goodIn_app (goodIn_of _ (by decide +kernel)) ggX1_digest_X1_count
set_option maxRecDepth 20000 in
theorem ggX1_digest_X1_team : GoodIn wsX1_digest wsX1_team := goodIn_ca (goodIn_r _ [44, 45, 46, 5, 47, 48, 49, 50, 9, 51, 16, 17, 4, 13, 14, 15, 52, 53, 54, 21, 55, 56, 57, 58, 59, 60, 40, 61, 62, 63, 64, 31, 65, 66, 67, 68, 69, 70, 71, 72, 73, 74, 75, 76, 77, 78, 79, 80, 81, 82, 83, 84, 85, 23, 92, 93, 94, 95, 96, 97, 98, 99, 100, 101, 102, 103, 104, 105, 106, 107, 108, 109] (by decide +kernel) (by decide +kernel)) (goodIn_sub (fun _ h => List.mem_cons_of_mem _ (List.mem_append_right _ h)) (by decide +kernel))
set_option maxRecDepth 20000 in
theorem gX1_digest_X1_team : GoodIn wsX1_digest (wsV RX1 206 RX1 yX1_team wsX1_team) := goodIn_app (goodIn_of _ (by decide +kernel)) ggX1_digest_X1_team
set_option maxRecDepth 20000 in
theorem ggX1_digest_X0_tellCell : GoodIn wsX1_digest wsX0_tellCell := goodIn_r _ [89, 31, 90, 23, 91, 78, 79, 80, 21, 81, 36, 37, 38, 39, 40, 101, 102, 103, 104, 105, 106, 107, 108, 109] (by decide +kernel) (by decide +kernel)
set_option maxRecDepth 20000 in
theorem gX1_digest_X0_tellCell : GoodIn wsX1_digest (wsV RX1 116 RX0 yX0_tellCell wsX0_tellCell) := goodIn_app (goodIn_of _ (by decide +kernel)) ggX1_digest_X0_tellCell
theorem dX1_digest_0 : decode cX1_digest 0 = .ok (.ldc2_w 199, 3) := by decide +kernel
theorem dX1_digest_3 : decode cX1_digest 3 = .ok (.lstore_n 1, 1) := by decide +kernel
theorem dX1_digest_4 : decode cX1_digest 4 = .ok (.iconst 0, 1) := by decide +kernel
theorem dX1_digest_5 : decode cX1_digest 5 = .ok (.istore_n 3, 1) := by decide +kernel
theorem dX1_digest_6 : decode cX1_digest 6 = .ok (.iload_n 3, 1) := by decide +kernel
theorem dX1_digest_7 : decode cX1_digest 7 = .ok (.bipush 9, 2) := by decide +kernel
theorem dX1_digest_9 : decode cX1_digest 9 = .ok (.if_icmp .ge 22, 3) := by decide +kernel
theorem dX1_digest_12 : decode cX1_digest 12 = .ok (.lload_n 1, 1) := by decide +kernel
theorem dX1_digest_13 : decode cX1_digest 13 = .ok (.ldc2_w 201, 3) := by decide +kernel
theorem dX1_digest_16 : decode cX1_digest 16 = .ok (.lmul, 1) := by decide +kernel
theorem dX1_digest_17 : decode cX1_digest 17 = .ok (.aload_n 0, 1) := by decide +kernel
theorem dX1_digest_18 : decode cX1_digest 18 = .ok (.iload_n 3, 1) := by decide +kernel
theorem dX1_digest_19 : decode cX1_digest 19 = .ok (.invokevirtual 203, 3) := by decide +kernel
theorem dX1_digest_22 : decode cX1_digest 22 = .ok (.i2l, 1) := by decide +kernel
theorem dX1_digest_23 : decode cX1_digest 23 = .ok (.ladd, 1) := by decide +kernel
theorem dX1_digest_24 : decode cX1_digest 24 = .ok (.lstore_n 1, 1) := by decide +kernel
theorem dX1_digest_25 : decode cX1_digest 25 = .ok (.iinc 3 1, 3) := by decide +kernel
theorem dX1_digest_28 : decode cX1_digest 28 = .ok (.goto (-22), 3) := by decide +kernel
theorem dX1_digest_31 : decode cX1_digest 31 = .ok (.iconst 0, 1) := by decide +kernel
theorem dX1_digest_32 : decode cX1_digest 32 = .ok (.istore_n 3, 1) := by decide +kernel
theorem dX1_digest_33 : decode cX1_digest 33 = .ok (.iload_n 3, 1) := by decide +kernel
theorem dX1_digest_34 : decode cX1_digest 34 = .ok (.bipush 12, 2) := by decide +kernel
theorem dX1_digest_36 : decode cX1_digest 36 = .ok (.if_icmp .ge 23, 3) := by decide +kernel
theorem dX1_digest_39 : decode cX1_digest 39 = .ok (.lload_n 1, 1) := by decide +kernel
theorem dX1_digest_40 : decode cX1_digest 40 = .ok (.ldc2_w 201, 3) := by decide +kernel
theorem dX1_digest_43 : decode cX1_digest 43 = .ok (.lmul, 1) := by decide +kernel
theorem dX1_digest_44 : decode cX1_digest 44 = .ok (.aload_n 0, 1) := by decide +kernel
theorem dX1_digest_45 : decode cX1_digest 45 = .ok (.getfield 28, 3) := by decide +kernel
theorem dX1_digest_48 : decode cX1_digest 48 = .ok (.iload_n 3, 1) := by decide +kernel
theorem dX1_digest_49 : decode cX1_digest 49 = .ok (.iaload, 1) := by decide +kernel
theorem dX1_digest_50 : decode cX1_digest 50 = .ok (.i2l, 1) := by decide +kernel
theorem dX1_digest_51 : decode cX1_digest 51 = .ok (.ladd, 1) := by decide +kernel
theorem dX1_digest_52 : decode cX1_digest 52 = .ok (.lstore_n 1, 1) := by decide +kernel
theorem dX1_digest_53 : decode cX1_digest 53 = .ok (.iinc 3 1, 3) := by decide +kernel
theorem dX1_digest_56 : decode cX1_digest 56 = .ok (.goto (-23), 3) := by decide +kernel
theorem dX1_digest_59 : decode cX1_digest 59 = .ok (.iconst 0, 1) := by decide +kernel
theorem dX1_digest_60 : decode cX1_digest 60 = .ok (.istore_n 3, 1) := by decide +kernel
theorem dX1_digest_61 : decode cX1_digest 61 = .ok (.iload_n 3, 1) := by decide +kernel
theorem dX1_digest_62 : decode cX1_digest 62 = .ok (.aload_n 0, 1) := by decide +kernel
theorem dX1_digest_63 : decode cX1_digest 63 = .ok (.getfield 43, 3) := by decide +kernel
theorem dX1_digest_66 : decode cX1_digest 66 = .ok (.if_icmp .ge 40, 3) := by decide +kernel
theorem dX1_digest_69 : decode cX1_digest 69 = .ok (.iconst 0, 1) := by decide +kernel
theorem dX1_digest_70 : decode cX1_digest 70 = .ok (.istore 4, 2) := by decide +kernel
theorem dX1_digest_72 : decode cX1_digest 72 = .ok (.iload 4, 2) := by decide +kernel
theorem dX1_digest_74 : decode cX1_digest 74 = .ok (.bipush 8, 2) := by decide +kernel
theorem dX1_digest_76 : decode cX1_digest 76 = .ok (.if_icmp .ge 24, 3) := by decide +kernel
theorem dX1_digest_79 : decode cX1_digest 79 = .ok (.lload_n 1, 1) := by decide +kernel
theorem dX1_digest_80 : decode cX1_digest 80 = .ok (.ldc2_w 201, 3) := by decide +kernel
theorem dX1_digest_83 : decode cX1_digest 83 = .ok (.lmul, 1) := by decide +kernel
theorem dX1_digest_84 : decode cX1_digest 84 = .ok (.aload_n 0, 1) := by decide +kernel
theorem dX1_digest_85 : decode cX1_digest 85 = .ok (.iload_n 3, 1) := by decide +kernel
theorem dX1_digest_86 : decode cX1_digest 86 = .ok (.iload 4, 2) := by decide +kernel
theorem dX1_digest_88 : decode cX1_digest 88 = .ok (.invokevirtual 206, 3) := by decide +kernel
theorem dX1_digest_91 : decode cX1_digest 91 = .ok (.i2l, 1) := by decide +kernel
theorem dX1_digest_92 : decode cX1_digest 92 = .ok (.ladd, 1) := by decide +kernel
theorem dX1_digest_93 : decode cX1_digest 93 = .ok (.lstore_n 1, 1) := by decide +kernel
theorem dX1_digest_94 : decode cX1_digest 94 = .ok (.iinc 4 1, 3) := by decide +kernel
theorem dX1_digest_97 : decode cX1_digest 97 = .ok (.goto (-25), 3) := by decide +kernel
theorem dX1_digest_100 : decode cX1_digest 100 = .ok (.iinc 3 1, 3) := by decide +kernel
theorem dX1_digest_103 : decode cX1_digest 103 = .ok (.goto (-42), 3) := by decide +kernel
theorem dX1_digest_106 : decode cX1_digest 106 = .ok (.iconst 0, 1) := by decide +kernel
theorem dX1_digest_107 : decode cX1_digest 107 = .ok (.istore_n 3, 1) := by decide +kernel
theorem dX1_digest_108 : decode cX1_digest 108 = .ok (.iload_n 3, 1) := by decide +kernel
theorem dX1_digest_109 : decode cX1_digest 109 = .ok (.bipush 120, 2) := by decide +kernel
theorem dX1_digest_111 : decode cX1_digest 111 = .ok (.if_icmp .ge 43, 3) := by decide +kernel
theorem dX1_digest_114 : decode cX1_digest 114 = .ok (.iconst 0, 1) := by decide +kernel
theorem dX1_digest_115 : decode cX1_digest 115 = .ok (.istore 4, 2) := by decide +kernel
theorem dX1_digest_117 : decode cX1_digest 117 = .ok (.iload 4, 2) := by decide +kernel
theorem dX1_digest_119 : decode cX1_digest 119 = .ok (.bipush 6, 2) := by decide +kernel
theorem dX1_digest_121 : decode cX1_digest 121 = .ok (.if_icmp .ge 27, 3) := by decide +kernel
theorem dX1_digest_124 : decode cX1_digest 124 = .ok (.lload_n 1, 1) := by decide +kernel
theorem dX1_digest_125 : decode cX1_digest 125 = .ok (.ldc2_w 201, 3) := by decide +kernel
theorem dX1_digest_128 : decode cX1_digest 128 = .ok (.lmul, 1) := by decide +kernel
theorem dX1_digest_129 : decode cX1_digest 129 = .ok (.aload_n 0, 1) := by decide +kernel
theorem dX1_digest_130 : decode cX1_digest 130 = .ok (.getfield 10, 3) := by decide +kernel
theorem dX1_digest_133 : decode cX1_digest 133 = .ok (.iload_n 3, 1) := by decide +kernel
theorem dX1_digest_134 : decode cX1_digest 134 = .ok (.iload 4, 2) := by decide +kernel
theorem dX1_digest_136 : decode cX1_digest 136 = .ok (.invokevirtual 116, 3) := by decide +kernel
theorem dX1_digest_139 : decode cX1_digest 139 = .ok (.i2l, 1) := by decide +kernel
theorem dX1_digest_140 : decode cX1_digest 140 = .ok (.ladd, 1) := by decide +kernel
theorem dX1_digest_141 : decode cX1_digest 141 = .ok (.lstore_n 1, 1) := by decide +kernel
theorem dX1_digest_142 : decode cX1_digest 142 = .ok (.iinc 4 1, 3) := by decide +kernel
theorem dX1_digest_145 : decode cX1_digest 145 = .ok (.goto (-28), 3) := by decide +kernel
theorem dX1_digest_148 : decode cX1_digest 148 = .ok (.iinc 3 1, 3) := by decide +kernel
theorem dX1_digest_151 : decode cX1_digest 151 = .ok (.goto (-43), 3) := by decide +kernel
theorem dX1_digest_154 : decode cX1_digest 154 = .ok (.lload_n 1, 1) := by decide +kernel
theorem dX1_digest_155 : decode cX1_digest 155 = .ok (.lreturn, 1) := by decide +kernel
set_option maxRecDepth 20000 in
theorem ggX1_beginRound_X0_begin : GoodIn wsX1_beginRound wsX0_begin := goodIn_r _ [8, 9, 10, 11, 12, 13, 14, 15, 16, 17, 18, 19, 20, 21, 7, 22, 23, 24, 25, 36, 37, 38, 39, 40, 41, 42, 43, 44] (by decide +kernel) (by decide +kernel)
set_option maxRecDepth 20000 in
theorem gX1_beginRound_X0_begin : GoodIn wsX1_beginRound (wsV RX1 209 RX0 yX0_begin wsX0_begin) := goodIn_app (goodIn_of _ (by decide +kernel)) ggX1_beginRound_X0_begin
set_option maxRecDepth 20000 in
theorem ggX1_beginRound_J7_fill_53178 : GoodIn wsX1_beginRound wsJ7_fill_53178 := goodIn_r _ [18] (by decide +kernel) (by decide +kernel)
set_option maxRecDepth 20000 in
theorem gX1_beginRound_J7_fill_53178 : GoodIn wsX1_beginRound (va_wsS RX1 163 yJ7_fill_53178 wsJ7_fill_53178) := goodIn_app (goodIn_of _ (by decide +kernel)) ggX1_beginRound_J7_fill_53178
theorem dX1_beginRound_0 : decode cX1_beginRound 0 = .ok (.aload_n 0, 1) := by decide +kernel
theorem dX1_beginRound_1 : decode cX1_beginRound 1 = .ok (.getfield 10, 3) := by decide +kernel
theorem dX1_beginRound_4 : decode cX1_beginRound 4 = .ok (.invokevirtual 209, 3) := by decide +kernel
theorem dX1_beginRound_7 : decode cX1_beginRound 7 = .ok (.aload_n 0, 1) := by decide +kernel
theorem dX1_beginRound_8 : decode cX1_beginRound 8 = .ok (.getfield 31, 3) := by decide +kernel
theorem dX1_beginRound_11 : decode cX1_beginRound 11 = .ok (.iconst 0, 1) := by decide +kernel
theorem dX1_beginRound_12 : decode cX1_beginRound 12 = .ok (.invokestatic 163, 3) := by decide +kernel
theorem dX1_beginRound_15 : decode cX1_beginRound 15 = .ok (.aload_n 0, 1) := by decide +kernel
theorem dX1_beginRound_16 : decode cX1_beginRound 16 = .ok (.getfield 34, 3) := by decide +kernel
theorem dX1_beginRound_19 : decode cX1_beginRound 19 = .ok (.bipush 20, 2) := by decide +kernel
theorem dX1_beginRound_21 : decode cX1_beginRound 21 = .ok (.invokestatic 163, 3) := by decide +kernel
theorem dX1_beginRound_24 : decode cX1_beginRound 24 = .ok (.return_, 1) := by decide +kernel
set_option maxRecDepth 20000 in
theorem ggX1_letHoursGoBy_J9_floorMod_7cf53 : GoodIn wsX1_letHoursGoBy wsJ9_floorMod_7cf53 := goodIn_r _ [6] (by decide +kernel) (by decide +kernel)
set_option maxRecDepth 20000 in
theorem gX1_letHoursGoBy_J9_floorMod_7cf53 : GoodIn wsX1_letHoursGoBy (va_wsS RX1 212 yJ9_floorMod_7cf53 wsJ9_floorMod_7cf53) := goodIn_app (goodIn_of _ (by decide +kernel)) ggX1_letHoursGoBy_J9_floorMod_7cf53
set_option maxRecDepth 20000 in
theorem ggX1_letHoursGoBy_X0_letHourGoBy : GoodIn wsX1_letHoursGoBy wsX0_letHourGoBy := goodIn_r _ [11, 12, 13, 14, 15, 10, 16, 17, 18, 19, 20, 21, 22, 23, 24, 25, 26, 27, 28, 29, 30, 31, 32, 33, 34, 35, 36, 37, 38, 39, 40, 41, 42, 43, 44, 45, 46, 47, 48, 49, 50, 51, 52, 53, 54, 55, 56, 57, 58, 59, 60, 61, 62, 63, 64, 65, 66, 67, 68, 69, 70, 71, 72, 73, 74, 75, 76, 77, 78, 79, 80, 81, 82, 92, 93, 94, 95, 96, 97, 98, 99, 100] (by decide +kernel) (by decide +kernel)
set_option maxRecDepth 20000 in
theorem gX1_letHoursGoBy_X0_letHourGoBy : GoodIn wsX1_letHoursGoBy (wsV RX1 215 RX0 yX0_letHourGoBy wsX0_letHourGoBy) := goodIn_app (goodIn_of _ (by decide +kernel)) ggX1_letHoursGoBy_X0_letHourGoBy
theorem dX1_letHoursGoBy_0 : decode cX1_letHoursGoBy 0 = .ok (.iconst 0, 1) := by decide +kernel
theorem dX1_letHoursGoBy_1 : decode cX1_letHoursGoBy 1 = .ok (.istore_n 3, 1) := by decide +kernel
theorem dX1_letHoursGoBy_2 : decode cX1_letHoursGoBy 2 = .ok (.iload_n 3, 1) := by decide +kernel
theorem dX1_letHoursGoBy_3 : decode cX1_letHoursGoBy 3 = .ok (.iload_n 2, 1) := by decide +kernel
theorem dX1_letHoursGoBy_4 : decode cX1_letHoursGoBy 4 = .ok (.if_icmp .ge 29, 3) := by decide +kernel
theorem dX1_letHoursGoBy_7 : decode cX1_letHoursGoBy 7 = .ok (.aload_n 1, 1) := by decide +kernel
theorem dX1_letHoursGoBy_8 : decode cX1_letHoursGoBy 8 = .ok (.aload_n 0, 1) := by decide +kernel
theorem dX1_letHoursGoBy_9 : decode cX1_letHoursGoBy 9 = .ok (.getfield 28, 3) := by decide +kernel
theorem dX1_letHoursGoBy_12 : decode cX1_letHoursGoBy 12 = .ok (.aload_n 0, 1) := by decide +kernel
theorem dX1_letHoursGoBy_13 : decode cX1_letHoursGoBy 13 = .ok (.getfield 131, 3) := by decide +kernel
theorem dX1_letHoursGoBy_16 : decode cX1_letHoursGoBy 16 = .ok (.iload_n 3, 1) := by decide +kernel
theorem dX1_letHoursGoBy_17 : decode cX1_letHoursGoBy 17 = .ok (.iadd, 1) := by decide +kernel
theorem dX1_letHoursGoBy_18 : decode cX1_letHoursGoBy 18 = .ok (.bipush 12, 2) := by decide +kernel
theorem dX1_letHoursGoBy_20 : decode cX1_letHoursGoBy 20 = .ok (.invokestatic 212, 3) := by decide +kernel
theorem dX1_letHoursGoBy_23 : decode cX1_letHoursGoBy 23 = .ok (.iaload, 1) := by decide +kernel
theorem dX1_letHoursGoBy_24 : decode cX1_letHoursGoBy 24 = .ok (.invokevirtual 215, 3) := by decide +kernel
theorem dX1_letHoursGoBy_27 : decode cX1_letHoursGoBy 27 = .ok (.iinc 3 1, 3) := by decide +kernel
theorem dX1_letHoursGoBy_30 : decode cX1_letHoursGoBy 30 = .ok (.goto (-28), 3) := by decide +kernel
theorem dX1_letHoursGoBy_33 : decode cX1_letHoursGoBy 33 = .ok (.return_, 1) := by decide +kernel
set_option maxRecDepth 20000 in
theorem ggX1_teamsWithFewerPoints_X0_pointsOf : GoodIn wsX1_teamsWithFewerPoints wsX0_pointsOf := goodIn_r _ [7, 8, 18, 19, 20, 21, 22, 23, 24, 25, 26] (by decide +kernel) (by decide +kernel)
set_option maxRecDepth 20000 in
theorem gX1_teamsWithFewerPoints_X0_pointsOf : GoodIn wsX1_teamsWithFewerPoints (wsV RX1 119 RX0 yX0_pointsOf wsX0_pointsOf) := goodIn_app (goodIn_of _ (by decide +kernel)) ggX1_teamsWithFewerPoints_X0_pointsOf
theorem dX1_teamsWithFewerPoints_0 : decode cX1_teamsWithFewerPoints 0 = .ok (.iconst 0, 1) := by decide +kernel
theorem dX1_teamsWithFewerPoints_1 : decode cX1_teamsWithFewerPoints 1 = .ok (.istore_n 2, 1) := by decide +kernel
theorem dX1_teamsWithFewerPoints_2 : decode cX1_teamsWithFewerPoints 2 = .ok (.iconst 0, 1) := by decide +kernel
theorem dX1_teamsWithFewerPoints_3 : decode cX1_teamsWithFewerPoints 3 = .ok (.istore_n 3, 1) := by decide +kernel
theorem dX1_teamsWithFewerPoints_4 : decode cX1_teamsWithFewerPoints 4 = .ok (.iload_n 3, 1) := by decide +kernel
theorem dX1_teamsWithFewerPoints_5 : decode cX1_teamsWithFewerPoints 5 = .ok (.aload_n 0, 1) := by decide +kernel
theorem dX1_teamsWithFewerPoints_6 : decode cX1_teamsWithFewerPoints 6 = .ok (.getfield 43, 3) := by decide +kernel
theorem dX1_teamsWithFewerPoints_9 : decode cX1_teamsWithFewerPoints 9 = .ok (.if_icmp .ge 31, 3) := by decide +kernel
theorem dX1_teamsWithFewerPoints_12 : decode cX1_teamsWithFewerPoints 12 = .ok (.aload_n 0, 1) := by decide +kernel
theorem dX1_teamsWithFewerPoints_13 : decode cX1_teamsWithFewerPoints 13 = .ok (.getfield 10, 3) := by decide +kernel
theorem dX1_teamsWithFewerPoints_16 : decode cX1_teamsWithFewerPoints 16 = .ok (.iload_n 3, 1) := by decide +kernel
theorem dX1_teamsWithFewerPoints_17 : decode cX1_teamsWithFewerPoints 17 = .ok (.invokevirtual 119, 3) := by decide +kernel
theorem dX1_teamsWithFewerPoints_20 : decode cX1_teamsWithFewerPoints 20 = .ok (.aload_n 0, 1) := by decide +kernel
theorem dX1_teamsWithFewerPoints_21 : decode cX1_teamsWithFewerPoints 21 = .ok (.getfield 10, 3) := by decide +kernel
theorem dX1_teamsWithFewerPoints_24 : decode cX1_teamsWithFewerPoints 24 = .ok (.iload_n 1, 1) := by decide +kernel
theorem dX1_teamsWithFewerPoints_25 : decode cX1_teamsWithFewerPoints 25 = .ok (.invokevirtual 119, 3) := by decide +kernel
theorem dX1_teamsWithFewerPoints_28 : decode cX1_teamsWithFewerPoints 28 = .ok (.if_icmp .ge 6, 3) := by decide +kernel
theorem dX1_teamsWithFewerPoints_31 : decode cX1_teamsWithFewerPoints 31 = .ok (.iinc 2 1, 3) := by decide +kernel
theorem dX1_teamsWithFewerPoints_34 : decode cX1_teamsWithFewerPoints 34 = .ok (.iinc 3 1, 3) := by decide +kernel
theorem dX1_teamsWithFewerPoints_37 : decode cX1_teamsWithFewerPoints 37 = .ok (.goto (-33), 3) := by decide +kernel
theorem dX1_teamsWithFewerPoints_40 : decode cX1_teamsWithFewerPoints 40 = .ok (.iload_n 2, 1) := by decide +kernel
theorem dX1_teamsWithFewerPoints_41 : decode cX1_teamsWithFewerPoints 41 = .ok (.ireturn, 1) := by decide +kernel
set_option maxRecDepth 20000 in
theorem ggX1_teamsAheadOf_X1_isAhead : GoodIn wsX1_teamsAheadOf wsX1_isAhead := goodIn_r _ [6, 7, 8, 9, 10, 11, 12, 13, 14, 15, 16, 17, 18, 19, 20, 21, 22, 23, 24, 25, 26, 27, 28, 29, 30, 31, 32] (by decide +kernel) (by decide +kernel)
set_option maxRecDepth 20000 in
theorem gX1_teamsAheadOf_X1_isAhead : GoodIn wsX1_teamsAheadOf (wsV RX1 218 RX1 yX1_isAhead wsX1_isAhead) := goodIn_app (goodIn_of _ (by decide +kernel)) ggX1_teamsAheadOf_X1_isAhead
theorem dX1_teamsAheadOf_0 : decode cX1_teamsAheadOf 0 = .ok (.iconst 0, 1) := by decide +kernel
theorem dX1_teamsAheadOf_1 : decode cX1_teamsAheadOf 1 = .ok (.istore_n 2, 1) := by decide +kernel
theorem dX1_teamsAheadOf_2 : decode cX1_teamsAheadOf 2 = .ok (.iconst 0, 1) := by decide +kernel
theorem dX1_teamsAheadOf_3 : decode cX1_teamsAheadOf 3 = .ok (.istore_n 3, 1) := by decide +kernel
theorem dX1_teamsAheadOf_4 : decode cX1_teamsAheadOf 4 = .ok (.iload_n 3, 1) := by decide +kernel
theorem dX1_teamsAheadOf_5 : decode cX1_teamsAheadOf 5 = .ok (.aload_n 0, 1) := by decide +kernel
theorem dX1_teamsAheadOf_6 : decode cX1_teamsAheadOf 6 = .ok (.getfield 43, 3) := by decide +kernel
theorem dX1_teamsAheadOf_9 : decode cX1_teamsAheadOf 9 = .ok (.if_icmp .ge 21, 3) := by decide +kernel
theorem dX1_teamsAheadOf_12 : decode cX1_teamsAheadOf 12 = .ok (.aload_n 0, 1) := by decide +kernel
theorem dX1_teamsAheadOf_13 : decode cX1_teamsAheadOf 13 = .ok (.iload_n 3, 1) := by decide +kernel
theorem dX1_teamsAheadOf_14 : decode cX1_teamsAheadOf 14 = .ok (.iload_n 1, 1) := by decide +kernel
theorem dX1_teamsAheadOf_15 : decode cX1_teamsAheadOf 15 = .ok (.invokevirtual 218, 3) := by decide +kernel
theorem dX1_teamsAheadOf_18 : decode cX1_teamsAheadOf 18 = .ok (.ifCond .eq 6, 3) := by decide +kernel
theorem dX1_teamsAheadOf_21 : decode cX1_teamsAheadOf 21 = .ok (.iinc 2 1, 3) := by decide +kernel
theorem dX1_teamsAheadOf_24 : decode cX1_teamsAheadOf 24 = .ok (.iinc 3 1, 3) := by decide +kernel
theorem dX1_teamsAheadOf_27 : decode cX1_teamsAheadOf 27 = .ok (.goto (-23), 3) := by decide +kernel
theorem dX1_teamsAheadOf_30 : decode cX1_teamsAheadOf 30 = .ok (.iload_n 2, 1) := by decide +kernel
theorem dX1_teamsAheadOf_31 : decode cX1_teamsAheadOf 31 = .ok (.ireturn, 1) := by decide +kernel
set_option maxRecDepth 20000 in
theorem ggX1_isAhead_X0_pointsOf : GoodIn wsX1_isAhead wsX0_pointsOf := goodIn_r _ [7, 8, 18, 19, 20, 21, 22, 23, 24, 25, 26] (by decide +kernel) (by decide +kernel)
set_option maxRecDepth 20000 in
theorem gX1_isAhead_X0_pointsOf : GoodIn wsX1_isAhead (wsV RX1 119 RX0 yX0_pointsOf wsX0_pointsOf) := goodIn_app (goodIn_of _ (by decide +kernel)) ggX1_isAhead_X0_pointsOf
theorem dX1_isAhead_0 : decode cX1_isAhead 0 = .ok (.aload_n 0, 1) := by decide +kernel
theorem dX1_isAhead_1 : decode cX1_isAhead 1 = .ok (.getfield 37, 3) := by decide +kernel
theorem dX1_isAhead_4 : decode cX1_isAhead 4 = .ok (.iload_n 1, 1) := by decide +kernel
theorem dX1_isAhead_5 : decode cX1_isAhead 5 = .ok (.iaload, 1) := by decide +kernel
theorem dX1_isAhead_6 : decode cX1_isAhead 6 = .ok (.aload_n 0, 1) := by decide +kernel
theorem dX1_isAhead_7 : decode cX1_isAhead 7 = .ok (.getfield 37, 3) := by decide +kernel
theorem dX1_isAhead_10 : decode cX1_isAhead 10 = .ok (.iload_n 2, 1) := by decide +kernel
theorem dX1_isAhead_11 : decode cX1_isAhead 11 = .ok (.iaload, 1) := by decide +kernel
theorem dX1_isAhead_12 : decode cX1_isAhead 12 = .ok (.if_icmp .eq 24, 3) := by decide +kernel
theorem dX1_isAhead_15 : decode cX1_isAhead 15 = .ok (.aload_n 0, 1) := by decide +kernel
theorem dX1_isAhead_16 : decode cX1_isAhead 16 = .ok (.getfield 37, 3) := by decide +kernel
theorem dX1_isAhead_19 : decode cX1_isAhead 19 = .ok (.iload_n 1, 1) := by decide +kernel
theorem dX1_isAhead_20 : decode cX1_isAhead 20 = .ok (.iaload, 1) := by decide +kernel
theorem dX1_isAhead_21 : decode cX1_isAhead 21 = .ok (.aload_n 0, 1) := by decide +kernel
theorem dX1_isAhead_22 : decode cX1_isAhead 22 = .ok (.getfield 37, 3) := by decide +kernel
theorem dX1_isAhead_25 : decode cX1_isAhead 25 = .ok (.iload_n 2, 1) := by decide +kernel
theorem dX1_isAhead_26 : decode cX1_isAhead 26 = .ok (.iaload, 1) := by decide +kernel
theorem dX1_isAhead_27 : decode cX1_isAhead 27 = .ok (.if_icmp .le 7, 3) := by decide +kernel
theorem dX1_isAhead_30 : decode cX1_isAhead 30 = .ok (.iconst 1, 1) := by decide +kernel
theorem dX1_isAhead_31 : decode cX1_isAhead 31 = .ok (.goto 4, 3) := by decide +kernel
theorem dX1_isAhead_34 : decode cX1_isAhead 34 = .ok (.iconst 0, 1) := by decide +kernel
theorem dX1_isAhead_35 : decode cX1_isAhead 35 = .ok (.ireturn, 1) := by decide +kernel
theorem dX1_isAhead_36 : decode cX1_isAhead 36 = .ok (.aload_n 0, 1) := by decide +kernel
theorem dX1_isAhead_37 : decode cX1_isAhead 37 = .ok (.getfield 10, 3) := by decide +kernel
theorem dX1_isAhead_40 : decode cX1_isAhead 40 = .ok (.iload_n 1, 1) := by decide +kernel
theorem dX1_isAhead_41 : decode cX1_isAhead 41 = .ok (.invokevirtual 119, 3) := by decide +kernel
theorem dX1_isAhead_44 : decode cX1_isAhead 44 = .ok (.aload_n 0, 1) := by decide +kernel
theorem dX1_isAhead_45 : decode cX1_isAhead 45 = .ok (.getfield 10, 3) := by decide +kernel
theorem dX1_isAhead_48 : decode cX1_isAhead 48 = .ok (.iload_n 2, 1) := by decide +kernel
theorem dX1_isAhead_49 : decode cX1_isAhead 49 = .ok (.invokevirtual 119, 3) := by decide +kernel
theorem dX1_isAhead_52 : decode cX1_isAhead 52 = .ok (.if_icmp .eq 28, 3) := by decide +kernel
theorem dX1_isAhead_55 : decode cX1_isAhead 55 = .ok (.aload_n 0, 1) := by decide +kernel
theorem dX1_isAhead_56 : decode cX1_isAhead 56 = .ok (.getfield 10, 3) := by decide +kernel
theorem dX1_isAhead_59 : decode cX1_isAhead 59 = .ok (.iload_n 1, 1) := by decide +kernel
theorem dX1_isAhead_60 : decode cX1_isAhead 60 = .ok (.invokevirtual 119, 3) := by decide +kernel
theorem dX1_isAhead_63 : decode cX1_isAhead 63 = .ok (.aload_n 0, 1) := by decide +kernel
theorem dX1_isAhead_64 : decode cX1_isAhead 64 = .ok (.getfield 10, 3) := by decide +kernel
theorem dX1_isAhead_67 : decode cX1_isAhead 67 = .ok (.iload_n 2, 1) := by decide +kernel
theorem dX1_isAhead_68 : decode cX1_isAhead 68 = .ok (.invokevirtual 119, 3) := by decide +kernel
theorem dX1_isAhead_71 : decode cX1_isAhead 71 = .ok (.if_icmp .le 7, 3) := by decide +kernel
theorem dX1_isAhead_74 : decode cX1_isAhead 74 = .ok (.iconst 1, 1) := by decide +kernel
theorem dX1_isAhead_75 : decode cX1_isAhead 75 = .ok (.goto 4, 3) := by decide +kernel
theorem dX1_isAhead_78 : decode cX1_isAhead 78 = .ok (.iconst 0, 1) := by decide +kernel
theorem dX1_isAhead_79 : decode cX1_isAhead 79 = .ok (.ireturn, 1) := by decide +kernel
theorem dX1_isAhead_80 : decode cX1_isAhead 80 = .ok (.iload_n 1, 1) := by decide +kernel
theorem dX1_isAhead_81 : decode cX1_isAhead 81 = .ok (.iload_n 2, 1) := by decide +kernel
theorem dX1_isAhead_82 : decode cX1_isAhead 82 = .ok (.if_icmp .ge 7, 3) := by decide +kernel
theorem dX1_isAhead_85 : decode cX1_isAhead 85 = .ok (.iconst 1, 1) := by decide +kernel
theorem dX1_isAhead_86 : decode cX1_isAhead 86 = .ok (.goto 4, 3) := by decide +kernel
theorem dX1_isAhead_89 : decode cX1_isAhead 89 = .ok (.iconst 0, 1) := by decide +kernel
theorem dX1_isAhead_90 : decode cX1_isAhead 90 = .ok (.ireturn, 1) := by decide +kernel
theorem dX1_isOnBeach_0 : decode cX1_isOnBeach 0 = .ok (.iload_n 0, 1) := by decide +kernel
theorem dX1_isOnBeach_1 : decode cX1_isOnBeach 1 = .ok (.ifCond .lt 23, 3) := by decide +kernel
theorem dX1_isOnBeach_4 : decode cX1_isOnBeach 4 = .ok (.iload_n 0, 1) := by decide +kernel
theorem dX1_isOnBeach_5 : decode cX1_isOnBeach 5 = .ok (.bipush 12, 2) := by decide +kernel
theorem dX1_isOnBeach_7 : decode cX1_isOnBeach 7 = .ok (.if_icmp .ge 17, 3) := by decide +kernel
theorem dX1_isOnBeach_10 : decode cX1_isOnBeach 10 = .ok (.iload_n 1, 1) := by decide +kernel
theorem dX1_isOnBeach_11 : decode cX1_isOnBeach 11 = .ok (.ifCond .lt 13, 3) := by decide +kernel
theorem dX1_isOnBeach_14 : decode cX1_isOnBeach 14 = .ok (.iload_n 1, 1) := by decide +kernel
theorem dX1_isOnBeach_15 : decode cX1_isOnBeach 15 = .ok (.bipush 10, 2) := by decide +kernel
theorem dX1_isOnBeach_17 : decode cX1_isOnBeach 17 = .ok (.if_icmp .ge 7, 3) := by decide +kernel
theorem dX1_isOnBeach_20 : decode cX1_isOnBeach 20 = .ok (.iconst 1, 1) := by decide +kernel
theorem dX1_isOnBeach_21 : decode cX1_isOnBeach 21 = .ok (.goto 4, 3) := by decide +kernel
theorem dX1_isOnBeach_24 : decode cX1_isOnBeach 24 = .ok (.iconst 0, 1) := by decide +kernel
theorem dX1_isOnBeach_25 : decode cX1_isOnBeach 25 = .ok (.ireturn, 1) := by decide +kernel
theorem dX1_cellAt_0 : decode cX1_cellAt 0 = .ok (.iload_n 0, 1) := by decide +kernel
theorem dX1_cellAt_1 : decode cX1_cellAt 1 = .ok (.bipush 12, 2) := by decide +kernel
theorem dX1_cellAt_3 : decode cX1_cellAt 3 = .ok (.iload_n 1, 1) := by decide +kernel
theorem dX1_cellAt_4 : decode cX1_cellAt 4 = .ok (.imul, 1) := by decide +kernel
theorem dX1_cellAt_5 : decode cX1_cellAt 5 = .ok (.iadd, 1) := by decide +kernel
theorem dX1_cellAt_6 : decode cX1_cellAt 6 = .ok (.ireturn, 1) := by decide +kernel
theorem dX1_isInArea_0 : decode cX1_isInArea 0 = .ok (.iload_n 1, 1) := by decide +kernel
theorem dX1_isInArea_1 : decode cX1_isInArea 1 = .ok (.bipush 12, 2) := by decide +kernel
theorem dX1_isInArea_3 : decode cX1_isInArea 3 = .ok (.irem, 1) := by decide +kernel
theorem dX1_isInArea_4 : decode cX1_isInArea 4 = .ok (.iconst 3, 1) := by decide +kernel
theorem dX1_isInArea_5 : decode cX1_isInArea 5 = .ok (.idiv, 1) := by decide +kernel
theorem dX1_isInArea_6 : decode cX1_isInArea 6 = .ok (.iload_n 0, 1) := by decide +kernel
theorem dX1_isInArea_7 : decode cX1_isInArea 7 = .ok (.if_icmp .ne 7, 3) := by decide +kernel
theorem dX1_isInArea_10 : decode cX1_isInArea 10 = .ok (.iconst 1, 1) := by decide +kernel
theorem dX1_isInArea_11 : decode cX1_isInArea 11 = .ok (.goto 4, 3) := by decide +kernel
theorem dX1_isInArea_14 : decode cX1_isInArea 14 = .ok (.iconst 0, 1) := by decide +kernel
theorem dX1_isInArea_15 : decode cX1_isInArea 15 = .ok (.ireturn, 1) := by decide +kernel
theorem dX1_requireTeam_0 : decode cX1_requireTeam 0 = .ok (.iload_n 1, 1) := by decide +kernel
theorem dX1_requireTeam_1 : decode cX1_requireTeam 1 = .ok (.ifCond .lt 11, 3) := by decide +kernel
theorem dX1_requireTeam_4 : decode cX1_requireTeam 4 = .ok (.iload_n 1, 1) := by decide +kernel
theorem dX1_requireTeam_5 : decode cX1_requireTeam 5 = .ok (.aload_n 0, 1) := by decide +kernel
theorem dX1_requireTeam_6 : decode cX1_requireTeam 6 = .ok (.getfield 43, 3) := by decide +kernel
theorem dX1_requireTeam_9 : decode cX1_requireTeam 9 = .ok (.if_icmp .lt 13, 3) := by decide +kernel
theorem dX1_requireTeam_12 : decode cX1_requireTeam 12 = .ok (.new 54, 3) := by decide +kernel
theorem dX1_requireTeam_15 : decode cX1_requireTeam 15 = .ok (.dup, 1) := by decide +kernel
theorem dX1_requireTeam_16 : decode cX1_requireTeam 16 = .ok (.ldc 221, 2) := by decide +kernel
theorem dX1_requireTeam_18 : decode cX1_requireTeam 18 = .ok (.invokespecial 58, 3) := by decide +kernel
theorem dX1_requireTeam_21 : decode cX1_requireTeam 21 = .ok (.athrow, 1) := by decide +kernel
theorem dX1_requireTeam_22 : decode cX1_requireTeam 22 = .ok (.return_, 1) := by decide +kernel
set_option maxRecDepth 20000 in
theorem ggX1_requireCell_X1_isOnBeach : GoodIn wsX1_requireCell wsX1_isOnBeach := goodIn_r _ [6] (by decide +kernel) (by decide +kernel)
set_option maxRecDepth 20000 in
theorem gX1_requireCell_X1_isOnBeach : GoodIn wsX1_requireCell (va_wsS RX1 223 yX1_isOnBeach wsX1_isOnBeach) := goodIn_app (goodIn_of _ (by decide +kernel)) ggX1_requireCell_X1_isOnBeach
theorem dX1_requireCell_0 : decode cX1_requireCell 0 = .ok (.iload_n 0, 1) := by decide +kernel
theorem dX1_requireCell_1 : decode cX1_requireCell 1 = .ok (.iload_n 1, 1) := by decide +kernel
theorem dX1_requireCell_2 : decode cX1_requireCell 2 = .ok (.invokestatic 223, 3) := by decide +kernel
theorem dX1_requireCell_5 : decode cX1_requireCell 5 = .ok (.ifCond .ne 13, 3) := by decide +kernel
theorem dX1_requireCell_8 : decode cX1_requireCell 8 = .ok (.new 54, 3) := by decide +kernel
theorem dX1_requireCell_11 : decode cX1_requireCell 11 = .ok (.dup, 1) := by decide +kernel
theorem dX1_requireCell_12 : decode cX1_requireCell 12 = .ok (.ldc 226, 2) := by decide +kernel
theorem dX1_requireCell_14 : decode cX1_requireCell 14 = .ok (.invokespecial 58, 3) := by decide +kernel
theorem dX1_requireCell_17 : decode cX1_requireCell 17 = .ok (.athrow, 1) := by decide +kernel
theorem dX1_requireCell_18 : decode cX1_requireCell 18 = .ok (.return_, 1) := by decide +kernel
theorem dX1_requireWhat_0 : decode cX1_requireWhat 0 = .ok (.iload_n 0, 1) := by decide +kernel
theorem dX1_requireWhat_1 : decode cX1_requireWhat 1 = .ok (.ifCond .lt 8, 3) := by decide +kernel
theorem dX1_requireWhat_4 : decode cX1_requireWhat 4 = .ok (.iload_n 0, 1) := by decide +kernel
theorem dX1_requireWhat_5 : decode cX1_requireWhat 5 = .ok (.iload_n 1, 1) := by decide +kernel
theorem dX1_requireWhat_6 : decode cX1_requireWhat 6 = .ok (.if_icmp .lt 13, 3) := by decide +kernel
theorem dX1_requireWhat_9 : decode cX1_requireWhat 9 = .ok (.new 54, 3) := by decide +kernel
theorem dX1_requireWhat_12 : decode cX1_requireWhat 12 = .ok (.dup, 1) := by decide +kernel
theorem dX1_requireWhat_13 : decode cX1_requireWhat 13 = .ok (.ldc 228, 2) := by decide +kernel
theorem dX1_requireWhat_15 : decode cX1_requireWhat 15 = .ok (.invokespecial 58, 3) := by decide +kernel
theorem dX1_requireWhat_18 : decode cX1_requireWhat 18 = .ok (.athrow, 1) := by decide +kernel
theorem dX1_requireWhat_19 : decode cX1_requireWhat 19 = .ok (.return_, 1) := by decide +kernel
set_option maxRecDepth 20000 in
theorem ggX1_requireArea_X1_isOnBeach : GoodIn wsX1_requireArea wsX1_isOnBeach := goodIn_r _ [6] (by decide +kernel) (by decide +kernel)
set_option maxRecDepth 20000 in
theorem gX1_requireArea_X1_isOnBeach : GoodIn wsX1_requireArea (va_wsS RX1 223 yX1_isOnBeach wsX1_isOnBeach) := goodIn_app (goodIn_of _ (by decide +kernel)) ggX1_requireArea_X1_isOnBeach
set_option maxRecDepth 20000 in
theorem ggX1_requireArea_X1_cellAt : GoodIn wsX1_requireArea wsX1_cellAt := goodIn_r _ [9] (by decide +kernel) (by decide +kernel)
set_option maxRecDepth 20000 in
theorem gX1_requireArea_X1_cellAt : GoodIn wsX1_requireArea (va_wsS RX1 76 yX1_cellAt wsX1_cellAt) := goodIn_app (goodIn_of _ (by decide +kernel)) ggX1_requireArea_X1_cellAt
set_option maxRecDepth 20000 in
theorem ggX1_requireArea_X1_isInArea : GoodIn wsX1_requireArea wsX1_isInArea := goodIn_r _ [12] (by decide +kernel) (by decide +kernel)
set_option maxRecDepth 20000 in
theorem gX1_requireArea_X1_isInArea : GoodIn wsX1_requireArea (va_wsS RX1 190 yX1_isInArea wsX1_isInArea) := goodIn_app (goodIn_of _ (by decide +kernel)) ggX1_requireArea_X1_isInArea
theorem dX1_requireArea_0 : decode cX1_requireArea 0 = .ok (.iload_n 1, 1) := by decide +kernel
theorem dX1_requireArea_1 : decode cX1_requireArea 1 = .ok (.iload_n 2, 1) := by decide +kernel
theorem dX1_requireArea_2 : decode cX1_requireArea 2 = .ok (.invokestatic 223, 3) := by decide +kernel
theorem dX1_requireArea_5 : decode cX1_requireArea 5 = .ok (.ifCond .eq 15, 3) := by decide +kernel
theorem dX1_requireArea_8 : decode cX1_requireArea 8 = .ok (.iload_n 0, 1) := by decide +kernel
theorem dX1_requireArea_9 : decode cX1_requireArea 9 = .ok (.iload_n 1, 1) := by decide +kernel
theorem dX1_requireArea_10 : decode cX1_requireArea 10 = .ok (.iload_n 2, 1) := by decide +kernel
theorem dX1_requireArea_11 : decode cX1_requireArea 11 = .ok (.invokestatic 76, 3) := by decide +kernel
theorem dX1_requireArea_14 : decode cX1_requireArea 14 = .ok (.invokestatic 190, 3) := by decide +kernel
theorem dX1_requireArea_17 : decode cX1_requireArea 17 = .ok (.ifCond .ne 13, 3) := by decide +kernel
theorem dX1_requireArea_20 : decode cX1_requireArea 20 = .ok (.new 230, 3) := by decide +kernel
theorem dX1_requireArea_23 : decode cX1_requireArea 23 = .ok (.dup, 1) := by decide +kernel
theorem dX1_requireArea_24 : decode cX1_requireArea 24 = .ok (.ldc 232, 2) := by decide +kernel
theorem dX1_requireArea_26 : decode cX1_requireArea 26 = .ok (.invokespecial 234, 3) := by decide +kernel
theorem dX1_requireArea_29 : decode cX1_requireArea 29 = .ok (.athrow, 1) := by decide +kernel
theorem dX1_requireArea_30 : decode cX1_requireArea 30 = .ok (.return_, 1) := by decide +kernel
theorem dX1_requireAmount_0 : decode cX1_requireAmount 0 = .ok (.iload_n 0, 1) := by decide +kernel
theorem dX1_requireAmount_1 : decode cX1_requireAmount 1 = .ok (.iconst 1, 1) := by decide +kernel
theorem dX1_requireAmount_2 : decode cX1_requireAmount 2 = .ok (.if_icmp .lt 8, 3) := by decide +kernel
theorem dX1_requireAmount_5 : decode cX1_requireAmount 5 = .ok (.iload_n 0, 1) := by decide +kernel
theorem dX1_requireAmount_6 : decode cX1_requireAmount 6 = .ok (.iconst 5, 1) := by decide +kernel
theorem dX1_requireAmount_7 : decode cX1_requireAmount 7 = .ok (.if_icmp .le 13, 3) := by decide +kernel
theorem dX1_requireAmount_10 : decode cX1_requireAmount 10 = .ok (.new 230, 3) := by decide +kernel
theorem dX1_requireAmount_13 : decode cX1_requireAmount 13 = .ok (.dup, 1) := by decide +kernel
theorem dX1_requireAmount_14 : decode cX1_requireAmount 14 = .ok (.ldc 235, 2) := by decide +kernel
theorem dX1_requireAmount_16 : decode cX1_requireAmount 16 = .ok (.invokespecial 234, 3) := by decide +kernel
theorem dX1_requireAmount_19 : decode cX1_requireAmount 19 = .ok (.athrow, 1) := by decide +kernel
theorem dX1_requireAmount_20 : decode cX1_requireAmount 20 = .ok (.return_, 1) := by decide +kernel
theorem dX1_requireLevel_0 : decode cX1_requireLevel 0 = .ok (.iload_n 0, 1) := by decide +kernel
theorem dX1_requireLevel_1 : decode cX1_requireLevel 1 = .ok (.ifCond .lt 9, 3) := by decide +kernel
theorem dX1_requireLevel_4 : decode cX1_requireLevel 4 = .ok (.iload_n 0, 1) := by decide +kernel
theorem dX1_requireLevel_5 : decode cX1_requireLevel 5 = .ok (.bipush 30, 2) := by decide +kernel
theorem dX1_requireLevel_7 : decode cX1_requireLevel 7 = .ok (.if_icmp .le 13, 3) := by decide +kernel
theorem dX1_requireLevel_10 : decode cX1_requireLevel 10 = .ok (.new 230, 3) := by decide +kernel
theorem dX1_requireLevel_13 : decode cX1_requireLevel 13 = .ok (.dup, 1) := by decide +kernel
theorem dX1_requireLevel_14 : decode cX1_requireLevel 14 = .ok (.ldc 237, 2) := by decide +kernel
theorem dX1_requireLevel_16 : decode cX1_requireLevel 16 = .ok (.invokespecial 234, 3) := by decide +kernel
theorem dX1_requireLevel_19 : decode cX1_requireLevel 19 = .ok (.athrow, 1) := by decide +kernel
theorem dX1_requireLevel_20 : decode cX1_requireLevel 20 = .ok (.return_, 1) := by decide +kernel
theorem dX1_requireHours_0 : decode cX1_requireHours 0 = .ok (.iload_n 0, 1) := by decide +kernel
theorem dX1_requireHours_1 : decode cX1_requireHours 1 = .ok (.iconst 1, 1) := by decide +kernel
theorem dX1_requireHours_2 : decode cX1_requireHours 2 = .ok (.if_icmp .lt 8, 3) := by decide +kernel
theorem dX1_requireHours_5 : decode cX1_requireHours 5 = .ok (.iload_n 0, 1) := by decide +kernel
theorem dX1_requireHours_6 : decode cX1_requireHours 6 = .ok (.iload_n 1, 1) := by decide +kernel
theorem dX1_requireHours_7 : decode cX1_requireHours 7 = .ok (.if_icmp .le 13, 3) := by decide +kernel
theorem dX1_requireHours_10 : decode cX1_requireHours 10 = .ok (.new 230, 3) := by decide +kernel
theorem dX1_requireHours_13 : decode cX1_requireHours 13 = .ok (.dup, 1) := by decide +kernel
theorem dX1_requireHours_14 : decode cX1_requireHours 14 = .ok (.ldc 239, 2) := by decide +kernel
theorem dX1_requireHours_16 : decode cX1_requireHours 16 = .ok (.invokespecial 234, 3) := by decide +kernel
theorem dX1_requireHours_19 : decode cX1_requireHours 19 = .ok (.athrow, 1) := by decide +kernel
theorem dX1_requireHours_20 : decode cX1_requireHours 20 = .ok (.return_, 1) := by decide +kernel
theorem dX1_requireStrength_0 : decode cX1_requireStrength 0 = .ok (.aload_n 0, 1) := by decide +kernel
theorem dX1_requireStrength_1 : decode cX1_requireStrength 1 = .ok (.getfield 34, 3) := by decide +kernel
theorem dX1_requireStrength_4 : decode cX1_requireStrength 4 = .ok (.iload_n 1, 1) := by decide +kernel
theorem dX1_requireStrength_5 : decode cX1_requireStrength 5 = .ok (.iaload, 1) := by decide +kernel
theorem dX1_requireStrength_6 : decode cX1_requireStrength 6 = .ok (.ifCond .gt 13, 3) := by decide +kernel
theorem dX1_requireStrength_9 : decode cX1_requireStrength 9 = .ok (.new 47, 3) := by decide +kernel
theorem dX1_requireStrength_12 : decode cX1_requireStrength 12 = .ok (.dup, 1) := by decide +kernel
theorem dX1_requireStrength_13 : decode cX1_requireStrength 13 = .ok (.ldc 241, 2) := by decide +kernel
theorem dX1_requireStrength_15 : decode cX1_requireStrength 15 = .ok (.invokespecial 51, 3) := by decide +kernel
theorem dX1_requireStrength_18 : decode cX1_requireStrength 18 = .ok (.athrow, 1) := by decide +kernel
theorem dX1_requireStrength_19 : decode cX1_requireStrength 19 = .ok (.return_, 1) := by decide +kernel
end
section
/-! methods that may throw -/
def zEx : List String := ["java/lang/RuntimeException", "java/lang/Exception"]
def zStr : List (Nat × String) := [(49, "there are 4 teams"), (56, "the hour is not 0 to 11"), (98, "3 sticks of the team stand"), (104, "there is a stick on the cell, or it is under water"), (172, "there are not so many teams"), (221, "there is no such team"), (226, "there is no such cell"), (228, "there is no such number to tell"), (232, "the cell is not in the area of the team"), (235, "n is not 1 to 5"), (237, "the level is not 0 to 30"), (239, "so many hours are not allowed"), (241, "the team has no strength left")]
/-- what a throw needs of the start -/
def zXT (A : Nat → Prop) (U : State) (H : Heap) : Prop := (∀ q ∈ zStr, ∃ a, vk_R RX1 q.1 q.2 a U) ∧ vx_Zq Bundle.tN "UNASSIGNED_STACK" Bundle.steD A U H ∧ vx_Zq Bundle.tN "SUPPRESSED_SENTINEL" Bundle.listD A U H
def zXU (w0 : va_W) (sz : Nat) : State → Prop := fun U => zXT (va_A w0 sz) U U.heap
theorem zXT.same {A : Nat → Prop} {u U : State} {H : Heap} (h : u.vm = U.vm) (hX : zXT A u H) : zXT A U H := ⟨fun q hq => by obtain ⟨a, ha⟩ := hX.1 q hq; exact ⟨a, vk_R.same h.symm ha⟩, vx_Zq.moved (by rw [h]; exact Vm.Alike.refl _) hX.2.1, vx_Zq.moved (by rw [h]; exact Vm.Alike.refl _) hX.2.2⟩
theorem zXT.call {A B : Nat → Prop} {s U : State} {H : Heap} {locs : List Loc} (hW : s.WarmedH U.vm) (hS : va_S A s.heap H locs) (hAB : ∀ q, B q → A q) (hX : zXT A s s.heap) : zXT B U H :=
  ⟨fun q hq => by obtain ⟨a, ha⟩ := hX.1 q hq; exact ⟨a, vk_R.warm hW ha⟩, vx_Zq.moved hW.alike ((hX.2.1.kept (fun a h1 h2 => hS.2.1 a h1 h2)).narrow hAB), vx_Zq.moved hW.alike ((hX.2.2.kept (fun a h1 h2 => hS.2.1 a h1 h2)).narrow hAB)⟩
def zBX (D : va_G) (g : Nat → ClassId) (w0 : va_W) (sz : Nat) (postx : String → Prop) : String → Unit → State → Prop := fun Ex _ t => postx Ex ∧ va_P D vwCl w0 t.heap ∧ va_K D vwCl (zT g) t ∧ va_D (va_A w0 sz) w0
def zXC (D : va_G) (g : Nat → ClassId) (w0 : va_W) (postx : String → Prop) (sz : Nat) : String → State → State → Prop := vx_X (fun _ : Unit => True) (zBX D g w0 sz postx) (va_A w0 sz)
def ZXi {S : Type} (l : Launch) (y : MethodName) (wsY : List Cond) (rm : Room) (D : va_G) (g : Nat → ClassId) (av : List Value) (w0 : va_W) (post : Int → S → Prop) (w1 : S → va_W) (postx : String → Prop) (mc ms : Nat) : Prop :=
  ∀ sz : Nat, vx_Met l y wsY rm (zPc D g av w0 (zXU w0 sz) sz) (va_Qi (fun r u => ∃ z, r = iI z ∧ post z u) (zB D g w0 sz w1) (va_A w0 sz)) (zXC D g w0 postx sz) mc ms (va_A w0 sz)
def ZXv {S : Type} (l : Launch) (y : MethodName) (wsY : List Cond) (rm : Room) (D : va_G) (g : Nat → ClassId) (av : List Value) (w0 : va_W) (post : S → Prop) (w1 : S → va_W) (postx : String → Prop) (mc ms : Nat) : Prop :=
  ∀ sz : Nat, vx_Met l y wsY rm (zPc D g av w0 (zXU w0 sz) sz) (va_Qv post (zB D g w0 sz w1) (va_A w0 sz)) (zXC D g w0 postx sz) mc ms (va_A w0 sz)
def ZXl {S : Type} (l : Launch) (y : MethodName) (wsY : List Cond) (rm : Room) (D : va_G) (g : Nat → ClassId) (av : List Value) (w0 : va_W) (post : Int64 → S → Prop) (w1 : S → va_W) (postx : String → Prop) (mc ms : Nat) : Prop :=
  ∀ sz : Nat, vx_Met l y wsY rm (zPc D g av w0 (zXU w0 sz) sz) (va_Ql post (zB D g w0 sz w1) (va_A w0 sz)) (zXC D g w0 postx sz) mc ms (va_A w0 sz)
theorem zPc_blindX {D : va_G} {g : Nat → ClassId} {av : List Value} {w0 : va_W} {sz : Nat} : FrameBlind (zPc D g av w0 (zXU w0 sz) sz) := fun a U g9 mk q => by
  obtain ⟨q0, q1, qP, qK, qD, qN, qX⟩ := q
  exact ⟨q0, q1, qP, va_K.moved (u := U) (U := U.calling g9 mk a) (Vm.Alike.refl U.vm) qK, qD, zNs.same (u := U) (U := U.calling g9 mk a) rfl qN, zXT.same (u := U) (U := U.calling g9 mk a) rfl qX⟩
/-- the start's facts for throws -/
def ZXt (E : ZE) : Prop := match E with
  | (_, _, _, _, s, _, _, _, _, _, _, A, _, _, _) => zXT A s s.heap
/-- an exception of such a class goes its way from here -/
def ZThr (E : ZE) (ws : va_W) (lv : List (Nat × Value)) (k n pc : Nat) (rest : List Value) (px : String → Prop) : Prop := match E with
  | (p, l, e, R, s, m, args, below, meth, c, Q, A, D, _, nL) => ∀ (Ex : String) (ce : Cell) (q9 : Addr) (H : Heap) (locs : List Loc) (ls : Array Slot), px Ex → va_P D vwCl ws H → va_D A ws → va_S A s.heap H locs → lv_has ls nL lv → H[q9]? = some ce → ce.vm = .none → s.vm.findClass Ex = some ce.cls → vx_W p l e R s m args below meth c H locs k n Q (F0 m pc ls rest) q9
/-- a throw of 'new Ex("text")' from here -/
def ZNew (E : ZE) (cc : ByteArray) (wsY : List Cond) (w0 : va_W) (rm : Room) (postx : String → Prop) (mc ms : Nat) : Prop := ∀ {pc k n ik is ic : Nat} {lv : List (Nat × Value)} {st : List Value} {cls text : String},
  Bundle.fit cls = true → Cond.classLink RX1 ik cls ∈ wsY → Cond.initialized cls ∈ wsY → (is, text) ∈ zStr → (∀ w ∈ (vx_atS RX1 ic cls zEx).filter goodWord, w ∈ wsY) → (∀ w ∈ (vx_atS RX1 ic cls zEx).filter (fun w => !goodWord w), w ∈ zNest) → (∀ w ∈ Cond.classLink RX1 ik cls :: Cond.initialized cls :: vx_atS RX1 ic cls zEx, vx_ot w = true) →
  decode cc pc = .ok (.new ik, 3) → decode cc (pc + 3) = .ok (.dup, 1) → decode cc (pc + 4) = .ok (.ldc is, 2) → decode cc (pc + 6) = .ok (.invokespecial ic, 3) → decode cc (pc + 9) = .ok (.athrow, 1) →
  5 < rm.frames → (st.map fun v => v.category).sum + 82 ≤ rm.locals → k + 1 ≤ rm.cells → n + 6 ≤ rm.slots → k + 1 ≤ mc → n + 6 ≤ ms → postx cls → Z E w0 lv k n pc st
/-- a cell that stands in a heap stands in one that keeps it -/
theorem va_at_keep {D : va_G} {cl : List vw_C} {q : Nat × va_E} {H H1 : Heap} (h : va_at D cl q H) (hk : ∀ a : Nat, a < H.size → H1[a]? = H[a]?) : va_at D cl q H1 := h.kept (hk q.1 h.lt)
theorem ZXi.of {S : Type} {l : Launch} (hlf : l.stackTraces = false) {y : MethodName} {wsY ws' : List Cond} {rm : Room} {D : va_G} {g : Nat → ClassId} {av : List Value} {w0 : va_W} {post : Int → S → Prop} {w1 : S → va_W} {postx : String → Prop} {mc ms : Nat} (cc : ByteArray) (maxL : Nat) {ty : FieldType} (lv0 : List (Nat × Value)) (hy : plainName y.cls = true) (hw : wsY = Cond.code y cc maxL (some ty) :: ws') (hlen : (lg_sl av).length ≤ maxL) (hlv : lv_args 0 av = lv0) (hown : y.cls = RX1)
    (body : ∀ E : ZE, ZC E cc RX1 wsY rm maxL D g l → ZNst E → ZXt E → (∀ {pc : Nat} {lv : List (Nat × Value)} {z : Int} (u : S), decode cc pc = .ok (.ireturn, 1) → narrow ty (.int (iI z)) = .int (iI z) → post z u → Z E (w1 u) lv mc ms pc [.int (iI z)]) → ZNew E cc wsY w0 rm postx mc ms → (∀ {pc k n : Nat} {lv : List (Nat × Value)} {rest : List Value} {px : String → Prop}, k ≤ mc → n ≤ ms → (∀ Ex, px Ex → postx Ex) → ZThr E w0 lv k n pc rest px) → Z E w0 lv0 0 0 0 []) : ZXi l y wsY rm D g av w0 post w1 postx mc ms := by
  intro sz
  refine vx_ofW (cc := cc) (maxL := maxL) (ret := some ty) hy hw ?_
  intro p e s m args below meth c s₁ B hml hnoh hv
  obtain ⟨rfl, hsz, hP, hK, hD0, hN, hX⟩ := hv
  subst hsz
  have hE := body (p, l, e, (headSpec wsY rm).room, s, m, av.toArray, below, meth, c, vx_MQ below (va_Qi (fun r u => ∃ z, r = iI z ∧ post z u) (zB D g w0 s.heap.size w1) (va_A w0 s.heap.size)) (zXC D g w0 postx s.heap.size) av.toArray s mc ms (va_A w0 s.heap.size), va_A w0 s.heap.size, D, g, maxL) ⟨B.exec, B.bytes, hml, rfl, rfl, rfl, rfl, rfl, by rw [← hown]; exact findClass_of_methodNamed B.named, atoms_spec B.pre, hK, fun q h => Or.inr h⟩ hN hX ?_ ?_ ?_
  · have hl := lv_entry av (n := maxL) hlen
    rw [lg_entry_eq]
    exact hE s.heap [] _ hP hD0.self va_S.rf (by rw [← hlv]; exact hl)
  · intro pc lv z u hd hn hp
    intro H locs ls hP hD hS hl
    refine vx_ret ?_
    exact W.zret (v := iI z) B.exec B.bytes B.returns hn (fun t ht hW => ⟨⟨iI z, u, rfl, ⟨z, rfl, hp⟩, ⟨by rw [ht]; exact hP, va_K.moved hW.alike hK, hD⟩⟩, hS.F ht⟩) hS.2.2 hd B.notSynchronized
  · intro pc k n ik is ic lv st cls text hfit hk hini hstr hat1 hat2 hgood d0 d3 d4 d6 d9 hfr hlo hkc hns hkm hnm hpx
    intro H locs ls hP hD hS hl
    have hts := atoms_spec (ws := wsY) B.pre
    obtain ⟨sa, hsa⟩ := hX.1 _ hstr
    have h3 : ∀ w ∈ zNest, w.before av.toArray s = true := fun w hw => va_Nw.use (by revert w; decide +kernel) (hN.1 w hw)
    exact vx_throwS (own := RX1) (cls := cls) (text := text) (names := zEx) (sa := sa) B.exec B.bytes hlf (by rw [← hown]; exact findClass_of_methodNamed B.named) hfit (by decide +kernel) (hts _ hk) (hts _ hini) hsa (vx_hat (fun w hw => hts w (hat1 w hw)) hat2 h3) hgood hX.2.1 hX.2.2 hS (hl.1.trans hml.symm) d0 d3 d4 d6 d9 (fun x hx => (hnoh x hx).elim) hfr hlo hkc hns B.notSynchronized
      (fun t hal hsz hk9 => ⟨(), trivial, ⟨hpx, fun i q hq => by
        have h9 := hP i q hq
        exact va_at_keep h9 (fun a ha => hk9 a ha), va_K.moved hal hK, hD⟩, ⟨Nat.le_trans hS.1 hsz, fun q h1 h2 => by rw [hk9 q (Nat.lt_of_lt_of_le h1 hS.1)]; exact hS.2.1 q h1 h2⟩⟩) hS.2.2 hkm hnm
  · intro pc k n lv rest px hkm hnm hpx
    intro Ex ce q9 H locs ls hpe hP hD hS hl hce hcv hcl
    exact vx_out (fun x hx => (hnoh x hx).elim) B.notSynchronized hce hcv hcl (fun t ht hal => ⟨(), trivial, ⟨hpx Ex hpe, by rw [ht]; exact hP, va_K.moved hal hK, hD⟩, hS.F ht⟩) hS.2.2 hkm hnm
theorem ZXv.of {S : Type} {l : Launch} (hlf : l.stackTraces = false) {y : MethodName} {wsY ws' : List Cond} {rm : Room} {D : va_G} {g : Nat → ClassId} {av : List Value} {w0 : va_W} {post : S → Prop} {w1 : S → va_W} {postx : String → Prop} {mc ms : Nat} (cc : ByteArray) (maxL : Nat) {ty : FieldType} (lv0 : List (Nat × Value)) (hy : plainName y.cls = true) (hw : wsY = Cond.code y cc maxL (none) :: ws') (hlen : (lg_sl av).length ≤ maxL) (hlv : lv_args 0 av = lv0) (hown : y.cls = RX1)
    (body : ∀ E : ZE, ZC E cc RX1 wsY rm maxL D g l → ZNst E → ZXt E → (∀ {pc : Nat} {lv : List (Nat × Value)}  (u : S), decode cc pc = .ok (.return_, 1) → post u → Z E (w1 u) lv mc ms pc []) → ZNew E cc wsY w0 rm postx mc ms → (∀ {pc k n : Nat} {lv : List (Nat × Value)} {rest : List Value} {px : String → Prop}, k ≤ mc → n ≤ ms → (∀ Ex, px Ex → postx Ex) → ZThr E w0 lv k n pc rest px) → Z E w0 lv0 0 0 0 []) : ZXv l y wsY rm D g av w0 post w1 postx mc ms := by
  intro sz
  refine vx_ofW (cc := cc) (maxL := maxL) (ret := none) hy hw ?_
  intro p e s m args below meth c s₁ B hml hnoh hv
  obtain ⟨rfl, hsz, hP, hK, hD0, hN, hX⟩ := hv
  subst hsz
  have hE := body (p, l, e, (headSpec wsY rm).room, s, m, av.toArray, below, meth, c, vx_MQ below (va_Qv post (zB D g w0 s.heap.size w1) (va_A w0 s.heap.size)) (zXC D g w0 postx s.heap.size) av.toArray s mc ms (va_A w0 s.heap.size), va_A w0 s.heap.size, D, g, maxL) ⟨B.exec, B.bytes, hml, rfl, rfl, rfl, rfl, rfl, by rw [← hown]; exact findClass_of_methodNamed B.named, atoms_spec B.pre, hK, fun q h => Or.inr h⟩ hN hX ?_ ?_ ?_
  · have hl := lv_entry av (n := maxL) hlen
    rw [lg_entry_eq]
    exact hE s.heap [] _ hP hD0.self va_S.rf (by rw [← hlv]; exact hl)
  · intro pc lv u hd hp
    intro H locs ls hP hD hS hl
    refine vx_ret ?_
    exact W.vret B.exec B.bytes B.returns (fun t ht hW => ⟨⟨u, rfl, hp, ⟨by rw [ht]; exact hP, va_K.moved hW.alike hK, hD⟩⟩, hS.F ht⟩) hS.2.2 hd B.notSynchronized
  · intro pc k n ik is ic lv st cls text hfit hk hini hstr hat1 hat2 hgood d0 d3 d4 d6 d9 hfr hlo hkc hns hkm hnm hpx
    intro H locs ls hP hD hS hl
    have hts := atoms_spec (ws := wsY) B.pre
    obtain ⟨sa, hsa⟩ := hX.1 _ hstr
    have h3 : ∀ w ∈ zNest, w.before av.toArray s = true := fun w hw => va_Nw.use (by revert w; decide +kernel) (hN.1 w hw)
    exact vx_throwS (own := RX1) (cls := cls) (text := text) (names := zEx) (sa := sa) B.exec B.bytes hlf (by rw [← hown]; exact findClass_of_methodNamed B.named) hfit (by decide +kernel) (hts _ hk) (hts _ hini) hsa (vx_hat (fun w hw => hts w (hat1 w hw)) hat2 h3) hgood hX.2.1 hX.2.2 hS (hl.1.trans hml.symm) d0 d3 d4 d6 d9 (fun x hx => (hnoh x hx).elim) hfr hlo hkc hns B.notSynchronized
      (fun t hal hsz hk9 => ⟨(), trivial, ⟨hpx, fun i q hq => by
        have h9 := hP i q hq
        exact va_at_keep h9 (fun a ha => hk9 a ha), va_K.moved hal hK, hD⟩, ⟨Nat.le_trans hS.1 hsz, fun q h1 h2 => by rw [hk9 q (Nat.lt_of_lt_of_le h1 hS.1)]; exact hS.2.1 q h1 h2⟩⟩) hS.2.2 hkm hnm
  · intro pc k n lv rest px hkm hnm hpx
    intro Ex ce q9 H locs ls hpe hP hD hS hl hce hcv hcl
    exact vx_out (fun x hx => (hnoh x hx).elim) B.notSynchronized hce hcv hcl (fun t ht hal => ⟨(), trivial, ⟨hpx Ex hpe, by rw [ht]; exact hP, va_K.moved hal hK, hD⟩, hS.F ht⟩) hS.2.2 hkm hnm
theorem ZXl.of {S : Type} {l : Launch} (hlf : l.stackTraces = false) {y : MethodName} {wsY ws' : List Cond} {rm : Room} {D : va_G} {g : Nat → ClassId} {av : List Value} {w0 : va_W} {post : Int64 → S → Prop} {w1 : S → va_W} {postx : String → Prop} {mc ms : Nat} (cc : ByteArray) (maxL : Nat) {ty : FieldType} (lv0 : List (Nat × Value)) (hy : plainName y.cls = true) (hw : wsY = Cond.code y cc maxL (some .long) :: ws') (hlen : (lg_sl av).length ≤ maxL) (hlv : lv_args 0 av = lv0) (hown : y.cls = RX1)
    (body : ∀ E : ZE, ZC E cc RX1 wsY rm maxL D g l → ZNst E → ZXt E → (∀ {pc : Nat} {lv : List (Nat × Value)} {z : Int64} (u : S), decode cc pc = .ok (.lreturn, 1) → post z u → Z E (w1 u) lv mc ms pc [.long z]) → ZNew E cc wsY w0 rm postx mc ms → (∀ {pc k n : Nat} {lv : List (Nat × Value)} {rest : List Value} {px : String → Prop}, k ≤ mc → n ≤ ms → (∀ Ex, px Ex → postx Ex) → ZThr E w0 lv k n pc rest px) → Z E w0 lv0 0 0 0 []) : ZXl l y wsY rm D g av w0 post w1 postx mc ms := by
  intro sz
  refine vx_ofW (cc := cc) (maxL := maxL) (ret := some .long) hy hw ?_
  intro p e s m args below meth c s₁ B hml hnoh hv
  obtain ⟨rfl, hsz, hP, hK, hD0, hN, hX⟩ := hv
  subst hsz
  have hE := body (p, l, e, (headSpec wsY rm).room, s, m, av.toArray, below, meth, c, vx_MQ below (va_Ql post (zB D g w0 s.heap.size w1) (va_A w0 s.heap.size)) (zXC D g w0 postx s.heap.size) av.toArray s mc ms (va_A w0 s.heap.size), va_A w0 s.heap.size, D, g, maxL) ⟨B.exec, B.bytes, hml, rfl, rfl, rfl, rfl, rfl, by rw [← hown]; exact findClass_of_methodNamed B.named, atoms_spec B.pre, hK, fun q h => Or.inr h⟩ hN hX ?_ ?_ ?_
  · have hl := lv_entry av (n := maxL) hlen
    rw [lg_entry_eq]
    exact hE s.heap [] _ hP hD0.self va_S.rf (by rw [← hlv]; exact hl)
  · intro pc lv z u hd hp
    intro H locs ls hP hD hS hl
    refine vx_ret ?_
    exact W.lret (v := z) B.exec B.bytes B.returns (fun t ht hW => ⟨⟨z, u, rfl, hp, ⟨by rw [ht]; exact hP, va_K.moved hW.alike hK, hD⟩⟩, hS.F ht⟩) hS.2.2 hd B.notSynchronized
  · intro pc k n ik is ic lv st cls text hfit hk hini hstr hat1 hat2 hgood d0 d3 d4 d6 d9 hfr hlo hkc hns hkm hnm hpx
    intro H locs ls hP hD hS hl
    have hts := atoms_spec (ws := wsY) B.pre
    obtain ⟨sa, hsa⟩ := hX.1 _ hstr
    have h3 : ∀ w ∈ zNest, w.before av.toArray s = true := fun w hw => va_Nw.use (by revert w; decide +kernel) (hN.1 w hw)
    exact vx_throwS (own := RX1) (cls := cls) (text := text) (names := zEx) (sa := sa) B.exec B.bytes hlf (by rw [← hown]; exact findClass_of_methodNamed B.named) hfit (by decide +kernel) (hts _ hk) (hts _ hini) hsa (vx_hat (fun w hw => hts w (hat1 w hw)) hat2 h3) hgood hX.2.1 hX.2.2 hS (hl.1.trans hml.symm) d0 d3 d4 d6 d9 (fun x hx => (hnoh x hx).elim) hfr hlo hkc hns B.notSynchronized
      (fun t hal hsz hk9 => ⟨(), trivial, ⟨hpx, fun i q hq => by
        have h9 := hP i q hq
        exact va_at_keep h9 (fun a ha => hk9 a ha), va_K.moved hal hK, hD⟩, ⟨Nat.le_trans hS.1 hsz, fun q h1 h2 => by rw [hk9 q (Nat.lt_of_lt_of_le h1 hS.1)]; exact hS.2.1 q h1 h2⟩⟩) hS.2.2 hkm hnm
  · intro pc k n lv rest px hkm hnm hpx
    intro Ex ce q9 H locs ls hpe hP hD hS hl hce hcv hcl
    exact vx_out (fun x hx => (hnoh x hx).elim) B.notSynchronized hce hcv hcl (fun t ht hal => ⟨(), trivial, ⟨hpx Ex hpe, by rw [ht]; exact hP, va_K.moved hal hK, hD⟩, hS.F ht⟩) hS.2.2 hkm hnm
def ZRunX (E : ZE) (ws : va_W) (lv : List (Nat × Value)) (k n pc : Nat) (st rest : List Value) (mc ms : Nat) (Qa : Nat → State → Outcome → State → Prop) (XC : Nat → String → State → State → Prop) (w0 : va_W) : Prop := match E with
  | (p, l, e, R, s, m, args, below, meth, c, _, A, D, _, nL) => ∀ (H : Heap) (locs : List Loc) (ls : Array Slot), va_P D vwCl ws H → va_D A ws → va_S A s.heap H locs → lv_has ls nL lv → vx_Run p l e R s m args below meth c H locs k n mc ms (F0 m pc ls st) rest (Qa H.size) (XC H.size) (va_A w0 H.size)
section ZXCALL
variable {E : ZE} {cc : ByteArray} {own : String} {Ts : List Cond} {rm : Room} {nL : Nat} {D : va_G} {g : Nat → ClassId} {l : Launch} {ws ws' w0 wr : va_W} {lv lv' : List (Nat × Value)} {k n k2 n2 pc mc ms index maxL nA b : Nat} {st As rest : List Value} {y : MethodName} {wsY wsY' : List Cond} {rmY : Room} {bytes : ByteArray} {ret : Option FieldType} {Qa : Nat → Array Value → State → Outcome → State → Prop} {XC : Nat → String → State → State → Prop}
theorem z_runXV (hC : ZC E cc own Ts rm nL D g l) (hN : ZNst E) (hX : ZXt E) (hM : ∀ sz, vx_Met l y wsY rmY (zPc D g (.ref b :: As) w0 (zXU w0 sz) sz) (Qa sz) (XC sz) mc ms (va_A w0 sz)) (isC : List Nat) (hCp : isC.map (fun i => ws[i]?) = w0.map some) (hCn : va_nd isC = true) {C : String} {T : u_T} {N ci : Nat} {fs : List Value} (hT : GoodIn Ts (wsV own index C y wsY)) (hd : y.cls = C ∧ y.cls ≠ "java/lang/invoke/MethodHandle" ∧ y.cls ≠ "java/lang/invoke/VarHandle" ∧ (parseMethodDescriptor y.desc).map (fun d => d.parameters.length) = some nA) (hw : wsY = Cond.code y bytes maxL ret :: wsY') (hrc : rmY.cells = mc) (hrs : rmY.slots = ms) (hR : rmY.frames + 1 ≤ rm.frames ∧ 8 + (maxL + 11) + rmY.locals ≤ rm.locals) (hnA : As.length = nA) (hst : st = As.reverse ++ .ref b :: rest) (hcat : (rest.map fun v => v.category).sum ≤ 8) (d : decode cc pc = .ok (.invokevirtual index, 3)) (hf : k + mc ≤ rm.cells ∧ n + ms ≤ rm.slots) (q0 : Nat) (he : ws[q0]? = some (b, .inr (ci, fs))) (hc : vwCl[ci]? = some (C, T, N)) : ZRunX E ws lv k n pc st rest mc ms (fun sz => Qa sz ((.ref b :: As) : List Value).toArray) XC w0 := by
  obtain ⟨p, l', e, R, s, m, args, below, meth, c, Q, A, D', g', nL'⟩ := E
  obtain ⟨hx, hb, hml, rfl, rfl, rfl, rfl, rfl, hown, hts, hK, hA⟩ := hC
  intro H locs ls hP hD hS hl
  have hPc := hP.sub isC (zfm hCp)
  have hDc := hD.sub isC hCn hCp
  have hFc := va_free (wc := w0) hD hS hA isC hCp
  exact vx_runV ⟨hx, hb, hml, hown, hts⟩ (hM H.size) (cwV nA hts hT hw hrc hrs hd hR) ⟨zPc_blindX, va_recv hK hP hc he, fun U hU hW => ⟨rfl, by rw [hU], by rw [hU]; exact hPc, va_K.moved hW.alike hK, hDc.weaken (fun _ _ _ _ => trivial), zNs.warm hW hN, by show zXT _ U U.heap; rw [hU]; exact zXT.call hW hS hFc hX⟩⟩ rfl hnA hl.1 hst (lv_room hcat) d hf
theorem z_runXS (hC : ZC E cc own Ts rm nL D g l) (hN : ZNst E) (hX : ZXt E) (hM : ∀ sz, vx_Met l y wsY rmY (zPc D g (As) w0 (zXU w0 sz) sz) (Qa sz) (XC sz) mc ms (va_A w0 sz)) (isC : List Nat) (hCp : isC.map (fun i => ws[i]?) = w0.map some) (hCn : va_nd isC = true) (hT : GoodIn Ts (va_wsS own index y wsY)) (hd : y.cls ≠ "java/lang/invoke/MethodHandle" ∧ y.cls ≠ "java/lang/invoke/VarHandle" ∧ (parseMethodDescriptor y.desc).map (fun d => d.parameters.length) = some nA) (hw : wsY = Cond.code y bytes maxL ret :: wsY') (hrc : rmY.cells = mc) (hrs : rmY.slots = ms) (hR : rmY.frames + 1 ≤ rm.frames ∧ 8 + (maxL + 11) + rmY.locals ≤ rm.locals) (hnA : As.length = nA) (hst : st = As.reverse ++ rest) (hcat : (rest.map fun v => v.category).sum ≤ 8) (d : decode cc pc = .ok (.invokestatic index, 3)) (hf : k + mc ≤ rm.cells ∧ n + ms ≤ rm.slots)  : ZRunX E ws lv k n pc st rest mc ms (fun sz => Qa sz ((As) : List Value).toArray) XC w0 := by
  obtain ⟨p, l', e, R, s, m, args, below, meth, c, Q, A, D', g', nL'⟩ := E
  obtain ⟨hx, hb, hml, rfl, rfl, rfl, rfl, rfl, hown, hts, hK, hA⟩ := hC
  intro H locs ls hP hD hS hl
  have hPc := hP.sub isC (zfm hCp)
  have hDc := hD.sub isC hCn hCp
  have hFc := va_free (wc := w0) hD hS hA isC hCp
  exact vx_runS ⟨hx, hb, hml, hown, hts⟩ (hM H.size) (va_cwS nA hts hT hw hrc hrs hd hR) ⟨zPc_blindX, fun U hU hW => ⟨rfl, by rw [hU], by rw [hU]; exact hPc, va_K.moved hW.alike hK, hDc.weaken (fun _ _ _ _ => trivial), zNs.warm hW hN, by show zXT _ U U.heap; rw [hU]; exact zXT.call hW hS hFc hX⟩⟩ rfl hnA hl.1 hst (lv_room hcat) d hf
theorem z_callXi (q : Nat) (hC : ZC E cc own Ts rm nL D g l) {S : Type} {a : Array Value} {post : Int → S → Prop} {w1 w2 : S → va_W} {px : String → Prop} (isC isR isO isO2 : List Nat) (hr : ZRunX E ws lv k n pc st rest mc ms (fun sz => va_Qi (fun r u => ∃ z, r = iI z ∧ post z u) (zB D g w0 sz w1) (va_A w0 sz) a) (zXC D g w0 px) w0) (hCp : isC.map (fun i => ws[i]?) = w0.map some) (hRp : isR.map (fun i => ws[i]?) = wr.map some) (hnd : va_nd isR = true) (hdis : ∀ i ∈ isR, i ∉ isC) (hO0 : isO.map (fun i => (wr ++ w0)[i]?) = ws.map some) (hndO : va_nd isO = true) (hO : ∀ u, isO2.map (fun i => (wr ++ w1 u)[i]?) = (w2 u).map some) (hndO2 : va_nd isO2 = true) (hq : pc + 3 = q) (hk2 : k + mc = k2) (hn2 : n + ms = n2) (kx : ZThr E ws lv k2 n2 pc rest px) (kk : ∀ (z : Int) (u : S), post z u → Z E (w2 u) lv k2 n2 q (.int (iI z) :: rest)) : Z E ws lv k n pc st := by
  subst hq; subst hk2; subst hn2
  obtain ⟨p, l', e, R, s, m, args, below, meth, c, Q, A, D', g', nL'⟩ := E
  obtain ⟨hx, hb, hml, rfl, rfl, rfl, rfl, rfl, hown, hts, hK, hA⟩ := hC
  intro H locs ls hP hD hS hl
  have hFc := va_free (wc := w0) hD hS hA isC hCp
  refine vx_calli (hr H locs ls hP hD hS hl) hS (fun q _ h => hFc q h) hFc (fun q _ h => hFc q h) (fun Ex ce q9 u t H1 locs1 ht hvm hw hB hz1 hk1 hS1 hce hcv hcl => ?_) (fun r u t H1 locs ht hvm hw hB hz1 hk1 hS => ?_)
  · obtain ⟨hpx, hP1, hK1, hD1⟩ := hB
    rw [ht] at hP1
    obtain ⟨hP2, hD2⟩ := va_join (wr := wr) (w1 := w0) hP hD isC isR hCp hRp hnd hdis hk1 hFc hP1 hD1
    exact kx Ex ce q9 H1 locs1 ls hpx (hP2.sub isO (zfm hO0)) (hD2.sub isO hndO hO0) hS1 hl hce hcv hcl
  · obtain ⟨hP1, hK1, hD1⟩ := hB
    rw [ht] at hP1
    obtain ⟨z, rfl, hz⟩ := hw
    obtain ⟨hP2, hD2⟩ := va_join (wr := wr) (w1 := w1 u) hP hD isC isR hCp hRp hnd hdis hk1 hFc hP1 hD1
    exact kk z u hz H1 locs ls (hP2.sub isO2 (zfm (hO u))) (hD2.sub isO2 hndO2 (hO u)) hS hl
theorem z_callXv (q : Nat) (hC : ZC E cc own Ts rm nL D g l) {S : Type} {a : Array Value} {post : S → Prop} {w1 w2 : S → va_W} {px : String → Prop} (isC isR isO isO2 : List Nat) (hr : ZRunX E ws lv k n pc st rest mc ms (fun sz => va_Qv post (zB D g w0 sz w1) (va_A w0 sz) a) (zXC D g w0 px) w0) (hCp : isC.map (fun i => ws[i]?) = w0.map some) (hRp : isR.map (fun i => ws[i]?) = wr.map some) (hnd : va_nd isR = true) (hdis : ∀ i ∈ isR, i ∉ isC) (hO0 : isO.map (fun i => (wr ++ w0)[i]?) = ws.map some) (hndO : va_nd isO = true) (hO : ∀ u, isO2.map (fun i => (wr ++ w1 u)[i]?) = (w2 u).map some) (hndO2 : va_nd isO2 = true) (hq : pc + 3 = q) (hk2 : k + mc = k2) (hn2 : n + ms = n2) (kx : ZThr E ws lv k2 n2 pc rest px) (kk : ∀ (u : S), post u → Z E (w2 u) lv k2 n2 q rest) : Z E ws lv k n pc st := by
  subst hq; subst hk2; subst hn2
  obtain ⟨p, l', e, R, s, m, args, below, meth, c, Q, A, D', g', nL'⟩ := E
  obtain ⟨hx, hb, hml, rfl, rfl, rfl, rfl, rfl, hown, hts, hK, hA⟩ := hC
  intro H locs ls hP hD hS hl
  have hFc := va_free (wc := w0) hD hS hA isC hCp
  refine vx_callv (hr H locs ls hP hD hS hl) hS (fun q _ h => hFc q h) hFc (fun q _ h => hFc q h) (fun Ex ce q9 u t H1 locs1 ht hvm hw hB hz1 hk1 hS1 hce hcv hcl => ?_) (fun u t H1 locs ht hvm hw hB hz1 hk1 hS => ?_)
  · obtain ⟨hpx, hP1, hK1, hD1⟩ := hB
    rw [ht] at hP1
    obtain ⟨hP2, hD2⟩ := va_join (wr := wr) (w1 := w0) hP hD isC isR hCp hRp hnd hdis hk1 hFc hP1 hD1
    exact kx Ex ce q9 H1 locs1 ls hpx (hP2.sub isO (zfm hO0)) (hD2.sub isO hndO hO0) hS1 hl hce hcv hcl
  · obtain ⟨hP1, hK1, hD1⟩ := hB
    rw [ht] at hP1
    obtain ⟨hP2, hD2⟩ := va_join (wr := wr) (w1 := w1 u) hP hD isC isR hCp hRp hnd hdis hk1 hFc hP1 hD1
    exact kk u hw H1 locs ls (hP2.sub isO2 (zfm (hO u))) (hD2.sub isO2 hndO2 (hO u)) hS hl
theorem z_callXl (q : Nat) (hC : ZC E cc own Ts rm nL D g l) {S : Type} {a : Array Value} {post : Int64 → S → Prop} {w1 w2 : S → va_W} {px : String → Prop} (isC isR isO isO2 : List Nat) (hr : ZRunX E ws lv k n pc st rest mc ms (fun sz => va_Ql post (zB D g w0 sz w1) (va_A w0 sz) a) (zXC D g w0 px) w0) (hCp : isC.map (fun i => ws[i]?) = w0.map some) (hRp : isR.map (fun i => ws[i]?) = wr.map some) (hnd : va_nd isR = true) (hdis : ∀ i ∈ isR, i ∉ isC) (hO0 : isO.map (fun i => (wr ++ w0)[i]?) = ws.map some) (hndO : va_nd isO = true) (hO : ∀ u, isO2.map (fun i => (wr ++ w1 u)[i]?) = (w2 u).map some) (hndO2 : va_nd isO2 = true) (hq : pc + 3 = q) (hk2 : k + mc = k2) (hn2 : n + ms = n2) (kx : ZThr E ws lv k2 n2 pc rest px) (kk : ∀ (z : Int64) (u : S), post z u → Z E (w2 u) lv k2 n2 q (.long z :: rest)) : Z E ws lv k n pc st := by
  subst hq; subst hk2; subst hn2
  obtain ⟨p, l', e, R, s, m, args, below, meth, c, Q, A, D', g', nL'⟩ := E
  obtain ⟨hx, hb, hml, rfl, rfl, rfl, rfl, rfl, hown, hts, hK, hA⟩ := hC
  intro H locs ls hP hD hS hl
  have hFc := va_free (wc := w0) hD hS hA isC hCp
  refine vx_calll (hr H locs ls hP hD hS hl) hS (fun q _ h => hFc q h) hFc (fun q _ h => hFc q h) (fun Ex ce q9 u t H1 locs1 ht hvm hw hB hz1 hk1 hS1 hce hcv hcl => ?_) (fun r u t H1 locs ht hvm hw hB hz1 hk1 hS => ?_)
  · obtain ⟨hpx, hP1, hK1, hD1⟩ := hB
    rw [ht] at hP1
    obtain ⟨hP2, hD2⟩ := va_join (wr := wr) (w1 := w0) hP hD isC isR hCp hRp hnd hdis hk1 hFc hP1 hD1
    exact kx Ex ce q9 H1 locs1 ls hpx (hP2.sub isO (zfm hO0)) (hD2.sub isO hndO hO0) hS1 hl hce hcv hcl
  · obtain ⟨hP1, hK1, hD1⟩ := hB
    rw [ht] at hP1
    obtain ⟨hP2, hD2⟩ := va_join (wr := wr) (w1 := w1 u) hP hD isC isR hCp hRp hnd hdis hk1 hFc hP1 hD1
    exact kk r u hw H1 locs ls (hP2.sub isO2 (zfm (hO u))) (hD2.sub isO2 hndO2 (hO u)) hS hl
end ZXCALL
theorem zg_i : ∀ w ∈ Cond.classLink RX1 54 zXi :: Cond.initialized zXi :: vx_atS RX1 58 zXi zEx, vx_ot w = true := by decide +kernel
theorem zg_a : ∀ w ∈ Cond.classLink RX1 230 zXa :: Cond.initialized zXa :: vx_atS RX1 234 zXa zEx, vx_ot w = true := by decide +kernel
theorem zg_s : ∀ w ∈ Cond.classLink RX1 47 zXs :: Cond.initialized zXs :: vx_atS RX1 51 zXs zEx, vx_ot w = true := by decide +kernel
theorem zn_i : ∀ w ∈ (vx_atS RX1 58 zXi zEx).filter (fun w => !goodWord w), w ∈ zNest := by decide +kernel
theorem zn_a : ∀ w ∈ (vx_atS RX1 234 zXa zEx).filter (fun w => !goodWord w), w ∈ zNest := by decide +kernel
theorem zn_s : ∀ w ∈ (vx_atS RX1 51 zXs zEx).filter (fun w => !goodWord w), w ∈ zNest := by decide +kernel
theorem ixor_nn {a b : Int} (ha : 0 ≤ a ∧ a ≤ 2147483647) (hb : 0 ≤ b ∧ b ≤ 2147483647) : ∃ c : Int, (0 ≤ c ∧ c ≤ 2147483647) ∧ iI a ^^^ iI b = iI c := by
  refine ⟨((a.toNat ^^^ b.toNat : Nat) : Int), ?_, ?_⟩
  · have : a.toNat ^^^ b.toNat < 2 ^ 31 := Nat.xor_lt_two_pow (by omega) (by omega)
    omega
  · rw [iI_nI ha.1, iI_nI hb.1, iI_nI (by omega)]
    apply Int32.toBitVec_inj.1
    show BitVec.ofNat 32 a.toNat ^^^ BitVec.ofNat 32 b.toNat = BitVec.ofNat 32 ((a.toNat ^^^ b.toNat : Nat) : Int).toNat
    rw [Int.toNat_natCast]
    apply BitVec.eq_of_getLsbD_eq
    intro i hi
    simp [Nat.testBit_xor]
section ZX2
variable {E : ZE} {cc : ByteArray} {own : String} {Ts : List Cond} {rm : Room} {nL : Nat} {D : va_G} {g : Nat → ClassId} {l : Launch} {ws : va_W} {lv : List (Nat × Value)} {k n pc : Nat} {st : List Value}
theorem z_ixor (q : Nat) (hC : ZC E cc own Ts rm nL D g l) {a b : Int} (d : decode cc pc = .ok (.ixor, 1)) (hq : pc + 1 = q) (ha : 0 ≤ a ∧ a ≤ 2147483647) (hb0 : 0 ≤ b ∧ b ≤ 2147483647) (kk : ∀ c : Int, (0 ≤ c ∧ c ≤ 2147483647) → Z E ws lv k n q (.int (iI c) :: st)) : Z E ws lv k n pc (.int (iI b) :: .int (iI a) :: st) := by
  subst hq
  obtain ⟨p, l', e, R, s, m, args, below, meth, c, Q, A, D', g', nL'⟩ := E
  obtain ⟨hx, hb, hml, rfl, rfl, rfl, rfl, rfl, hown, hts, hK, hA⟩ := hC
  intro H locs ls hP hD hS hl
  obtain ⟨c9, h9, e9⟩ := ixor_nn ha hb0
  exact lv_ixor hx hb d (by rw [e9]; exact kk c9 h9 H locs ls hP hD hS hl)
theorem z_lookup (t : Nat) (hC : ZC E cc own Ts rm nL D g l) {a dflt off v : Int} {ps : Array (Int × Int)} {len : Nat} (d : decode cc pc = .ok (.lookupswitch dflt ps, len)) (hv : a = v) (hr : -2147483648 ≤ v ∧ v ≤ 2147483647) (hp : (ps.toList.zip (ps.toList.drop 1)).all (fun (a, next) => a.1 < next.1) = true) (ho : Op.lookupswitch.offset ps.toList dflt v = off) (ht : (pc : Int) + off = (t : Int)) (kk : Z E ws lv k n t st) : Z E ws lv k n pc (.int (iI a) :: st) := by
  subst hv
  obtain ⟨p, l', e, R, s, m, args, below, meth, c, Q, A, D', g', nL'⟩ := E
  obtain ⟨hx, hb, hml, rfl, rfl, rfl, rfl, rfl, hown, hts, hK, hA⟩ := hC
  intro H locs ls hP hD hS hl
  exact lv_lookup hx hb d hp (by rw [iI_toInt hr]; exact ho) ht (kk H locs ls hP hD hS hl)
end ZX2
theorem ZThr.no {E : ZE} {ws : va_W} {lv : List (Nat × Value)} {k n pc : Nat} {rest : List Value} {px : String → Prop} (h : ∀ Ex, ¬ px Ex) : ZThr E ws lv k n pc rest px := by
  obtain ⟨p, l', e, R, s, m, args, below, meth, c, Q, A, D', g', nL'⟩ := E
  intro Ex ce q9 H locs ls hpx
  exact absurd hpx (h Ex)
theorem Met_ofWF {y : MethodName} {l : Launch} {ws ws' : List Cond} {rm : Room} {Pc : Array Value → State → Prop} {Qc : Array Value → State → Outcome → State → Prop} {mc ms : Nat} {free : Addr → Prop} {cc : ByteArray} {maxL : Nat} {ret : Option FieldType}
    (hy : plainFor y = true) (hw : ws = Cond.code y cc maxL ret :: ws')
    (body : ∀ p e s m args below meth c s₁, BodyLoose p l y (headSpec ws rm) cc maxL ret e s m args below meth c s₁ → c.maxLocals = maxL → Pc args s →
      W p l e (headSpec ws rm).room s m args below meth c s.heap [] 0 0 (MQ below Qc args s mc ms free) (entryFrame m args maxL)) : Met l y ws rm Pc Qc mc ms free := by
  refine MetFree.of_bodyRF (code := cc) (maxLocals := maxL) (ret := ret) hy ?_ ?_
  · intro args s m h hn
    obtain ⟨meth, c, h1, h2, h3, h4, h5, h6, -, -⟩ := Cond.code_spec hn (atoms_spec (ws := ws) h _ (by rw [hw]; exact List.mem_cons_self))
    exact ⟨meth, c, h1, h2, h3, h4, h5, h6⟩
  · intro p e s m args below meth c s₁ B hml hP _ hst
    have hh0 : s₁.heap = s.heap := by rw [B.state]; rfl
    obtain ⟨t, a1, o, b1, b2, b3⟩ := body p e s m args below meth c s₁ B hml hP s₁ hh0 (Stand.of_body B)
    exact ⟨t, o, hst.trans a1, b1, b2, ⟨b3.1, b3.2⟩⟩
theorem ZMi.ofF {S : Type} {l : Launch} {y : MethodName} {wsY ws' : List Cond} {rm : Room} {D : va_G} {g : Nat → ClassId} {av : List Value} {w0 : va_W} {post : Int → S → Prop} {w1 : S → va_W} {mc ms : Nat} {own : String} (cc : ByteArray) (maxL : Nat) {ty : FieldType} (lv0 : List (Nat × Value)) (hy : plainFor y = true) (hw : wsY = Cond.code y cc maxL (some ty) :: ws') (hlen : (lg_sl av).length ≤ maxL) (hlv : lv_args 0 av = lv0) (hown : y.cls = own)
    (body : ∀ E : ZE, ZC E cc own wsY rm maxL D g l → ZNst E → (∀ {pc : Nat} {lv : List (Nat × Value)} {z : Int} (u : S), decode cc pc = .ok (.ireturn, 1) → narrow ty (.int (iI z)) = .int (iI z) → post z u → Z E (w1 u) lv mc ms pc [.int (iI z)]) → Z E w0 lv0 0 0 0 []) : ZMi l y wsY rm D g av w0 post w1 mc ms := by
  intro sz
  refine Met_ofWF (cc := cc) (maxL := maxL) (ret := some ty) hy hw ?_
  intro p e s m args below meth c s₁ B hml hv
  obtain ⟨rfl, hsz, hP, hK, hD0, hN, -⟩ := hv
  subst hsz
  have hE := body (p, l, e, (headSpec wsY rm).room, s, m, av.toArray, below, meth, c, MQ below (va_Qi (fun r u => ∃ z, r = iI z ∧ post z u) (zB D g w0 s.heap.size w1) (va_A w0 s.heap.size)) av.toArray s mc ms (va_A w0 s.heap.size), va_A w0 s.heap.size, D, g, maxL) ⟨B.exec, B.bytes, hml, rfl, rfl, rfl, rfl, rfl, by rw [← hown]; exact findClass_of_methodNamed B.named, atoms_spec B.pre, hK, fun q h => Or.inr h⟩ hN ?_
  · have hl := lv_entry av (n := maxL) hlen
    rw [lg_entry_eq]
    exact hE s.heap [] _ hP hD0.self va_S.rf (by rw [← hlv]; exact hl)
  · intro pc lv z u hd hn hp
    intro H locs ls hP hD hS hl
    exact W.zret (v := iI z) B.exec B.bytes B.returns hn (fun t ht hW => ⟨⟨iI z, u, rfl, ⟨z, rfl, hp⟩, ⟨by rw [ht]; exact hP, va_K.moved hW.alike hK, hD⟩⟩, hS.F ht⟩) hS.2.2 hd B.notSynchronized
end
section
/-! the league -/
/-- the cells of the league's own object -/
def wLe (g : Nat → ClassId) (x : Nat) (b : Nat → Nat) (sh tr : Nat) (td bu sr lg : Int → Int) (tm hr en : Int) : va_W := [(x, .inr (1, [.ref sh, .ref tr, .ref (b 0), .ref (b 1), .ref (b 2), .ref (b 3), .int (iI tm), .int (iI hr), .int (iI en)])), (b 0, ar g 12 td), (b 1, ar g 4 bu), (b 2, ar g 4 sr), (b 3, ar g 4 lg)]
/-- the greatest height of an area, among the first i cells -/
def gha (s : Int → Int) (k i : Int) : Int := foI (fun j x => if j % 12 / 3 = k then max x (hg s j) else x) 0 i
theorem gha_s (s : Int → Int) (k : Int) {i : Int} (h : 0 ≤ i) : gha s k (i + 1) = if i % 12 / 3 = k then max (gha s k i) (hg s i) else gha s k i := foI_s _ _ h
theorem gha_bd {s : Int → Int} (hs : Bd s 120 0 20) (k : Int) {i : Int} (h0 : 0 ≤ i) (h1 : i ≤ 120) : 0 ≤ gha s k i ∧ gha s k i ≤ 38 := by
  have key : ∀ n : Nat, (n : Int) ≤ 120 → 0 ≤ gha s k (n : Int) ∧ gha s k (n : Int) ≤ 38 := by
    intro n
    induction n with
    | zero => intro _; exact ⟨Int.le_refl 0, (by decide : (0 : Int) ≤ 38)⟩
    | succ n ih =>
      intro hn
      have e : ((n + 1 : Nat) : Int) = (n : Int) + 1 := by omega
      have h2 := hg_bd hs (c := (n : Int)) (by omega)
      have h3 := ih (by omega)
      rw [e, gha_s s k (by omega)]
      split <;> omega
  have := key i.toNat (by omega)
  rwa [Int.toNat_of_nonneg h0] at this
set_option maxHeartbeats 4000000 in
set_option maxRecDepth 100000 in
theorem c_J9_floorMod_7cf53 (l : Launch) (D : va_G) (g : Nat → ClassId) (x : Int) (y : Int) (hx : 0 ≤ x ∧ x ≤ 2147483647) (hy : 0 < y ∧ y ≤ 2147483647) : ZMi (S := Unit) l yJ9_floorMod_7cf53 wsJ9_floorMod_7cf53 ({ frames := 0, cells := 0, slots := 0, locals := 0 }) D g [.int (iI x), .int (iI y)] ([]) (fun z _ => z = x % y) (fun _ => []) 0 0 := by
  refine ZMi.ofF (own := RJ9) cJ9_floorMod_7cf53 3 [(0, .int (iI x)), (1, .int (iI y))] (by decide +kernel) rfl (nle rfl) rfl rfl ?_
  intro E hC hN hret
  refine z_iloadn 1 hC 0 dJ9_floorMod_7cf53_0 rfl rfl rfl ?_
  refine z_iloadn 2 hC 1 dJ9_floorMod_7cf53_1 rfl rfl rfl ?_
  refine z_irem 3 hC dJ9_floorMod_7cf53_2 rfl (by omega) (by omega) ?_
  refine z_istoren (lv' := [(2, .int (iI (x % y))), (0, .int (iI x)), (1, .int (iI y))]) 4 hC dJ9_floorMod_7cf53_3 rfl rfl (by decide) rfl ?_
  refine z_iloadn 5 hC 1 dJ9_floorMod_7cf53_4 rfl rfl rfl ?_
  refine z_iloadn 6 hC 2 dJ9_floorMod_7cf53_5 rfl rfl rfl ?_
  refine z_ixor 7 hC dJ9_floorMod_7cf53_6 rfl (by omega) (by omega) (fun v_1 hv_1 => ?_)
  refine z_if_ge 18 10 hC dJ9_floorMod_7cf53_7 (by decide) rfl (by omega) (fun c_2 => ?_) (fun c_2 => ?_)
  · skip
    refine z_iloadn 19 hC 0 dJ9_floorMod_7cf53_18 rfl rfl rfl ?_
    exact hret () dJ9_floorMod_7cf53_19 rfl (by rfl)
  · exfalso; omega
set_option maxHeartbeats 4000000 in
set_option maxRecDepth 100000 in
theorem c_X1_isInArea (l : Launch) (D : va_G) (g : Nat → ClassId) (k : Int) (c : Int) (hc : 0 ≤ c ∧ c ≤ 2147483647) (hk : -2147483648 ≤ k ∧ k ≤ 2147483647) : ZMi (S := Unit) l yX1_isInArea wsX1_isInArea ({ frames := 0, cells := 0, slots := 0, locals := 0 }) D g [.int (iI k), .int (iI c)] ([]) (fun z _ => (z = 0 ∨ z = 1) ∧ (z = 1 ↔ c % 12 / 3 = k)) (fun _ => []) 0 0 := by
  refine ZMi.of (own := RX1) cX1_isInArea 2 [(0, .int (iI k)), (1, .int (iI c))] (by decide +kernel) rfl (nle rfl) rfl rfl ?_
  intro E hC hN hret
  refine z_iloadn 1 hC 1 dX1_isInArea_0 rfl rfl rfl ?_
  refine z_bipush 3 hC dX1_isInArea_1 (by decide) rfl ?_
  refine z_irem 4 hC dX1_isInArea_3 rfl (by omega) (by omega) ?_
  refine z_iconst 5 hC dX1_isInArea_4 rfl ?_
  refine z_idiv 6 hC dX1_isInArea_5 rfl (by omega) (by omega) ?_
  refine z_iloadn 7 hC 0 dX1_isInArea_6 rfl rfl rfl ?_
  refine z_icmp_ne 14 10 hC dX1_isInArea_7 (by decide) rfl (by omega) (by omega) (fun c_1 => ?_) (fun c_1 => ?_)
  · skip
    refine z_iconst 15 hC dX1_isInArea_14 rfl ?_
    exact hret () dX1_isInArea_15 (by decide) (by omega)
  · skip
    refine z_iconst 11 hC dX1_isInArea_10 rfl ?_
    refine z_goto 15 hC dX1_isInArea_11 (by decide) ?_
    exact hret () dX1_isInArea_15 (by decide) (by omega)
set_option maxHeartbeats 4000000 in
set_option maxRecDepth 100000 in
theorem c_X1_cellAt (l : Launch) (D : va_G) (g : Nat → ClassId) (c : Int) (d : Int)  : ZMi (S := Unit) l yX1_cellAt wsX1_cellAt ({ frames := 0, cells := 0, slots := 0, locals := 0 }) D g [.int (iI c), .int (iI d)] ([]) (fun z _ => z = c + 12 * d) (fun _ => []) 0 0 := by
  refine ZMi.of (own := RX1) cX1_cellAt 2 [(0, .int (iI c)), (1, .int (iI d))] (by decide +kernel) rfl (nle rfl) rfl rfl ?_
  intro E hC hN hret
  refine z_iloadn 1 hC 0 dX1_cellAt_0 rfl rfl rfl ?_
  refine z_bipush 3 hC dX1_cellAt_1 (by decide) rfl ?_
  refine z_iloadn 4 hC 1 dX1_cellAt_3 rfl rfl rfl ?_
  refine z_imul 5 hC dX1_cellAt_4 rfl ?_
  refine z_iadd 6 hC dX1_cellAt_5 rfl ?_
  exact hret () dX1_cellAt_6 rfl (by rfl)
set_option maxHeartbeats 4000000 in
set_option maxRecDepth 100000 in
theorem c_X1_isOnBeach (l : Launch) (D : va_G) (g : Nat → ClassId) (c : Int) (d : Int) (hc : -2147483648 ≤ c ∧ c ≤ 2147483647) (hd : -2147483648 ≤ d ∧ d ≤ 2147483647) : ZMi (S := Unit) l yX1_isOnBeach wsX1_isOnBeach ({ frames := 0, cells := 0, slots := 0, locals := 0 }) D g [.int (iI c), .int (iI d)] ([]) (fun z _ => (z = 0 ∨ z = 1) ∧ (z = 1 ↔ 0 ≤ c ∧ c < 12 ∧ 0 ≤ d ∧ d < 10)) (fun _ => []) 0 0 := by
  refine ZMi.of (own := RX1) cX1_isOnBeach 2 [(0, .int (iI c)), (1, .int (iI d))] (by decide +kernel) rfl (nle rfl) rfl rfl ?_
  intro E hC hN hret
  refine z_iloadn 1 hC 0 dX1_isOnBeach_0 rfl rfl rfl ?_
  refine z_if_lt 24 4 hC dX1_isOnBeach_1 (by decide) rfl (by omega) (fun c_1 => ?_) (fun c_1 => ?_)
  · skip
    refine z_iconst 25 hC dX1_isOnBeach_24 rfl ?_
    exact hret () dX1_isOnBeach_25 (by decide) (by omega)
  · skip
    refine z_iloadn 5 hC 0 dX1_isOnBeach_4 rfl rfl rfl ?_
    refine z_bipush 7 hC dX1_isOnBeach_5 (by decide) rfl ?_
    refine z_icmp_ge 24 10 hC dX1_isOnBeach_7 (by decide) rfl (by omega) (by omega) (fun c_2 => ?_) (fun c_2 => ?_)
    · skip
      refine z_iconst 25 hC dX1_isOnBeach_24 rfl ?_
      exact hret () dX1_isOnBeach_25 (by decide) (by omega)
    · skip
      refine z_iloadn 11 hC 1 dX1_isOnBeach_10 rfl rfl rfl ?_
      refine z_if_lt 24 14 hC dX1_isOnBeach_11 (by decide) rfl (by omega) (fun c_3 => ?_) (fun c_3 => ?_)
      · skip
        refine z_iconst 25 hC dX1_isOnBeach_24 rfl ?_
        exact hret () dX1_isOnBeach_25 (by decide) (by omega)
      · skip
        refine z_iloadn 15 hC 1 dX1_isOnBeach_14 rfl rfl rfl ?_
        refine z_bipush 17 hC dX1_isOnBeach_15 (by decide) rfl ?_
        refine z_icmp_ge 24 20 hC dX1_isOnBeach_17 (by decide) rfl (by omega) (by omega) (fun c_4 => ?_) (fun c_4 => ?_)
        · skip
          refine z_iconst 25 hC dX1_isOnBeach_24 rfl ?_
          exact hret () dX1_isOnBeach_25 (by decide) (by omega)
        · skip
          refine z_iconst 21 hC dX1_isOnBeach_20 rfl ?_
          refine z_goto 25 hC dX1_isOnBeach_21 (by decide) ?_
          exact hret () dX1_isOnBeach_25 (by decide) (by omega)
set_option maxHeartbeats 4000000 in
set_option maxRecDepth 100000 in
theorem c_X0_sumOfArea (l : Launch) (D : va_G) (g : Nat → ClassId) (x : Nat) (f : Int → Int) (k : Int) (hk : -1000000 ≤ k ∧ k ≤ 1000000) : ZMi (S := Unit) l yX0_sumOfArea wsX0_sumOfArea ({ frames := 1, cells := 0, slots := 0, locals := 40 }) D g [.ref x, .int (iI k)] ([(x, ar g 120 f)]) (fun z _ => z = sumI (fun j => if j % 12 / 3 = k then f j else 0) 120) (fun _ => [(x, ar g 120 f)]) 0 0 := by
  refine ZMi.of (own := RX0) cX0_sumOfArea 4 [(0, .ref x), (1, .int (iI k))] (by decide +kernel) rfl (nle rfl) rfl rfl ?_
  intro E hC hN hret
  refine z_iconst 1 hC dX0_sumOfArea_0 rfl ?_
  refine z_istoren (lv' := [(2, .int (iI 0)), (0, .ref x), (1, .int (iI k))]) 2 hC dX0_sumOfArea_1 rfl rfl (by decide) rfl ?_
  refine z_iconst 3 hC dX0_sumOfArea_2 rfl ?_
  refine z_istoren (lv' := [(3, .int (iI 0)), (2, .int (iI 0)), (0, .ref x), (1, .int (iI k))]) 4 hC dX0_sumOfArea_3 rfl rfl (by decide) rfl ?_
  have loop4 : ∀ (N4 : Nat) (i : Int), 0 ≤ i ∧ i ≤ 120 → (120 - i : Int) < N4 → Z E ([(x, ar g 120 f)]) [(0, .ref x), (1, .int (iI k)), (2, .int (iI (sumI (fun j => if j % 12 / 3 = k then f j else 0) i))), (3, .int (iI i))] 0 0 4 [] := by
    intro N4
    induction N4 with
    | zero => intro i hi hm4; exact absurd hm4 (by omega)
    | succ N4 ih4 =>
      intro i hi hm4
      refine z_iloadn 5 hC 3 dX0_sumOfArea_4 rfl rfl rfl ?_
      refine z_bipush 7 hC dX0_sumOfArea_5 (by decide) rfl ?_
      refine z_icmp_ge 36 10 hC dX0_sumOfArea_7 (by decide) rfl (by omega) (by omega) (fun c_1 => ?_) (fun c_1 => ?_)
      · skip
        obtain rfl : i = 120 := by omega
        refine z_iloadn 37 hC 2 dX0_sumOfArea_36 rfl rfl rfl ?_
        exact hret () dX0_sumOfArea_37 rfl (by rfl)
      · skip
        refine z_iloadn 11 hC 3 dX0_sumOfArea_10 rfl rfl rfl ?_
        refine z_aloadn 12 hC 0 dX0_sumOfArea_11 rfl rfl rfl ?_
        refine z_alen 13 0 hC dX0_sumOfArea_12 rfl rfl rfl ?_
        refine z_icmp_ge 36 16 hC dX0_sumOfArea_13 (by decide) rfl (by omega) (by omega) (fun c_2 => ?_) (fun c_2 => ?_)
        · exfalso; omega
        · skip
          refine z_iloadn 17 hC 1 dX0_sumOfArea_16 rfl rfl rfl ?_
          refine z_iloadn 18 hC 3 dX0_sumOfArea_17 rfl rfl rfl ?_
          refine z_calli (wr := [(x, ar g 120 f)]) (w2 := fun _ => [(x, ar g 120 f)]) 21 hC [] [0] [0] (z_runSN (host := RX1) (nA := 2) hC hN (c_X1_isInArea l D g k i (by omega) (by omega)) [] rfl (by decide) gX0_sumOfArea_X1_isInArea_n115 (by decide +kernel) (by decide +kernel) (by decide +kernel) (by decide +kernel) rfl rfl rfl ⟨by decide, by decide⟩ rfl rfl (nle rfl) dX0_sumOfArea_18 ⟨by decide, by decide⟩) rfl rfl (by decide) (by decide) (fun _ => rfl) (by decide) rfl (k2 := 0) (n2 := 0) rfl rfl (fun z_3 _ p_4 => ?_)
          refine z_if_eq 30 24 hC dX0_sumOfArea_21 (by decide) rfl (by omega) (fun c_5 => ?_) (fun c_5 => ?_)
          · skip
            refine z_iinc (lv' := [(3, .int (iI (i + 1))), (0, .ref x), (1, .int (iI k)), (2, .int (iI (sumI (fun j => if j % 12 / 3 = k then f j else 0) i)))]) 33 3 hC dX0_sumOfArea_30 rfl rfl (by decide) rfl ?_
            refine z_goto 4 hC dX0_sumOfArea_33 (by decide) ?_
            refine z_lv (lv' := [(0, .ref x), (1, .int (iI k)), (2, .int (iI (sumI (fun j => if j % 12 / 3 = k then f j else 0) i))), (3, .int (iI (i + 1)))]) [1, 2, 3, 0] rfl ?_
            refine z_lveq (lv' := [(0, .ref x), (1, .int (iI k)), (2, .int (iI (sumI (fun j => if j % 12 / 3 = k then f j else 0) (i + 1)))), (3, .int (iI (i + 1)))]) (zfk (zfk (zlc (by first | exact sumI_n (by omega) (if_neg (by omega)) | exact sumI_y (by omega) (if_pos (by omega)).symm) (zfk rfl)))) ?_
            exact ih4 (i + 1) (by omega) (by omega)
          · skip
            refine z_iloadn 25 hC 2 dX0_sumOfArea_24 rfl rfl rfl ?_
            refine z_aloadn 26 hC 0 dX0_sumOfArea_25 rfl rfl rfl ?_
            refine z_iloadn 27 hC 3 dX0_sumOfArea_26 rfl rfl rfl ?_
            refine z_iald 28 0 hC dX0_sumOfArea_27 rfl rfl (by decide) (by omega) ?_
            refine z_iadd 29 hC dX0_sumOfArea_28 rfl ?_
            refine z_istoren (lv' := [(2, .int (iI ((sumI (fun j => if j % 12 / 3 = k then f j else 0) i) + (f i)))), (0, .ref x), (1, .int (iI k)), (3, .int (iI i))]) 30 hC dX0_sumOfArea_29 rfl rfl (by decide) rfl ?_
            refine z_iinc (lv' := [(3, .int (iI (i + 1))), (2, .int (iI ((sumI (fun j => if j % 12 / 3 = k then f j else 0) i) + (f i)))), (0, .ref x), (1, .int (iI k))]) 33 3 hC dX0_sumOfArea_30 rfl rfl (by decide) rfl ?_
            refine z_goto 4 hC dX0_sumOfArea_33 (by decide) ?_
            refine z_lv (lv' := [(0, .ref x), (1, .int (iI k)), (2, .int (iI ((sumI (fun j => if j % 12 / 3 = k then f j else 0) i) + (f i)))), (3, .int (iI (i + 1)))]) [2, 3, 1, 0] rfl ?_
            refine z_lveq (lv' := [(0, .ref x), (1, .int (iI k)), (2, .int (iI (sumI (fun j => if j % 12 / 3 = k then f j else 0) (i + 1)))), (3, .int (iI (i + 1)))]) (zfk (zfk (zlc (by first | exact sumI_n (by omega) (if_neg (by omega)) | exact sumI_y (by omega) (if_pos (by omega)).symm) (zfk rfl)))) ?_
            exact ih4 (i + 1) (by omega) (by omega)
  refine z_lv (lv' := [(0, .ref x), (1, .int (iI k)), (2, .int (iI 0)), (3, .int (iI 0))]) [2, 3, 1, 0] rfl ?_
  refine z_lveq (lv' := [(0, .ref x), (1, .int (iI k)), (2, .int (iI (sumI (fun j => if j % 12 / 3 = k then f j else 0) 0))), (3, .int (iI 0))]) (zfk (zfk (zlc (by rfl) (zfk rfl)))) ?_
  exact loop4 ((120 - 0 + 1 : Int).toNat) 0 (by omega) (by omega)
set_option maxHeartbeats 4000000 in
set_option maxRecDepth 100000 in
theorem c_X0_sandOfArea (l : Launch) (D : va_G) (g : Nat → ClassId) (h : Nat) (a : Nat → Nat) (s f w o p t : Int → Int) (lo sl fa : Int) (k : Int) (hk : -1000000 ≤ k ∧ k ≤ 1000000) : ZMi (S := Unit) l yX0_sandOfArea wsX0_sandOfArea ({ frames := 2, cells := 0, slots := 0, locals := 80 }) D g [.ref h, .int (iI k)] (wSh g h a s f w o p t lo sl fa) (fun z _ => z = sumI (fun j => if j % 12 / 3 = k then s j else 0) 120) (fun _ => wSh g h a s f w o p t lo sl fa) 0 0 := by
  have hinX0 : ∀ w ∈ u_ws RX0 TX0 9, w ∈ wsX0_sandOfArea := by decide +kernel
  have L9 : Cond.fieldLink RX0 9 "SandcastleLeague$Shore" "sand" "[I" ∈ wsX0_sandOfArea := by decide +kernel
  refine ZMi.of (own := RX0) cX0_sandOfArea 2 [(0, .ref h), (1, .int (iI k))] (by decide +kernel) rfl (nle rfl) rfl rfl ?_
  intro E hC hN hret
  refine z_aloadn 1 hC 0 dX0_sandOfArea_0 rfl rfl rfl ?_
  refine z_get 4 0 0 hC hinX0 L9 dX0_sandOfArea_1 rfl rfl rfl (by decide) rfl ?_
  refine z_iloadn 5 hC 1 dX0_sandOfArea_4 rfl rfl rfl ?_
  refine z_calli (wr := [(h, .inr (0, [.ref (a 0), .ref (a 1), .ref (a 2), .ref (a 3), .ref (a 4), .ref (a 5), .int (iI lo), .int (iI sl), .int (iI fa)])), ((a 1), ar g 120 f), ((a 2), ar g 120 w), ((a 3), ar g 120 o), ((a 4), ar g 120 p), ((a 5), ar g 120 t)]) (w2 := fun _ => wSh g h a s f w o p t lo sl fa) 8 hC [1] [0, 2, 3, 4, 5, 6] [0, 6, 1, 2, 3, 4, 5] (z_runS (nA := 2) hC hN (c_X0_sumOfArea l D g (a 0) s k (by omega)) [1] rfl (by decide) gX0_sandOfArea_X0_sumOfArea (by decide +kernel) rfl rfl rfl ⟨by decide, by decide⟩ rfl rfl (nle rfl) dX0_sandOfArea_5 ⟨by decide, by decide⟩) rfl rfl (by decide) (by decide) (fun _ => rfl) (by decide) rfl (k2 := 0) (n2 := 0) rfl rfl (fun z_1 _ p_2 => ?_)
  subst p_2
  exact hret () dX0_sandOfArea_8 rfl (by rfl)
set_option maxHeartbeats 4000000 in
set_option maxRecDepth 100000 in
theorem c_X0_waterOfArea (l : Launch) (D : va_G) (g : Nat → ClassId) (h : Nat) (a : Nat → Nat) (s f w o p t : Int → Int) (lo sl fa : Int) (k : Int) (hk : -1000000 ≤ k ∧ k ≤ 1000000) : ZMi (S := Unit) l yX0_waterOfArea wsX0_waterOfArea ({ frames := 2, cells := 0, slots := 0, locals := 80 }) D g [.ref h, .int (iI k)] (wSh g h a s f w o p t lo sl fa) (fun z _ => z = sumI (fun j => if j % 12 / 3 = k then w j else 0) 120) (fun _ => wSh g h a s f w o p t lo sl fa) 0 0 := by
  have hinX0 : ∀ w ∈ u_ws RX0 TX0 9, w ∈ wsX0_waterOfArea := by decide +kernel
  have L18 : Cond.fieldLink RX0 18 "SandcastleLeague$Shore" "water" "[I" ∈ wsX0_waterOfArea := by decide +kernel
  refine ZMi.of (own := RX0) cX0_waterOfArea 2 [(0, .ref h), (1, .int (iI k))] (by decide +kernel) rfl (nle rfl) rfl rfl ?_
  intro E hC hN hret
  refine z_aloadn 1 hC 0 dX0_waterOfArea_0 rfl rfl rfl ?_
  refine z_get 4 0 2 hC hinX0 L18 dX0_waterOfArea_1 rfl rfl rfl (by decide) rfl ?_
  refine z_iloadn 5 hC 1 dX0_waterOfArea_4 rfl rfl rfl ?_
  refine z_calli (wr := [(h, .inr (0, [.ref (a 0), .ref (a 1), .ref (a 2), .ref (a 3), .ref (a 4), .ref (a 5), .int (iI lo), .int (iI sl), .int (iI fa)])), ((a 0), ar g 120 s), ((a 1), ar g 120 f), ((a 3), ar g 120 o), ((a 4), ar g 120 p), ((a 5), ar g 120 t)]) (w2 := fun _ => wSh g h a s f w o p t lo sl fa) 8 hC [3] [0, 1, 2, 4, 5, 6] [0, 1, 2, 6, 3, 4, 5] (z_runS (nA := 2) hC hN (c_X0_sumOfArea l D g (a 2) w k (by omega)) [3] rfl (by decide) gX0_waterOfArea_X0_sumOfArea (by decide +kernel) rfl rfl rfl ⟨by decide, by decide⟩ rfl rfl (nle rfl) dX0_waterOfArea_5 ⟨by decide, by decide⟩) rfl rfl (by decide) (by decide) (fun _ => rfl) (by decide) rfl (k2 := 0) (n2 := 0) rfl rfl (fun z_1 _ p_2 => ?_)
  subst p_2
  exact hret () dX0_waterOfArea_8 rfl (by rfl)
set_option maxHeartbeats 4000000 in
set_option maxRecDepth 100000 in
theorem c_X0_greatestHeightOfArea (l : Launch) (D : va_G) (g : Nat → ClassId) (h : Nat) (a : Nat → Nat) (s f w o p t : Int → Int) (lo sl fa : Int) (k : Int) (hs : Bd s 120 0 20) (hk : -1000000 ≤ k ∧ k ≤ 1000000) : ZMi (S := Unit) l yX0_greatestHeightOfArea wsX0_greatestHeightOfArea ({ frames := 1, cells := 0, slots := 0, locals := 60 }) D g [.ref h, .int (iI k)] (wSh g h a s f w o p t lo sl fa) (fun z _ => z = gha s k 120) (fun _ => wSh g h a s f w o p t lo sl fa) 0 0 := by
  refine ZMi.of (own := RX0) cX0_greatestHeightOfArea 4 [(0, .ref h), (1, .int (iI k))] (by decide +kernel) rfl (nle rfl) rfl rfl ?_
  intro E hC hN hret
  refine z_iconst 1 hC dX0_greatestHeightOfArea_0 rfl ?_
  refine z_istoren (lv' := [(2, .int (iI 0)), (0, .ref h), (1, .int (iI k))]) 2 hC dX0_greatestHeightOfArea_1 rfl rfl (by decide) rfl ?_
  refine z_iconst 3 hC dX0_greatestHeightOfArea_2 rfl ?_
  refine z_istoren (lv' := [(3, .int (iI 0)), (2, .int (iI 0)), (0, .ref h), (1, .int (iI k))]) 4 hC dX0_greatestHeightOfArea_3 rfl rfl (by decide) rfl ?_
  have loop4 : ∀ (N4 : Nat) (i : Int), 0 ≤ i ∧ i ≤ 120 → (120 - i : Int) < N4 → Z E (wSh g h a s f w o p t lo sl fa) [(0, .ref h), (1, .int (iI k)), (2, .int (iI (gha s k i))), (3, .int (iI i))] 0 0 4 [] := by
    intro N4
    induction N4 with
    | zero => intro i hi hm4; exact absurd hm4 (by omega)
    | succ N4 ih4 =>
      intro i hi hm4
      have qg := gha_bd hs k hi.1 hi.2
      refine z_iloadn 5 hC 3 dX0_greatestHeightOfArea_4 rfl rfl rfl ?_
      refine z_bipush 7 hC dX0_greatestHeightOfArea_5 (by decide) rfl ?_
      refine z_icmp_ge 34 10 hC dX0_greatestHeightOfArea_7 (by decide) rfl (by omega) (by omega) (fun c_1 => ?_) (fun c_1 => ?_)
      · skip
        obtain rfl : i = 120 := by omega
        refine z_iloadn 35 hC 2 dX0_greatestHeightOfArea_34 rfl rfl rfl ?_
        exact hret () dX0_greatestHeightOfArea_35 rfl (by rfl)
      · skip
        refine z_iloadn 11 hC 1 dX0_greatestHeightOfArea_10 rfl rfl rfl ?_
        refine z_iloadn 12 hC 3 dX0_greatestHeightOfArea_11 rfl rfl rfl ?_
        refine z_calli (wr := [(h, .inr (0, [.ref (a 0), .ref (a 1), .ref (a 2), .ref (a 3), .ref (a 4), .ref (a 5), .int (iI lo), .int (iI sl), .int (iI fa)])), ((a 0), ar g 120 s), ((a 1), ar g 120 f), ((a 2), ar g 120 w), ((a 3), ar g 120 o), ((a 4), ar g 120 p), ((a 5), ar g 120 t)]) (w2 := fun _ => wSh g h a s f w o p t lo sl fa) 15 hC [] [0, 1, 2, 3, 4, 5, 6] [0, 1, 2, 3, 4, 5, 6] (z_runSN (host := RX1) (nA := 2) hC hN (c_X1_isInArea l D g k i (by omega) (by omega)) [] rfl (by decide) gX0_greatestHeightOfArea_X1_isInArea_n115 (by decide +kernel) (by decide +kernel) (by decide +kernel) (by decide +kernel) rfl rfl rfl ⟨by decide, by decide⟩ rfl rfl (nle rfl) dX0_greatestHeightOfArea_12 ⟨by decide, by decide⟩) rfl rfl (by decide) (by decide) (fun _ => rfl) (by decide) rfl (k2 := 0) (n2 := 0) rfl rfl (fun z_2 _ p_3 => ?_)
        refine z_if_eq 28 18 hC dX0_greatestHeightOfArea_15 (by decide) rfl (by omega) (fun c_4 => ?_) (fun c_4 => ?_)
        · skip
          refine z_iinc (lv' := [(3, .int (iI (i + 1))), (0, .ref h), (1, .int (iI k)), (2, .int (iI (gha s k i)))]) 31 3 hC dX0_greatestHeightOfArea_28 rfl rfl (by decide) rfl ?_
          refine z_goto 4 hC dX0_greatestHeightOfArea_31 (by decide) ?_
          refine z_lv (lv' := [(0, .ref h), (1, .int (iI k)), (2, .int (iI (gha s k i))), (3, .int (iI (i + 1)))]) [1, 2, 3, 0] rfl ?_
          refine z_lveq (lv' := [(0, .ref h), (1, .int (iI k)), (2, .int (iI (gha s k (i + 1)))), (3, .int (iI (i + 1)))]) (zfk (zfk (zlc (by rw [gha_s s k (by omega)]; first | rw [if_neg (by omega)] | rw [if_pos (by omega)]) (zfk rfl)))) ?_
          exact ih4 (i + 1) (by omega) (by omega)
        · skip
          refine z_iloadn 19 hC 2 dX0_greatestHeightOfArea_18 rfl rfl rfl ?_
          refine z_aloadn 20 hC 0 dX0_greatestHeightOfArea_19 rfl rfl rfl ?_
          refine z_iloadn 21 hC 3 dX0_greatestHeightOfArea_20 rfl rfl rfl ?_
          refine z_calli (wr := []) (w2 := fun _ => wSh g h a s f w o p t lo sl fa) 24 hC [0, 1, 2, 3, 4, 5, 6] [] [0, 1, 2, 3, 4, 5, 6] (z_runV (nA := 1) hC hN (c_X0_height l D g h a s f w o p t lo sl fa i (by omega)) [0, 1, 2, 3, 4, 5, 6] rfl (by decide) gX0_greatestHeightOfArea_X0_height (by decide +kernel) rfl rfl rfl ⟨by decide, by decide⟩ rfl rfl (nle rfl) dX0_greatestHeightOfArea_21 ⟨by decide, by decide⟩ 0 rfl rfl) rfl rfl (by decide) (by decide) (fun _ => rfl) (by decide) rfl (k2 := 0) (n2 := 0) rfl rfl (fun z_6 _ p_7 => ?_)
          subst p_7
          have y_5 := hg_bd hs (c := i) (by omega)
          refine z_mmax 27 hC (by decide +kernel) (by decide +kernel) (by decide +kernel) (by decide +kernel) (by decide) (nle rfl) (by decide) (by decide) (by omega) (by omega) dX0_greatestHeightOfArea_24 rfl ?_
          refine z_istoren (lv' := [(2, .int (iI (max (gha s k i) (hg s i)))), (0, .ref h), (1, .int (iI k)), (3, .int (iI i))]) 28 hC dX0_greatestHeightOfArea_27 rfl rfl (by decide) rfl ?_
          refine z_iinc (lv' := [(3, .int (iI (i + 1))), (2, .int (iI (max (gha s k i) (hg s i)))), (0, .ref h), (1, .int (iI k))]) 31 3 hC dX0_greatestHeightOfArea_28 rfl rfl (by decide) rfl ?_
          refine z_goto 4 hC dX0_greatestHeightOfArea_31 (by decide) ?_
          refine z_lv (lv' := [(0, .ref h), (1, .int (iI k)), (2, .int (iI (max (gha s k i) (hg s i)))), (3, .int (iI (i + 1)))]) [2, 3, 1, 0] rfl ?_
          refine z_lveq (lv' := [(0, .ref h), (1, .int (iI k)), (2, .int (iI (gha s k (i + 1)))), (3, .int (iI (i + 1)))]) (zfk (zfk (zlc (by rw [gha_s s k (by omega)]; first | rw [if_neg (by omega)] | rw [if_pos (by omega)]) (zfk rfl)))) ?_
          exact ih4 (i + 1) (by omega) (by omega)
  refine z_lv (lv' := [(0, .ref h), (1, .int (iI k)), (2, .int (iI 0)), (3, .int (iI 0))]) [2, 3, 1, 0] rfl ?_
  refine z_lveq (lv' := [(0, .ref h), (1, .int (iI k)), (2, .int (iI (gha s k 0))), (3, .int (iI 0))]) (zfk (zfk (zlc (by rfl) (zfk rfl)))) ?_
  exact loop4 ((120 - 0 + 1 : Int).toNat) 0 (by omega) (by omega)
set_option maxHeartbeats 4000000 in
set_option maxRecDepth 100000 in
theorem c_X1_requireLevel (l : Launch) (hlf : l.stackTraces = false) (D : va_G) (g : Nat → ClassId) (v : Int) (hv : -2147483648 ≤ v ∧ v ≤ 2147483647) : ZXv (S := Unit) l yX1_requireLevel wsX1_requireLevel ({ frames := 6, cells := 1, slots := 6, locals := 90 }) D g [.int (iI v)] ([]) (fun _ => 0 ≤ v ∧ v ≤ 30) (fun _ => []) (fun Ex => Ex = zXa ∧ ¬ (0 ≤ v ∧ v ≤ 30)) 1 6 := by
  refine ZXv.of hlf (ty := .int) cX1_requireLevel 1 [(0, .int (iI v))] (by decide +kernel) rfl (nle rfl) rfl rfl ?_
  intro E hC hN hX hret hnew hprop
  refine z_iloadn 1 hC 0 dX1_requireLevel_0 rfl rfl rfl ?_
  refine z_if_lt 10 4 hC dX1_requireLevel_1 (by decide) rfl (by omega) (fun c_1 => ?_) (fun c_1 => ?_)
  · skip
    exact hnew (cls := zXa) (text := "the level is not 0 to 30") (by decide +kernel) (by decide +kernel) (by decide +kernel) (by decide +kernel) (by decide +kernel) zn_a zg_a dX1_requireLevel_10 dX1_requireLevel_13 dX1_requireLevel_14 dX1_requireLevel_16 dX1_requireLevel_19 (by decide) (nle rfl) (by decide) (by decide) (by decide) (by decide) (by exact ⟨rfl, by omega⟩)
  · skip
    refine z_iloadn 5 hC 0 dX1_requireLevel_4 rfl rfl rfl ?_
    refine z_bipush 7 hC dX1_requireLevel_5 (by decide) rfl ?_
    refine z_icmp_le 20 10 hC dX1_requireLevel_7 (by decide) rfl (by omega) (by omega) (fun c_2 => ?_) (fun c_2 => ?_)
    · skip
      refine z_widen (k2 := 1) (n2 := 6) (by omega) (by omega) ?_
      exact hret () dX1_requireLevel_20 (by omega)
    · skip
      exact hnew (cls := zXa) (text := "the level is not 0 to 30") (by decide +kernel) (by decide +kernel) (by decide +kernel) (by decide +kernel) (by decide +kernel) zn_a zg_a dX1_requireLevel_10 dX1_requireLevel_13 dX1_requireLevel_14 dX1_requireLevel_16 dX1_requireLevel_19 (by decide) (nle rfl) (by decide) (by decide) (by decide) (by decide) (by exact ⟨rfl, by omega⟩)
set_option maxHeartbeats 4000000 in
set_option maxRecDepth 100000 in
theorem c_X1_requireAmount (l : Launch) (hlf : l.stackTraces = false) (D : va_G) (g : Nat → ClassId) (v : Int) (hv : -2147483648 ≤ v ∧ v ≤ 2147483647) : ZXv (S := Unit) l yX1_requireAmount wsX1_requireAmount ({ frames := 6, cells := 1, slots := 6, locals := 90 }) D g [.int (iI v)] ([]) (fun _ => 1 ≤ v ∧ v ≤ 5) (fun _ => []) (fun Ex => Ex = zXa ∧ ¬ (1 ≤ v ∧ v ≤ 5)) 1 6 := by
  refine ZXv.of hlf (ty := .int) cX1_requireAmount 1 [(0, .int (iI v))] (by decide +kernel) rfl (nle rfl) rfl rfl ?_
  intro E hC hN hX hret hnew hprop
  refine z_iloadn 1 hC 0 dX1_requireAmount_0 rfl rfl rfl ?_
  refine z_iconst 2 hC dX1_requireAmount_1 rfl ?_
  refine z_icmp_lt 10 5 hC dX1_requireAmount_2 (by decide) rfl (by omega) (by omega) (fun c_1 => ?_) (fun c_1 => ?_)
  · skip
    exact hnew (cls := zXa) (text := "n is not 1 to 5") (by decide +kernel) (by decide +kernel) (by decide +kernel) (by decide +kernel) (by decide +kernel) zn_a zg_a dX1_requireAmount_10 dX1_requireAmount_13 dX1_requireAmount_14 dX1_requireAmount_16 dX1_requireAmount_19 (by decide) (nle rfl) (by decide) (by decide) (by decide) (by decide) (by exact ⟨rfl, by omega⟩)
  · skip
    refine z_iloadn 6 hC 0 dX1_requireAmount_5 rfl rfl rfl ?_
    refine z_iconst 7 hC dX1_requireAmount_6 rfl ?_
    refine z_icmp_le 20 10 hC dX1_requireAmount_7 (by decide) rfl (by omega) (by omega) (fun c_2 => ?_) (fun c_2 => ?_)
    · skip
      refine z_widen (k2 := 1) (n2 := 6) (by omega) (by omega) ?_
      exact hret () dX1_requireAmount_20 (by omega)
    · skip
      exact hnew (cls := zXa) (text := "n is not 1 to 5") (by decide +kernel) (by decide +kernel) (by decide +kernel) (by decide +kernel) (by decide +kernel) zn_a zg_a dX1_requireAmount_10 dX1_requireAmount_13 dX1_requireAmount_14 dX1_requireAmount_16 dX1_requireAmount_19 (by decide) (nle rfl) (by decide) (by decide) (by decide) (by decide) (by exact ⟨rfl, by omega⟩)
set_option maxHeartbeats 4000000 in
set_option maxRecDepth 100000 in
theorem c_X1_requireHours (l : Launch) (hlf : l.stackTraces = false) (D : va_G) (g : Nat → ClassId) (v : Int) (M : Int) (hv : -2147483648 ≤ v ∧ v ≤ 2147483647) (hM : -2147483648 ≤ M ∧ M ≤ 2147483647) : ZXv (S := Unit) l yX1_requireHours wsX1_requireHours ({ frames := 6, cells := 1, slots := 6, locals := 90 }) D g [.int (iI v), .int (iI M)] ([]) (fun _ => 1 ≤ v ∧ v ≤ M) (fun _ => []) (fun Ex => Ex = zXa ∧ ¬ (1 ≤ v ∧ v ≤ M)) 1 6 := by
  refine ZXv.of hlf (ty := .int) cX1_requireHours 2 [(0, .int (iI v)), (1, .int (iI M))] (by decide +kernel) rfl (nle rfl) rfl rfl ?_
  intro E hC hN hX hret hnew hprop
  refine z_iloadn 1 hC 0 dX1_requireHours_0 rfl rfl rfl ?_
  refine z_iconst 2 hC dX1_requireHours_1 rfl ?_
  refine z_icmp_lt 10 5 hC dX1_requireHours_2 (by decide) rfl (by omega) (by omega) (fun c_1 => ?_) (fun c_1 => ?_)
  · skip
    exact hnew (cls := zXa) (text := "so many hours are not allowed") (by decide +kernel) (by decide +kernel) (by decide +kernel) (by decide +kernel) (by decide +kernel) zn_a zg_a dX1_requireHours_10 dX1_requireHours_13 dX1_requireHours_14 dX1_requireHours_16 dX1_requireHours_19 (by decide) (nle rfl) (by decide) (by decide) (by decide) (by decide) (by exact ⟨rfl, by omega⟩)
  · skip
    refine z_iloadn 6 hC 0 dX1_requireHours_5 rfl rfl rfl ?_
    refine z_iloadn 7 hC 1 dX1_requireHours_6 rfl rfl rfl ?_
    refine z_icmp_le 20 10 hC dX1_requireHours_7 (by decide) rfl (by omega) (by omega) (fun c_2 => ?_) (fun c_2 => ?_)
    · skip
      refine z_widen (k2 := 1) (n2 := 6) (by omega) (by omega) ?_
      exact hret () dX1_requireHours_20 (by omega)
    · skip
      exact hnew (cls := zXa) (text := "so many hours are not allowed") (by decide +kernel) (by decide +kernel) (by decide +kernel) (by decide +kernel) (by decide +kernel) zn_a zg_a dX1_requireHours_10 dX1_requireHours_13 dX1_requireHours_14 dX1_requireHours_16 dX1_requireHours_19 (by decide) (nle rfl) (by decide) (by decide) (by decide) (by decide) (by exact ⟨rfl, by omega⟩)
set_option maxHeartbeats 4000000 in
set_option maxRecDepth 100000 in
theorem c_X1_requireWhat (l : Launch) (hlf : l.stackTraces = false) (D : va_G) (g : Nat → ClassId) (v : Int) (M : Int) (hv : -2147483648 ≤ v ∧ v ≤ 2147483647) (hM : -2147483648 ≤ M ∧ M ≤ 2147483647) : ZXv (S := Unit) l yX1_requireWhat wsX1_requireWhat ({ frames := 6, cells := 1, slots := 6, locals := 90 }) D g [.int (iI v), .int (iI M)] ([]) (fun _ => 0 ≤ v ∧ v < M) (fun _ => []) (fun Ex => Ex = zXi ∧ ¬ (0 ≤ v ∧ v < M)) 1 6 := by
  refine ZXv.of hlf (ty := .int) cX1_requireWhat 2 [(0, .int (iI v)), (1, .int (iI M))] (by decide +kernel) rfl (nle rfl) rfl rfl ?_
  intro E hC hN hX hret hnew hprop
  refine z_iloadn 1 hC 0 dX1_requireWhat_0 rfl rfl rfl ?_
  refine z_if_lt 9 4 hC dX1_requireWhat_1 (by decide) rfl (by omega) (fun c_1 => ?_) (fun c_1 => ?_)
  · skip
    exact hnew (cls := zXi) (text := "there is no such number to tell") (by decide +kernel) (by decide +kernel) (by decide +kernel) (by decide +kernel) (by decide +kernel) zn_i zg_i dX1_requireWhat_9 dX1_requireWhat_12 dX1_requireWhat_13 dX1_requireWhat_15 dX1_requireWhat_18 (by decide) (nle rfl) (by decide) (by decide) (by decide) (by decide) (by exact ⟨rfl, by omega⟩)
  · skip
    refine z_iloadn 5 hC 0 dX1_requireWhat_4 rfl rfl rfl ?_
    refine z_iloadn 6 hC 1 dX1_requireWhat_5 rfl rfl rfl ?_
    refine z_icmp_lt 19 9 hC dX1_requireWhat_6 (by decide) rfl (by omega) (by omega) (fun c_2 => ?_) (fun c_2 => ?_)
    · skip
      refine z_widen (k2 := 1) (n2 := 6) (by omega) (by omega) ?_
      exact hret () dX1_requireWhat_19 (by omega)
    · skip
      exact hnew (cls := zXi) (text := "there is no such number to tell") (by decide +kernel) (by decide +kernel) (by decide +kernel) (by decide +kernel) (by decide +kernel) zn_i zg_i dX1_requireWhat_9 dX1_requireWhat_12 dX1_requireWhat_13 dX1_requireWhat_15 dX1_requireWhat_18 (by decide) (nle rfl) (by decide) (by decide) (by decide) (by decide) (by exact ⟨rfl, by omega⟩)
set_option maxHeartbeats 4000000 in
set_option maxRecDepth 100000 in
theorem c_X1_requireCell (l : Launch) (hlf : l.stackTraces = false) (D : va_G) (g : Nat → ClassId) (c : Int) (d : Int) (hc : -2147483648 ≤ c ∧ c ≤ 2147483647) (hd : -2147483648 ≤ d ∧ d ≤ 2147483647) : ZXv (S := Unit) l yX1_requireCell wsX1_requireCell ({ frames := 6, cells := 1, slots := 6, locals := 90 }) D g [.int (iI c), .int (iI d)] ([]) (fun _ => 0 ≤ c ∧ c < 12 ∧ 0 ≤ d ∧ d < 10) (fun _ => []) (fun Ex => Ex = zXi ∧ ¬ (0 ≤ c ∧ c < 12 ∧ 0 ≤ d ∧ d < 10)) 1 6 := by
  refine ZXv.of hlf (ty := .int) cX1_requireCell 2 [(0, .int (iI c)), (1, .int (iI d))] (by decide +kernel) rfl (nle rfl) rfl rfl ?_
  intro E hC hN hX hret hnew hprop
  refine z_iloadn 1 hC 0 dX1_requireCell_0 rfl rfl rfl ?_
  refine z_iloadn 2 hC 1 dX1_requireCell_1 rfl rfl rfl ?_
  refine z_calli (wr := []) (w2 := fun _ => []) 5 hC [] [] [] (z_runS (nA := 2) hC hN (c_X1_isOnBeach l D g c d (by omega) (by omega)) [] rfl (by decide) gX1_requireCell_X1_isOnBeach (by decide +kernel) rfl rfl rfl ⟨by decide, by decide⟩ rfl rfl (nle rfl) dX1_requireCell_2 ⟨by decide, by decide⟩) rfl rfl (by decide) (by decide) (fun _ => rfl) (by decide) rfl (k2 := 0) (n2 := 0) rfl rfl (fun z_1 _ p_2 => ?_)
  refine z_if_ne 18 8 hC dX1_requireCell_5 (by decide) rfl (by omega) (fun c_3 => ?_) (fun c_3 => ?_)
  · skip
    refine z_widen (k2 := 1) (n2 := 6) (by omega) (by omega) ?_
    exact hret () dX1_requireCell_18 (by omega)
  · skip
    exact hnew (cls := zXi) (text := "there is no such cell") (by decide +kernel) (by decide +kernel) (by decide +kernel) (by decide +kernel) (by decide +kernel) zn_i zg_i dX1_requireCell_8 dX1_requireCell_11 dX1_requireCell_12 dX1_requireCell_14 dX1_requireCell_17 (by decide) (nle rfl) (by decide) (by decide) (by decide) (by decide) (by exact ⟨rfl, by omega⟩)
set_option maxHeartbeats 4000000 in
set_option maxRecDepth 100000 in
theorem c_X1_requireArea (l : Launch) (hlf : l.stackTraces = false) (D : va_G) (g : Nat → ClassId) (k : Int) (c : Int) (d : Int) (hk : -2147483648 ≤ k ∧ k ≤ 2147483647) (hc : -2147483648 ≤ c ∧ c ≤ 2147483647) (hd : -2147483648 ≤ d ∧ d ≤ 2147483647) : ZXv (S := Unit) l yX1_requireArea wsX1_requireArea ({ frames := 6, cells := 1, slots := 6, locals := 90 }) D g [.int (iI k), .int (iI c), .int (iI d)] ([]) (fun _ => 0 ≤ c ∧ c < 12 ∧ 0 ≤ d ∧ d < 10 ∧ c / 3 = k) (fun _ => []) (fun Ex => Ex = zXa ∧ ¬ (0 ≤ c ∧ c < 12 ∧ 0 ≤ d ∧ d < 10 ∧ c / 3 = k)) 1 6 := by
  refine ZXv.of hlf (ty := .int) cX1_requireArea 3 [(0, .int (iI k)), (1, .int (iI c)), (2, .int (iI d))] (by decide +kernel) rfl (nle rfl) rfl rfl ?_
  intro E hC hN hX hret hnew hprop
  refine z_iloadn 1 hC 1 dX1_requireArea_0 rfl rfl rfl ?_
  refine z_iloadn 2 hC 2 dX1_requireArea_1 rfl rfl rfl ?_
  refine z_calli (wr := []) (w2 := fun _ => []) 5 hC [] [] [] (z_runS (nA := 2) hC hN (c_X1_isOnBeach l D g c d (by omega) (by omega)) [] rfl (by decide) gX1_requireArea_X1_isOnBeach (by decide +kernel) rfl rfl rfl ⟨by decide, by decide⟩ rfl rfl (nle rfl) dX1_requireArea_2 ⟨by decide, by decide⟩) rfl rfl (by decide) (by decide) (fun _ => rfl) (by decide) rfl (k2 := 0) (n2 := 0) rfl rfl (fun z_1 _ p_2 => ?_)
  refine z_if_eq 20 8 hC dX1_requireArea_5 (by decide) rfl (by omega) (fun c_3 => ?_) (fun c_3 => ?_)
  · skip
    exact hnew (cls := zXa) (text := "the cell is not in the area of the team") (by decide +kernel) (by decide +kernel) (by decide +kernel) (by decide +kernel) (by decide +kernel) zn_a zg_a dX1_requireArea_20 dX1_requireArea_23 dX1_requireArea_24 dX1_requireArea_26 dX1_requireArea_29 (by decide) (nle rfl) (by decide) (by decide) (by decide) (by decide) (by exact ⟨rfl, by omega⟩)
  · skip
    refine z_iloadn 9 hC 0 dX1_requireArea_8 rfl rfl rfl ?_
    refine z_iloadn 10 hC 1 dX1_requireArea_9 rfl rfl rfl ?_
    refine z_iloadn 11 hC 2 dX1_requireArea_10 rfl rfl rfl ?_
    refine z_calli (wr := []) (w2 := fun _ => []) 14 hC [] [] [] (z_runS (nA := 2) hC hN (c_X1_cellAt l D g c d ) [] rfl (by decide) gX1_requireArea_X1_cellAt (by decide +kernel) rfl rfl rfl ⟨by decide, by decide⟩ rfl rfl (nle rfl) dX1_requireArea_11 ⟨by decide, by decide⟩) rfl rfl (by decide) (by decide) (fun _ => rfl) (by decide) rfl (k2 := 0) (n2 := 0) rfl rfl (fun z_4 _ p_5 => ?_)
    subst p_5
    refine z_calli (wr := []) (w2 := fun _ => []) 17 hC [] [] [] (z_runS (nA := 2) hC hN (c_X1_isInArea l D g k (c + 12 * d) (by omega) (by omega)) [] rfl (by decide) gX1_requireArea_X1_isInArea (by decide +kernel) rfl rfl rfl ⟨by decide, by decide⟩ rfl rfl (nle rfl) dX1_requireArea_14 ⟨by decide, by decide⟩) rfl rfl (by decide) (by decide) (fun _ => rfl) (by decide) rfl (k2 := 0) (n2 := 0) rfl rfl (fun z_6 _ p_7 => ?_)
    refine z_if_ne 30 20 hC dX1_requireArea_17 (by decide) rfl (by omega) (fun c_8 => ?_) (fun c_8 => ?_)
    · skip
      refine z_widen (k2 := 1) (n2 := 6) (by omega) (by omega) ?_
      exact hret () dX1_requireArea_30 (by omega)
    · skip
      exact hnew (cls := zXa) (text := "the cell is not in the area of the team") (by decide +kernel) (by decide +kernel) (by decide +kernel) (by decide +kernel) (by decide +kernel) zn_a zg_a dX1_requireArea_20 dX1_requireArea_23 dX1_requireArea_24 dX1_requireArea_26 dX1_requireArea_29 (by decide) (nle rfl) (by decide) (by decide) (by decide) (by decide) (by exact ⟨rfl, by omega⟩)
set_option maxHeartbeats 4000000 in
set_option maxRecDepth 100000 in
theorem c_X1_requireTeam (l : Launch) (hlf : l.stackTraces = false) (D : va_G) (g : Nat → ClassId) (x : Nat) (b : Nat → Nat) (sh tr : Nat) (td bu sr lg : Int → Int) (tm hr en : Int) (k : Int) (hk : -2147483648 ≤ k ∧ k ≤ 2147483647) (htm : 0 ≤ tm ∧ tm ≤ 4) : ZXv (S := Unit) l yX1_requireTeam wsX1_requireTeam ({ frames := 6, cells := 1, slots := 6, locals := 90 }) D g [.ref x, .int (iI k)] (wLe g x b sh tr td bu sr lg tm hr en) (fun _ => 0 ≤ k ∧ k < tm) (fun _ => wLe g x b sh tr td bu sr lg tm hr en) (fun Ex => Ex = zXi ∧ ¬ (0 ≤ k ∧ k < tm)) 1 6 := by
  have hinX1 : ∀ w ∈ u_ws RX1 TX1 9, w ∈ wsX1_requireTeam := by decide +kernel
  have L43 : Cond.fieldLink RX1 43 "SandcastleLeague" "teams" "I" ∈ wsX1_requireTeam := by decide +kernel
  refine ZXv.of hlf (ty := .int) cX1_requireTeam 2 [(0, .ref x), (1, .int (iI k))] (by decide +kernel) rfl (nle rfl) rfl rfl ?_
  intro E hC hN hX hret hnew hprop
  refine z_iloadn 1 hC 1 dX1_requireTeam_0 rfl rfl rfl ?_
  refine z_if_lt 12 4 hC dX1_requireTeam_1 (by decide) rfl (by omega) (fun c_1 => ?_) (fun c_1 => ?_)
  · skip
    exact hnew (cls := zXi) (text := "there is no such team") (by decide +kernel) (by decide +kernel) (by decide +kernel) (by decide +kernel) (by decide +kernel) zn_i zg_i dX1_requireTeam_12 dX1_requireTeam_15 dX1_requireTeam_16 dX1_requireTeam_18 dX1_requireTeam_21 (by decide) (nle rfl) (by decide) (by decide) (by decide) (by decide) (by exact ⟨rfl, by omega⟩)
  · skip
    refine z_iloadn 5 hC 1 dX1_requireTeam_4 rfl rfl rfl ?_
    refine z_aloadn 6 hC 0 dX1_requireTeam_5 rfl rfl rfl ?_
    refine z_get 9 0 6 hC hinX1 L43 dX1_requireTeam_6 rfl rfl rfl (by decide) rfl ?_
    refine z_icmp_lt 22 12 hC dX1_requireTeam_9 (by decide) rfl (by omega) (by omega) (fun c_2 => ?_) (fun c_2 => ?_)
    · skip
      refine z_widen (k2 := 1) (n2 := 6) (by omega) (by omega) ?_
      exact hret () dX1_requireTeam_22 (by omega)
    · skip
      exact hnew (cls := zXi) (text := "there is no such team") (by decide +kernel) (by decide +kernel) (by decide +kernel) (by decide +kernel) (by decide +kernel) zn_i zg_i dX1_requireTeam_12 dX1_requireTeam_15 dX1_requireTeam_16 dX1_requireTeam_18 dX1_requireTeam_21 (by decide) (nle rfl) (by decide) (by decide) (by decide) (by decide) (by exact ⟨rfl, by omega⟩)
set_option maxHeartbeats 4000000 in
set_option maxRecDepth 100000 in
theorem c_X1_requireStrength (l : Launch) (hlf : l.stackTraces = false) (D : va_G) (g : Nat → ClassId) (x : Nat) (b : Nat → Nat) (sh tr : Nat) (td bu sr lg : Int → Int) (tm hr en : Int) (k : Int) (hk : 0 ≤ k ∧ k < 4) (hsr : Bd sr 4 0 20) : ZXv (S := Unit) l yX1_requireStrength wsX1_requireStrength ({ frames := 6, cells := 1, slots := 6, locals := 90 }) D g [.ref x, .int (iI k)] (wLe g x b sh tr td bu sr lg tm hr en) (fun _ => 0 < sr k) (fun _ => wLe g x b sh tr td bu sr lg tm hr en) (fun Ex => Ex = zXs ∧ sr k ≤ 0) 1 6 := by
  have hinX1 : ∀ w ∈ u_ws RX1 TX1 9, w ∈ wsX1_requireStrength := by decide +kernel
  have L34 : Cond.fieldLink RX1 34 "SandcastleLeague" "strength" "[I" ∈ wsX1_requireStrength := by decide +kernel
  refine ZXv.of hlf (ty := .int) cX1_requireStrength 2 [(0, .ref x), (1, .int (iI k))] (by decide +kernel) rfl (nle rfl) rfl rfl ?_
  intro E hC hN hX hret hnew hprop
  refine z_aloadn 1 hC 0 dX1_requireStrength_0 rfl rfl rfl ?_
  refine z_get 4 0 4 hC hinX1 L34 dX1_requireStrength_1 rfl rfl rfl (by decide) rfl ?_
  refine z_iloadn 5 hC 1 dX1_requireStrength_4 rfl rfl rfl ?_
  refine z_iald 6 3 hC dX1_requireStrength_5 rfl rfl (by decide) (by omega) ?_
  have b_1 := hsr k (by omega) (by omega)
  refine z_if_gt 19 9 hC dX1_requireStrength_6 (by decide) rfl (by omega) (fun c_2 => ?_) (fun c_2 => ?_)
  · skip
    refine z_widen (k2 := 1) (n2 := 6) (by omega) (by omega) ?_
    exact hret () dX1_requireStrength_19 (by omega)
  · skip
    exact hnew (cls := zXs) (text := "the team has no strength left") (by decide +kernel) (by decide +kernel) (by decide +kernel) (by decide +kernel) (by decide +kernel) zn_s zg_s dX1_requireStrength_9 dX1_requireStrength_12 dX1_requireStrength_13 dX1_requireStrength_15 dX1_requireStrength_18 (by decide) (nle rfl) (by decide) (by decide) (by decide) (by decide) (by exact ⟨rfl, by omega⟩)
end
section
/-! the numbers of the league -/
abbrev SS : Type := (Int → Int) × (Int → Int) × (Int → Int) × (Int → Int) × (Int → Int) × (Int → Int) × Int × Int × Int
def ssS (S : SS) : Int → Int := S.1
def ssF (S : SS) : Int → Int := S.2.1
def ssW (S : SS) : Int → Int := S.2.2.1
def ssO (S : SS) : Int → Int := S.2.2.2.1
def ssP (S : SS) : Int → Int := S.2.2.2.2.1
def ssT (S : SS) : Int → Int := S.2.2.2.2.2.1
def ssLo (S : SS) : Int := S.2.2.2.2.2.2.1
def ssSl (S : SS) : Int := S.2.2.2.2.2.2.2.1
def ssFa (S : SS) : Int := S.2.2.2.2.2.2.2.2
noncomputable def hourT (L : Int) (S : SS) : SS := (hS (ssS S) (ssF S) L, hF (ssS S) (ssF S) L, wet (ssS S) L, hO (ssS S) (ssF S) (ssO S) (ssP S) L, hP (ssS S) (ssF S) (ssO S) (ssP S) L, hT (ssS S) (ssF S) (ssO S) (ssP S) (ssT S) L, ssLo S + hLo (ssS S) (ssF S) L, hSl (ssS S) (ssF S) L, ssFa S + hFa (ssS S) (ssF S) (ssO S) (ssP S) L)
noncomputable def hrs (td : Int → Int) (hr : Int) (S : SS) (n : Int) : SS := foI (fun j X => hourT (td ((hr + j) % 12)) X) S n
theorem hrs_0 (td : Int → Int) (hr : Int) (S : SS) : hrs td hr S 0 = S := rfl
theorem hrs_s (td : Int → Int) (hr : Int) (S : SS) {i : Int} (h : 0 ≤ i) : hrs td hr S (i + 1) = hourT (td ((hr + i) % 12)) (hrs td hr S i) := foI_s _ _ h
def SB (S : SS) : Prop := Bd (ssS S) 120 0 20 ∧ Bd (ssF S) 120 0 5 ∧ Bd (ssW S) 120 0 1 ∧ Bd (ssO S) 120 (-1) 119 ∧ Bd (ssP S) 120 0 38
theorem hourT_T (L : Int) (S : SS) : ssT (hourT L S) = hT (ssS S) (ssF S) (ssO S) (ssP S) (ssT S) L := by dsimp only [ssT, hourT]
theorem hourT_S (L : Int) (S : SS) : ssS (hourT L S) = hS (ssS S) (ssF S) L := by dsimp only [ssS, hourT]
theorem hourT_F (L : Int) (S : SS) : ssF (hourT L S) = hF (ssS S) (ssF S) L := by dsimp only [ssF, hourT]
theorem hourT_W (L : Int) (S : SS) : ssW (hourT L S) = wet (ssS S) L := by dsimp only [ssW, hourT]
theorem hourT_O (L : Int) (S : SS) : ssO (hourT L S) = hO (ssS S) (ssF S) (ssO S) (ssP S) L := by dsimp only [ssO, hourT]
theorem hourT_P (L : Int) (S : SS) : ssP (hourT L S) = hP (ssS S) (ssF S) (ssO S) (ssP S) L := by dsimp only [ssP, hourT]
theorem jO_bd {s w o p : Int → Int} (i : Int) (h : Bd o 120 (-1) 119) : Bd (jO s w o p i) 120 (-1) 119 := by
  intro j a b
  have := h j a b
  unfold jO
  split <;> omega
theorem jP_bd {s w o p : Int → Int} (i : Int) (h : Bd p 120 0 38) : Bd (jP s w o p i) 120 0 38 := by
  intro j a b
  have := h j a b
  unfold jP
  split <;> omega
theorem hS_bd {s f : Int → Int} (L : Int) (h : Bd s 120 0 20) : Bd (hS s f L) 120 0 20 := by
  unfold hS hW1
  exact slA_bd 40 (wsh_bd f (wet s L) L 120 h)
theorem hourT_bd (L : Int) {S : SS} (h : SB S) : SB (hourT L S) := by
  obtain ⟨hs, hf, hw, ho, hp⟩ := h
  unfold SB
  rw [hourT_S, hourT_F, hourT_W, hourT_O, hourT_P]
  refine ⟨hS_bd L hs, ?_, wet_bd _ L, ?_, ?_⟩
  · unfold hF; exact wshF_bd _ 120 hf
  · unfold hO; exact jO_bd 120 ho
  · unfold hP; exact jP_bd 120 hp
theorem hrs_bd (td : Int → Int) (hr : Int) {S : SS} (h : SB S) {i : Int} (h0 : 0 ≤ i) : SB (hrs td hr S i) :=
  foI_ind (P := fun _ X => SB X) h (fun j X _ hX => hourT_bd _ hX) h0
set_option maxRecDepth 100000 in
/-- the points that an hour brings: at most 600 -/
theorem hourT_pt (L : Int) {S : SS} (h : SB S) {B : Int} (hPT : Bd (ssT S) 120 0 B) : Bd (ssT (hourT L S)) 120 0 (B + 600) := by
  intro j a b
  have h1 := hPT j a b
  have hs : Bd (hS (ssS S) (ssF S) L) 120 0 20 := (hourT_bd L h).1
  have h2 : Bd (fun q => if ssO S q = j ∧ fal (hS (ssS S) (ssF S) L) (wet (ssS S) L) (ssP S) q = 0 then 1 + hS (ssS S) (ssF S) L q / 5 else 0) 120 0 5 := by
    intro q c d
    have := hs q c d
    by_cases c9 : ssO S q = j ∧ fal (hS (ssS S) (ssF S) L) (wet (ssS S) L) (ssP S) q = 0
    · simp only [if_pos c9]; omega
    · simp only [if_neg c9]; omega
  have h3 := sumI_bd h2 (i := 120) (by omega) (by omega)
  rw [hourT_T]
  unfold hT jT
  omega
set_option maxRecDepth 100000 in
theorem hrs_pt (td : Int → Int) (hr : Int) {S : SS} (h : SB S) {B : Int} (hPT : Bd (ssT S) 120 0 B) {i : Int} (h0 : 0 ≤ i) : Bd (ssT (hrs td hr S i)) 120 0 (B + 600 * i) := by
  refine (foI_ind (P := fun (i : Int) (X : SS) => SB X ∧ Bd (ssT X) 120 0 (B + 600 * i)) ⟨h, by rw [Int.mul_zero, Int.add_zero]; exact hPT⟩ (fun j X _ hX => ⟨hourT_bd _ hX.1, ?_⟩) h0).2
  have := hourT_pt (td ((hr + j) % 12)) hX.1 hX.2
  rw [Int.mul_add, Int.mul_one, ← Int.add_assoc]
  exact this
def LI (td bu sr lg : Int → Int) (tm hr : Int) (S : SS) : Prop := Bd td 12 0 30 ∧ Bd bu 4 0 40 ∧ Bd sr 4 0 20 ∧ Bd lg 4 0 1000000 ∧ (0 ≤ tm ∧ tm ≤ 4) ∧ (0 ≤ hr ∧ hr ≤ 1000000) ∧ SB S ∧ Bd (ssT S) 120 0 1000000000
def ahI (lg t : Int → Int) (i k : Int) : Int := if lg k < lg i ∨ (lg i = lg k ∧ (t k < t i ∨ (t i = t k ∧ i < k))) then 1 else 0
def fwI' (t : Int → Int) (k tm : Int) : Int := sumI (fun j => if t j < t k then 1 else 0) tm
def ahN (lg t : Int → Int) (k tm : Int) : Int := sumI (fun j => ahI lg t j k) tm
def ldr (lg t : Int → Int) (tm pl i : Int) : Int := foI (fun j x => if ahN lg t j tm = pl then j else x) 0 i
theorem ldr_s (lg t : Int → Int) (tm pl : Int) {i : Int} (h : 0 ≤ i) : ldr lg t tm pl (i + 1) = if ahN lg t i tm = pl then i else ldr lg t tm pl i := foI_s _ _ h
/-- league points behind a round -/
def lgE (lg t : Int → Int) (tm i : Int) : Int → Int := fun j => if j < i then lg j + fwI' t j tm else lg j
def cV (S : SS) (tm hr en x : Int) : Int := if x = 0 then hr else if x = 1 then tm else if x = 2 then sumI (ssW S) 120 else if x = 3 then sumI (ssS S) 120 else if x = 4 then ssLo S else if x = 5 then ssSl S else if x = 6 then stkS (ssO S) else if x = 7 then ssFa S else en
def asum (f : Int → Int) (k : Int) : Int := sumI (fun j => if j % 12 / 3 = k then f j else 0) 120
def tV (bu sr lg : Int → Int) (S : SS) (k x : Int) : Int := if x = 0 then bu k else if x = 1 then sr k else if x = 2 then ssT S k else if x = 3 then cntS (ssO S) k else if x = 4 then asum (ssS S) k else if x = 5 then gha (ssS S) k 120 else if x = 6 then asum (ssW S) k else lg k
/-- which exception: by the number that the law gives it -/
def xIAS (z : Int) (Ex : String) : Prop := (z = 1 ∧ Ex = zXi) ∨ (z = 2 ∧ Ex = zXa) ∨ (z = 3 ∧ Ex = zXs)
def xAI (z : Int) (Ex : String) : Prop := (z = 1 ∧ Ex = zXa) ∨ (z = 2 ∧ Ex = zXi)
def thrD (tm : Int) (sr : Int → Int) (k x y n : Int) : Int := if ¬ (0 ≤ k ∧ k < tm) then 1 else if ¬ (0 ≤ x ∧ x < 12 ∧ 0 ≤ y ∧ y < 10 ∧ x / 3 = k ∧ 1 ≤ n ∧ n ≤ 5) then 2 else if sr k ≤ 0 then 3 else 0
def thrP (tm : Int) (sr o w : Int → Int) (k x y : Int) : Int := if thrD tm sr k x y 1 ≠ 0 then thrD tm sr k x y 1 else if 3 ≤ cntS o k ∨ o (x + 12 * y) ≠ -1 ∨ w (x + 12 * y) ≠ 0 then 3 else 0
end
section
set_option maxHeartbeats 4000000 in
set_option maxRecDepth 100000 in
theorem c_X1_letHoursGoBy (l : Launch) (D : va_G) (g : Nat → ClassId) (x : Nat) (b : Nat → Nat) (sh tr h : Nat) (a : Nat → Nat) (td bu sr lg : Int → Int) (tm hr en : Int) (S : SS) (n : Int) (htd : Bd td 12 0 30) (hhr : 0 ≤ hr ∧ hr ≤ 1000000) (hn : 0 ≤ n ∧ n ≤ 48) (hSB : SB S) : ZMv (S := Unit) l yX1_letHoursGoBy wsX1_letHoursGoBy ({ frames := 5, cells := 0, slots := 0, locals := 250 }) D g [.ref x, .ref h, .int (iI n)] ((wLe g x b sh tr td bu sr lg tm hr en) ++ ((wSh g h a (ssS S) (ssF S) (ssW S) (ssO S) (ssP S) (ssT S) (ssLo S) (ssSl S) (ssFa S)))) (fun _ => True) (fun _ => (wLe g x b sh tr td bu sr lg tm hr en) ++ ((wSh g h a (ssS (hrs td hr S n)) (ssF (hrs td hr S n)) (ssW (hrs td hr S n)) (ssO (hrs td hr S n)) (ssP (hrs td hr S n)) (ssT (hrs td hr S n)) (ssLo (hrs td hr S n)) (ssSl (hrs td hr S n)) (ssFa (hrs td hr S n))))) 0 0 := by
  have hinX1 : ∀ w ∈ u_ws RX1 TX1 9, w ∈ wsX1_letHoursGoBy := by decide +kernel
  have L28 : Cond.fieldLink RX1 28 "SandcastleLeague" "tides" "[I" ∈ wsX1_letHoursGoBy := by decide +kernel
  have L131 : Cond.fieldLink RX1 131 "SandcastleLeague" "hour" "I" ∈ wsX1_letHoursGoBy := by decide +kernel
  refine ZMv.of (ty := .int) (own := RX1) cX1_letHoursGoBy 4 [(0, .ref x), (1, .ref h), (2, .int (iI n))] (by decide +kernel) rfl (nle rfl) rfl rfl ?_
  intro E hC hN hret
  refine z_iconst 1 hC dX1_letHoursGoBy_0 rfl ?_
  refine z_istoren (lv' := [(3, .int (iI 0)), (0, .ref x), (1, .ref h), (2, .int (iI n))]) 2 hC dX1_letHoursGoBy_1 rfl rfl (by decide) rfl ?_
  have loop2 : ∀ (N2 : Nat) (i : Int), 0 ≤ i ∧ i ≤ n → (n - i : Int) < N2 → Z E ((wLe g x b sh tr td bu sr lg tm hr en) ++ ((wSh g h a (ssS (hrs td hr S i)) (ssF (hrs td hr S i)) (ssW (hrs td hr S i)) (ssO (hrs td hr S i)) (ssP (hrs td hr S i)) (ssT (hrs td hr S i)) (ssLo (hrs td hr S i)) (ssSl (hrs td hr S i)) (ssFa (hrs td hr S i))))) [(0, .ref x), (1, .ref h), (2, .int (iI n)), (3, .int (iI i))] 0 0 2 [] := by
    intro N2
    induction N2 with
    | zero => intro i hi hm2; exact absurd hm2 (by omega)
    | succ N2 ih2 =>
      intro i hi hm2
      have qB := hrs_bd td hr hSB hi.1
      obtain ⟨q1, q2, q3, q4, q5⟩ := id qB
      refine z_iloadn 3 hC 3 dX1_letHoursGoBy_2 rfl rfl rfl ?_
      refine z_iloadn 4 hC 2 dX1_letHoursGoBy_3 rfl rfl rfl ?_
      refine z_icmp_ge 33 7 hC dX1_letHoursGoBy_4 (by decide) rfl (by omega) (by omega) (fun c_1 => ?_) (fun c_1 => ?_)
      · skip
        obtain rfl : n = i := by omega
        refine z_weq (ws' := (wLe g x b sh tr td bu sr lg tm hr en) ++ ((wSh g h a (ssS (hrs td hr S n)) (ssF (hrs td hr S n)) (ssW (hrs td hr S n)) (ssO (hrs td hr S n)) (ssP (hrs td hr S n)) (ssT (hrs td hr S n)) (ssLo (hrs td hr S n)) (ssSl (hrs td hr S n)) (ssFa (hrs td hr S n))))) (zEq.cons zE1.rf (zEq.cons zE1.rf (zEq.cons zE1.rf (zEq.cons zE1.rf (zEq.cons zE1.rf (zEq.cons (zE1.obj (zfk (zfk (zfk (zfk (zfk (zfk (zfc (by first | rfl | (rw [hrs_s td hr S hi.1]; rfl)) (zfc (by first | rfl | (rw [hrs_s td hr S hi.1]; rfl)) (zfc (by first | rfl | (rw [hrs_s td hr S hi.1]; rfl)) rfl)))))))))) (zEq.cons (zE1.arr (by first | (intro j h0 h1; rfl) | (intro j h0 h1; first | rfl | omega))) (zEq.cons (zE1.arr (by first | (intro j h0 h1; rfl) | (intro j h0 h1; first | rfl | omega))) (zEq.cons (zE1.arr (by first | (intro j h0 h1; rfl) | (intro j h0 h1; first | rfl | omega))) (zEq.cons (zE1.arr (by first | (intro j h0 h1; rfl) | (intro j h0 h1; first | rfl | omega))) (zEq.cons (zE1.arr (by first | (intro j h0 h1; rfl) | (intro j h0 h1; first | rfl | omega))) (zEq.cons (zE1.arr (by first | (intro j h0 h1; rfl) | (intro j h0 h1; first | rfl | omega))) zEq.nil)))))))))))) ?_
        exact hret () dX1_letHoursGoBy_33 (by trivial)
      · skip
        refine z_aloadn 8 hC 1 dX1_letHoursGoBy_7 rfl rfl rfl ?_
        refine z_aloadn 9 hC 0 dX1_letHoursGoBy_8 rfl rfl rfl ?_
        refine z_get 12 0 2 hC hinX1 L28 dX1_letHoursGoBy_9 rfl rfl rfl (by decide) rfl ?_
        refine z_aloadn 13 hC 0 dX1_letHoursGoBy_12 rfl rfl rfl ?_
        refine z_get 16 0 7 hC hinX1 L131 dX1_letHoursGoBy_13 rfl rfl rfl (by decide) rfl ?_
        refine z_iloadn 17 hC 3 dX1_letHoursGoBy_16 rfl rfl rfl ?_
        refine z_iadd 18 hC dX1_letHoursGoBy_17 rfl ?_
        refine z_bipush 20 hC dX1_letHoursGoBy_18 (by decide) rfl ?_
        refine z_calli (wr := [(x, .inr (1, [.ref sh, .ref tr, .ref (b 0), .ref (b 1), .ref (b 2), .ref (b 3), .int (iI tm), .int (iI hr), .int (iI en)])), ((b 0), ar g 12 td), ((b 1), ar g 4 bu), ((b 2), ar g 4 sr), ((b 3), ar g 4 lg), (h, .inr (0, [.ref (a 0), .ref (a 1), .ref (a 2), .ref (a 3), .ref (a 4), .ref (a 5), .int (iI (ssLo (hrs td hr S i))), .int (iI (ssSl (hrs td hr S i))), .int (iI (ssFa (hrs td hr S i)))])), ((a 0), ar g 120 (ssS (hrs td hr S i))), ((a 1), ar g 120 (ssF (hrs td hr S i))), ((a 2), ar g 120 (ssW (hrs td hr S i))), ((a 3), ar g 120 (ssO (hrs td hr S i))), ((a 4), ar g 120 (ssP (hrs td hr S i))), ((a 5), ar g 120 (ssT (hrs td hr S i)))]) (w2 := fun _ => (wLe g x b sh tr td bu sr lg tm hr en) ++ ((wSh g h a (ssS (hrs td hr S i)) (ssF (hrs td hr S i)) (ssW (hrs td hr S i)) (ssO (hrs td hr S i)) (ssP (hrs td hr S i)) (ssT (hrs td hr S i)) (ssLo (hrs td hr S i)) (ssSl (hrs td hr S i)) (ssFa (hrs td hr S i))))) 23 hC [] [0, 1, 2, 3, 4, 5, 6, 7, 8, 9, 10, 11] [0, 1, 2, 3, 4, 5, 6, 7, 8, 9, 10, 11] (z_runS (nA := 2) hC hN (c_J9_floorMod_7cf53 l D g (hr + i) 12 (by omega) (by omega)) [] rfl (by decide) gX1_letHoursGoBy_J9_floorMod_7cf53 (by decide +kernel) rfl rfl rfl ⟨by decide, by decide⟩ rfl rfl (nle rfl) dX1_letHoursGoBy_20 ⟨by decide, by decide⟩) rfl rfl (by decide) (by decide) (fun _ => rfl) (by decide) rfl (k2 := 0) (n2 := 0) rfl rfl (fun z_2 _ p_3 => ?_)
        subst p_3
        refine z_iald 24 1 hC dX1_letHoursGoBy_23 rfl rfl (by decide) (by omega) ?_
        have b_4 := htd ((hr + i) % 12) (by omega) (by omega)
        refine z_callv (wr := [(x, .inr (1, [.ref sh, .ref tr, .ref (b 0), .ref (b 1), .ref (b 2), .ref (b 3), .int (iI tm), .int (iI hr), .int (iI en)])), ((b 0), ar g 12 td), ((b 1), ar g 4 bu), ((b 2), ar g 4 sr), ((b 3), ar g 4 lg)]) (w2 := fun _ => (wLe g x b sh tr td bu sr lg tm hr en) ++ ((wSh g h a (hS (ssS (hrs td hr S i)) (ssF (hrs td hr S i)) (td ((hr + i) % 12))) (hF (ssS (hrs td hr S i)) (ssF (hrs td hr S i)) (td ((hr + i) % 12))) (wet (ssS (hrs td hr S i)) (td ((hr + i) % 12))) (hO (ssS (hrs td hr S i)) (ssF (hrs td hr S i)) (ssO (hrs td hr S i)) (ssP (hrs td hr S i)) (td ((hr + i) % 12))) (hP (ssS (hrs td hr S i)) (ssF (hrs td hr S i)) (ssO (hrs td hr S i)) (ssP (hrs td hr S i)) (td ((hr + i) % 12))) (hT (ssS (hrs td hr S i)) (ssF (hrs td hr S i)) (ssO (hrs td hr S i)) (ssP (hrs td hr S i)) (ssT (hrs td hr S i)) (td ((hr + i) % 12))) ((ssLo (hrs td hr S i)) + hLo (ssS (hrs td hr S i)) (ssF (hrs td hr S i)) (td ((hr + i) % 12))) (hSl (ssS (hrs td hr S i)) (ssF (hrs td hr S i)) (td ((hr + i) % 12))) ((ssFa (hrs td hr S i)) + hFa (ssS (hrs td hr S i)) (ssF (hrs td hr S i)) (ssO (hrs td hr S i)) (ssP (hrs td hr S i)) (td ((hr + i) % 12)))))) 27 hC [5, 6, 7, 8, 9, 10, 11] [0, 1, 2, 3, 4] [0, 1, 2, 3, 4, 5, 6, 7, 8, 9, 10, 11] (z_runV (nA := 1) hC hN (c_X0_letHourGoBy l D g h a (ssS (hrs td hr S i)) (ssF (hrs td hr S i)) (ssW (hrs td hr S i)) (ssO (hrs td hr S i)) (ssP (hrs td hr S i)) (ssT (hrs td hr S i)) (ssLo (hrs td hr S i)) (ssSl (hrs td hr S i)) (ssFa (hrs td hr S i)) (td ((hr + i) % 12)) q1 q2 q4 q5 (by omega)) [5, 6, 7, 8, 9, 10, 11] rfl (by decide) gX1_letHoursGoBy_X0_letHourGoBy (by decide +kernel) rfl rfl rfl ⟨by decide, by decide⟩ rfl rfl (nle rfl) dX1_letHoursGoBy_24 ⟨by decide, by decide⟩ 5 rfl rfl) rfl rfl (by decide) (by decide) (fun _ => rfl) (by decide) rfl (k2 := 0) (n2 := 0) rfl rfl (fun _ p_5 => ?_)
        refine z_iinc (lv' := [(3, .int (iI (i + 1))), (0, .ref x), (1, .ref h), (2, .int (iI n))]) 30 3 hC dX1_letHoursGoBy_27 rfl rfl (by decide) rfl ?_
        refine z_goto 2 hC dX1_letHoursGoBy_30 (by decide) ?_
        refine z_lv (lv' := [(0, .ref x), (1, .ref h), (2, .int (iI n)), (3, .int (iI (i + 1)))]) [1, 2, 3, 0] rfl ?_
        refine z_weq (ws' := (wLe g x b sh tr td bu sr lg tm hr en) ++ ((wSh g h a (ssS (hrs td hr S (i + 1))) (ssF (hrs td hr S (i + 1))) (ssW (hrs td hr S (i + 1))) (ssO (hrs td hr S (i + 1))) (ssP (hrs td hr S (i + 1))) (ssT (hrs td hr S (i + 1))) (ssLo (hrs td hr S (i + 1))) (ssSl (hrs td hr S (i + 1))) (ssFa (hrs td hr S (i + 1)))))) (zEq.cons zE1.rf (zEq.cons zE1.rf (zEq.cons zE1.rf (zEq.cons zE1.rf (zEq.cons zE1.rf (zEq.cons (zE1.obj (zfk (zfk (zfk (zfk (zfk (zfk (zfc (by first | rfl | (rw [hrs_s td hr S hi.1]; rfl)) (zfc (by first | rfl | (rw [hrs_s td hr S hi.1]; rfl)) (zfc (by first | rfl | (rw [hrs_s td hr S hi.1]; rfl)) rfl)))))))))) (zEq.cons (zE1.arr (by first | (intro j h0 h1; rfl) | (intro j h0 h1; rw [hrs_s td hr S hi.1]; rfl))) (zEq.cons (zE1.arr (by first | (intro j h0 h1; rfl) | (intro j h0 h1; rw [hrs_s td hr S hi.1]; rfl))) (zEq.cons (zE1.arr (by first | (intro j h0 h1; rfl) | (intro j h0 h1; rw [hrs_s td hr S hi.1]; rfl))) (zEq.cons (zE1.arr (by first | (intro j h0 h1; rfl) | (intro j h0 h1; rw [hrs_s td hr S hi.1]; rfl))) (zEq.cons (zE1.arr (by first | (intro j h0 h1; rfl) | (intro j h0 h1; rw [hrs_s td hr S hi.1]; rfl))) (zEq.cons (zE1.arr (by first | (intro j h0 h1; rfl) | (intro j h0 h1; rw [hrs_s td hr S hi.1]; rfl))) zEq.nil)))))))))))) ?_
        exact ih2 (i + 1) (by omega) (by omega)
  refine z_lv (lv' := [(0, .ref x), (1, .ref h), (2, .int (iI n)), (3, .int (iI 0))]) [1, 2, 3, 0] rfl ?_
  refine z_weq (ws' := (wLe g x b sh tr td bu sr lg tm hr en) ++ ((wSh g h a (ssS (hrs td hr S 0)) (ssF (hrs td hr S 0)) (ssW (hrs td hr S 0)) (ssO (hrs td hr S 0)) (ssP (hrs td hr S 0)) (ssT (hrs td hr S 0)) (ssLo (hrs td hr S 0)) (ssSl (hrs td hr S 0)) (ssFa (hrs td hr S 0))))) (zEq.cons zE1.rf (zEq.cons zE1.rf (zEq.cons zE1.rf (zEq.cons zE1.rf (zEq.cons zE1.rf (zEq.cons (zE1.obj (zfk (zfk (zfk (zfk (zfk (zfk (zfc (by first | rfl | (rw [hrs_s td hr S hi.1]; rfl)) (zfc (by first | rfl | (rw [hrs_s td hr S hi.1]; rfl)) (zfc (by first | rfl | (rw [hrs_s td hr S hi.1]; rfl)) rfl)))))))))) (zEq.cons (zE1.arr (by first | (intro j h0 h1; rfl) | (intro j h0 h1; first | rfl | omega))) (zEq.cons (zE1.arr (by first | (intro j h0 h1; rfl) | (intro j h0 h1; first | rfl | omega))) (zEq.cons (zE1.arr (by first | (intro j h0 h1; rfl) | (intro j h0 h1; first | rfl | omega))) (zEq.cons (zE1.arr (by first | (intro j h0 h1; rfl) | (intro j h0 h1; first | rfl | omega))) (zEq.cons (zE1.arr (by first | (intro j h0 h1; rfl) | (intro j h0 h1; first | rfl | omega))) (zEq.cons (zE1.arr (by first | (intro j h0 h1; rfl) | (intro j h0 h1; first | rfl | omega))) zEq.nil)))))))))))) ?_
  exact loop2 ((n - 0 + 1 : Int).toNat) 0 (by omega) (by omega)
set_option maxHeartbeats 4000000 in
set_option maxRecDepth 100000 in
theorem c_X1_teamsWithFewerPoints (l : Launch) (D : va_G) (g : Nat → ClassId) (x : Nat) (b : Nat → Nat) (h tr : Nat) (a : Nat → Nat) (td bu sr lg : Int → Int) (tm hr en : Int) (S : SS) (k : Int) (hlg : Bd lg 4 0 1000000) (htm : 0 ≤ tm ∧ tm ≤ 4) (hT : Bd (ssT S) 120 0 1000000000) (hk : 0 ≤ k ∧ k < tm) : ZMi (S := Unit) l yX1_teamsWithFewerPoints wsX1_teamsWithFewerPoints ({ frames := 1, cells := 0, slots := 0, locals := 60 }) D g [.ref x, .int (iI k)] ((wLe g x b h tr td bu sr lg tm hr en) ++ ((wSh g h a (ssS S) (ssF S) (ssW S) (ssO S) (ssP S) (ssT S) (ssLo S) (ssSl S) (ssFa S)))) (fun z _ => z = fwI' (ssT S) k tm) (fun _ => (wLe g x b h tr td bu sr lg tm hr en) ++ ((wSh g h a (ssS S) (ssF S) (ssW S) (ssO S) (ssP S) (ssT S) (ssLo S) (ssSl S) (ssFa S)))) 0 0 := by
  have hinX1 : ∀ w ∈ u_ws RX1 TX1 9, w ∈ wsX1_teamsWithFewerPoints := by decide +kernel
  have L10 : Cond.fieldLink RX1 10 "SandcastleLeague" "shore" "LSandcastleLeague$Shore;" ∈ wsX1_teamsWithFewerPoints := by decide +kernel
  have L43 : Cond.fieldLink RX1 43 "SandcastleLeague" "teams" "I" ∈ wsX1_teamsWithFewerPoints := by decide +kernel
  refine ZMi.of (own := RX1) cX1_teamsWithFewerPoints 4 [(0, .ref x), (1, .int (iI k))] (by decide +kernel) rfl (nle rfl) rfl rfl ?_
  intro E hC hN hret
  refine z_iconst 1 hC dX1_teamsWithFewerPoints_0 rfl ?_
  refine z_istoren (lv' := [(2, .int (iI 0)), (0, .ref x), (1, .int (iI k))]) 2 hC dX1_teamsWithFewerPoints_1 rfl rfl (by decide) rfl ?_
  refine z_iconst 3 hC dX1_teamsWithFewerPoints_2 rfl ?_
  refine z_istoren (lv' := [(3, .int (iI 0)), (2, .int (iI 0)), (0, .ref x), (1, .int (iI k))]) 4 hC dX1_teamsWithFewerPoints_3 rfl rfl (by decide) rfl ?_
  have loop4 : ∀ (N4 : Nat) (i : Int), 0 ≤ i ∧ i ≤ tm → (tm - i : Int) < N4 → Z E ((wLe g x b h tr td bu sr lg tm hr en) ++ ((wSh g h a (ssS S) (ssF S) (ssW S) (ssO S) (ssP S) (ssT S) (ssLo S) (ssSl S) (ssFa S)))) [(0, .ref x), (1, .int (iI k)), (2, .int (iI (sumI (fun j => if ssT S j < ssT S k then 1 else 0) i))), (3, .int (iI i))] 0 0 4 [] := by
    intro N4
    induction N4 with
    | zero => intro i hi hm4; exact absurd hm4 (by omega)
    | succ N4 ih4 =>
      intro i hi hm4
      refine z_iloadn 5 hC 3 dX1_teamsWithFewerPoints_4 rfl rfl rfl ?_
      refine z_aloadn 6 hC 0 dX1_teamsWithFewerPoints_5 rfl rfl rfl ?_
      refine z_get 9 0 6 hC hinX1 L43 dX1_teamsWithFewerPoints_6 rfl rfl rfl (by decide) rfl ?_
      refine z_icmp_ge 40 12 hC dX1_teamsWithFewerPoints_9 (by decide) rfl (by omega) (by omega) (fun c_1 => ?_) (fun c_1 => ?_)
      · skip
        obtain rfl : tm = i := by omega
        refine z_iloadn 41 hC 2 dX1_teamsWithFewerPoints_40 rfl rfl rfl ?_
        exact hret () dX1_teamsWithFewerPoints_41 rfl (by rfl)
      · skip
        have b1 := hT i (by omega) (by omega)
        have b2 := hT k (by omega) (by omega)
        refine z_aloadn 13 hC 0 dX1_teamsWithFewerPoints_12 rfl rfl rfl ?_
        refine z_get 16 0 0 hC hinX1 L10 dX1_teamsWithFewerPoints_13 rfl rfl rfl (by decide) rfl ?_
        refine z_iloadn 17 hC 3 dX1_teamsWithFewerPoints_16 rfl rfl rfl ?_
        refine z_calli (wr := [(x, .inr (1, [.ref h, .ref tr, .ref (b 0), .ref (b 1), .ref (b 2), .ref (b 3), .int (iI tm), .int (iI hr), .int (iI en)])), ((b 0), ar g 12 td), ((b 1), ar g 4 bu), ((b 2), ar g 4 sr), ((b 3), ar g 4 lg)]) (w2 := fun _ => (wLe g x b h tr td bu sr lg tm hr en) ++ ((wSh g h a (ssS S) (ssF S) (ssW S) (ssO S) (ssP S) (ssT S) (ssLo S) (ssSl S) (ssFa S)))) 20 hC [5, 6, 7, 8, 9, 10, 11] [0, 1, 2, 3, 4] [0, 1, 2, 3, 4, 5, 6, 7, 8, 9, 10, 11] (z_runV (nA := 1) hC hN (c_X0_pointsOf l D g h a (ssS S) (ssF S) (ssW S) (ssO S) (ssP S) (ssT S) (ssLo S) (ssSl S) (ssFa S) i (by omega)) [5, 6, 7, 8, 9, 10, 11] rfl (by decide) gX1_teamsWithFewerPoints_X0_pointsOf (by decide +kernel) rfl rfl rfl ⟨by decide, by decide⟩ rfl rfl (nle rfl) dX1_teamsWithFewerPoints_17 ⟨by decide, by decide⟩ 5 rfl rfl) rfl rfl (by decide) (by decide) (fun _ => rfl) (by decide) rfl (k2 := 0) (n2 := 0) rfl rfl (fun z_2 _ p_3 => ?_)
        subst p_3
        refine z_aloadn 21 hC 0 dX1_teamsWithFewerPoints_20 rfl rfl rfl ?_
        refine z_get 24 0 0 hC hinX1 L10 dX1_teamsWithFewerPoints_21 rfl rfl rfl (by decide) rfl ?_
        refine z_iloadn 25 hC 1 dX1_teamsWithFewerPoints_24 rfl rfl rfl ?_
        refine z_calli (wr := [(x, .inr (1, [.ref h, .ref tr, .ref (b 0), .ref (b 1), .ref (b 2), .ref (b 3), .int (iI tm), .int (iI hr), .int (iI en)])), ((b 0), ar g 12 td), ((b 1), ar g 4 bu), ((b 2), ar g 4 sr), ((b 3), ar g 4 lg)]) (w2 := fun _ => (wLe g x b h tr td bu sr lg tm hr en) ++ ((wSh g h a (ssS S) (ssF S) (ssW S) (ssO S) (ssP S) (ssT S) (ssLo S) (ssSl S) (ssFa S)))) 28 hC [5, 6, 7, 8, 9, 10, 11] [0, 1, 2, 3, 4] [0, 1, 2, 3, 4, 5, 6, 7, 8, 9, 10, 11] (z_runV (nA := 1) hC hN (c_X0_pointsOf l D g h a (ssS S) (ssF S) (ssW S) (ssO S) (ssP S) (ssT S) (ssLo S) (ssSl S) (ssFa S) k (by omega)) [5, 6, 7, 8, 9, 10, 11] rfl (by decide) gX1_teamsWithFewerPoints_X0_pointsOf (by decide +kernel) rfl rfl rfl ⟨by decide, by decide⟩ rfl rfl (nle rfl) dX1_teamsWithFewerPoints_25 ⟨by decide, by decide⟩ 5 rfl rfl) rfl rfl (by decide) (by decide) (fun _ => rfl) (by decide) rfl (k2 := 0) (n2 := 0) rfl rfl (fun z_4 _ p_5 => ?_)
        subst p_5
        refine z_icmp_ge 34 31 hC dX1_teamsWithFewerPoints_28 (by decide) rfl (by omega) (by omega) (fun c_6 => ?_) (fun c_6 => ?_)
        · skip
          refine z_iinc (lv' := [(3, .int (iI (i + 1))), (0, .ref x), (1, .int (iI k)), (2, .int (iI (sumI (fun j => if ssT S j < ssT S k then 1 else 0) i)))]) 37 3 hC dX1_teamsWithFewerPoints_34 rfl rfl (by decide) rfl ?_
          refine z_goto 4 hC dX1_teamsWithFewerPoints_37 (by decide) ?_
          refine z_lv (lv' := [(0, .ref x), (1, .int (iI k)), (2, .int (iI (sumI (fun j => if ssT S j < ssT S k then 1 else 0) i))), (3, .int (iI (i + 1)))]) [1, 2, 3, 0] rfl ?_
          refine z_lveq (lv' := [(0, .ref x), (1, .int (iI k)), (2, .int (iI (sumI (fun j => if ssT S j < ssT S k then 1 else 0) (i + 1)))), (3, .int (iI (i + 1)))]) (zfk (zfk (zlc (by first | exact sumI_n (by omega) (if_neg (by omega)) | exact sumI_y (by omega) (if_pos (by omega)).symm) (zfk rfl)))) ?_
          exact ih4 (i + 1) (by omega) (by omega)
        · skip
          refine z_iinc (lv' := [(2, .int (iI ((sumI (fun j => if ssT S j < ssT S k then 1 else 0) i) + 1))), (0, .ref x), (1, .int (iI k)), (3, .int (iI i))]) 34 2 hC dX1_teamsWithFewerPoints_31 rfl rfl (by decide) rfl ?_
          refine z_iinc (lv' := [(3, .int (iI (i + 1))), (2, .int (iI ((sumI (fun j => if ssT S j < ssT S k then 1 else 0) i) + 1))), (0, .ref x), (1, .int (iI k))]) 37 3 hC dX1_teamsWithFewerPoints_34 rfl rfl (by decide) rfl ?_
          refine z_goto 4 hC dX1_teamsWithFewerPoints_37 (by decide) ?_
          refine z_lv (lv' := [(0, .ref x), (1, .int (iI k)), (2, .int (iI ((sumI (fun j => if ssT S j < ssT S k then 1 else 0) i) + 1))), (3, .int (iI (i + 1)))]) [2, 3, 1, 0] rfl ?_
          refine z_lveq (lv' := [(0, .ref x), (1, .int (iI k)), (2, .int (iI (sumI (fun j => if ssT S j < ssT S k then 1 else 0) (i + 1)))), (3, .int (iI (i + 1)))]) (zfk (zfk (zlc (by first | exact sumI_n (by omega) (if_neg (by omega)) | exact sumI_y (by omega) (if_pos (by omega)).symm) (zfk rfl)))) ?_
          exact ih4 (i + 1) (by omega) (by omega)
  refine z_lv (lv' := [(0, .ref x), (1, .int (iI k)), (2, .int (iI 0)), (3, .int (iI 0))]) [2, 3, 1, 0] rfl ?_
  refine z_lveq (lv' := [(0, .ref x), (1, .int (iI k)), (2, .int (iI (sumI (fun j => if ssT S j < ssT S k then 1 else 0) 0))), (3, .int (iI 0))]) (zfk (zfk (zlc (by rfl) (zfk rfl)))) ?_
  exact loop4 ((tm - 0 + 1 : Int).toNat) 0 (by omega) (by omega)
set_option maxHeartbeats 4000000 in
set_option maxRecDepth 100000 in
theorem c_X1_isAhead (l : Launch) (D : va_G) (g : Nat → ClassId) (x : Nat) (b : Nat → Nat) (h tr : Nat) (a : Nat → Nat) (td bu sr lg : Int → Int) (tm hr en : Int) (S : SS) (i : Int) (k : Int) (hlg : Bd lg 4 0 1000000) (htm : 0 ≤ tm ∧ tm ≤ 4) (hT : Bd (ssT S) 120 0 1000000000) (hi : 0 ≤ i ∧ i < tm) (hk : 0 ≤ k ∧ k < tm) : ZMi (S := Unit) l yX1_isAhead wsX1_isAhead ({ frames := 1, cells := 0, slots := 0, locals := 60 }) D g [.ref x, .int (iI i), .int (iI k)] ((wLe g x b h tr td bu sr lg tm hr en) ++ ((wSh g h a (ssS S) (ssF S) (ssW S) (ssO S) (ssP S) (ssT S) (ssLo S) (ssSl S) (ssFa S)))) (fun z _ => z = ahI lg (ssT S) i k) (fun _ => (wLe g x b h tr td bu sr lg tm hr en) ++ ((wSh g h a (ssS S) (ssF S) (ssW S) (ssO S) (ssP S) (ssT S) (ssLo S) (ssSl S) (ssFa S)))) 0 0 := by
  have hinX1 : ∀ w ∈ u_ws RX1 TX1 9, w ∈ wsX1_isAhead := by decide +kernel
  have L10 : Cond.fieldLink RX1 10 "SandcastleLeague" "shore" "LSandcastleLeague$Shore;" ∈ wsX1_isAhead := by decide +kernel
  have L37 : Cond.fieldLink RX1 37 "SandcastleLeague" "leaguePoints" "[I" ∈ wsX1_isAhead := by decide +kernel
  refine ZMi.of (own := RX1) cX1_isAhead 3 [(0, .ref x), (1, .int (iI i)), (2, .int (iI k))] (by decide +kernel) rfl (nle rfl) rfl rfl ?_
  intro E hC hN hret
  have b1 := hT i (by omega) (by omega)
  have b2 := hT k (by omega) (by omega)
  refine z_aloadn 1 hC 0 dX1_isAhead_0 rfl rfl rfl ?_
  refine z_get 4 0 5 hC hinX1 L37 dX1_isAhead_1 rfl rfl rfl (by decide) rfl ?_
  refine z_iloadn 5 hC 1 dX1_isAhead_4 rfl rfl rfl ?_
  refine z_iald 6 4 hC dX1_isAhead_5 rfl rfl (by decide) (by omega) ?_
  have b_1 := hlg i (by omega) (by omega)
  refine z_aloadn 7 hC 0 dX1_isAhead_6 rfl rfl rfl ?_
  refine z_get 10 0 5 hC hinX1 L37 dX1_isAhead_7 rfl rfl rfl (by decide) rfl ?_
  refine z_iloadn 11 hC 2 dX1_isAhead_10 rfl rfl rfl ?_
  refine z_iald 12 4 hC dX1_isAhead_11 rfl rfl (by decide) (by omega) ?_
  have b_2 := hlg k (by omega) (by omega)
  refine z_icmp_eq 36 15 hC dX1_isAhead_12 (by decide) rfl (by omega) (by omega) (fun c_3 => ?_) (fun c_3 => ?_)
  · skip
    refine z_aloadn 37 hC 0 dX1_isAhead_36 rfl rfl rfl ?_
    refine z_get 40 0 0 hC hinX1 L10 dX1_isAhead_37 rfl rfl rfl (by decide) rfl ?_
    refine z_iloadn 41 hC 1 dX1_isAhead_40 rfl rfl rfl ?_
    refine z_calli (wr := [(x, .inr (1, [.ref h, .ref tr, .ref (b 0), .ref (b 1), .ref (b 2), .ref (b 3), .int (iI tm), .int (iI hr), .int (iI en)])), ((b 0), ar g 12 td), ((b 1), ar g 4 bu), ((b 2), ar g 4 sr), ((b 3), ar g 4 lg)]) (w2 := fun _ => (wLe g x b h tr td bu sr lg tm hr en) ++ ((wSh g h a (ssS S) (ssF S) (ssW S) (ssO S) (ssP S) (ssT S) (ssLo S) (ssSl S) (ssFa S)))) 44 hC [5, 6, 7, 8, 9, 10, 11] [0, 1, 2, 3, 4] [0, 1, 2, 3, 4, 5, 6, 7, 8, 9, 10, 11] (z_runV (nA := 1) hC hN (c_X0_pointsOf l D g h a (ssS S) (ssF S) (ssW S) (ssO S) (ssP S) (ssT S) (ssLo S) (ssSl S) (ssFa S) i (by omega)) [5, 6, 7, 8, 9, 10, 11] rfl (by decide) gX1_isAhead_X0_pointsOf (by decide +kernel) rfl rfl rfl ⟨by decide, by decide⟩ rfl rfl (nle rfl) dX1_isAhead_41 ⟨by decide, by decide⟩ 5 rfl rfl) rfl rfl (by decide) (by decide) (fun _ => rfl) (by decide) rfl (k2 := 0) (n2 := 0) rfl rfl (fun z_4 _ p_5 => ?_)
    subst p_5
    refine z_aloadn 45 hC 0 dX1_isAhead_44 rfl rfl rfl ?_
    refine z_get 48 0 0 hC hinX1 L10 dX1_isAhead_45 rfl rfl rfl (by decide) rfl ?_
    refine z_iloadn 49 hC 2 dX1_isAhead_48 rfl rfl rfl ?_
    refine z_calli (wr := [(x, .inr (1, [.ref h, .ref tr, .ref (b 0), .ref (b 1), .ref (b 2), .ref (b 3), .int (iI tm), .int (iI hr), .int (iI en)])), ((b 0), ar g 12 td), ((b 1), ar g 4 bu), ((b 2), ar g 4 sr), ((b 3), ar g 4 lg)]) (w2 := fun _ => (wLe g x b h tr td bu sr lg tm hr en) ++ ((wSh g h a (ssS S) (ssF S) (ssW S) (ssO S) (ssP S) (ssT S) (ssLo S) (ssSl S) (ssFa S)))) 52 hC [5, 6, 7, 8, 9, 10, 11] [0, 1, 2, 3, 4] [0, 1, 2, 3, 4, 5, 6, 7, 8, 9, 10, 11] (z_runV (nA := 1) hC hN (c_X0_pointsOf l D g h a (ssS S) (ssF S) (ssW S) (ssO S) (ssP S) (ssT S) (ssLo S) (ssSl S) (ssFa S) k (by omega)) [5, 6, 7, 8, 9, 10, 11] rfl (by decide) gX1_isAhead_X0_pointsOf (by decide +kernel) rfl rfl rfl ⟨by decide, by decide⟩ rfl rfl (nle rfl) dX1_isAhead_49 ⟨by decide, by decide⟩ 5 rfl rfl) rfl rfl (by decide) (by decide) (fun _ => rfl) (by decide) rfl (k2 := 0) (n2 := 0) rfl rfl (fun z_6 _ p_7 => ?_)
    subst p_7
    refine z_icmp_eq 80 55 hC dX1_isAhead_52 (by decide) rfl (by omega) (by omega) (fun c_8 => ?_) (fun c_8 => ?_)
    · skip
      refine z_iloadn 81 hC 1 dX1_isAhead_80 rfl rfl rfl ?_
      refine z_iloadn 82 hC 2 dX1_isAhead_81 rfl rfl rfl ?_
      refine z_icmp_ge 89 85 hC dX1_isAhead_82 (by decide) rfl (by omega) (by omega) (fun c_9 => ?_) (fun c_9 => ?_)
      · skip
        refine z_iconst 90 hC dX1_isAhead_89 rfl ?_
        exact hret () dX1_isAhead_90 (by decide) (by unfold ahI; omega)
      · skip
        refine z_iconst 86 hC dX1_isAhead_85 rfl ?_
        refine z_goto 90 hC dX1_isAhead_86 (by decide) ?_
        exact hret () dX1_isAhead_90 (by decide) (by unfold ahI; omega)
    · skip
      refine z_aloadn 56 hC 0 dX1_isAhead_55 rfl rfl rfl ?_
      refine z_get 59 0 0 hC hinX1 L10 dX1_isAhead_56 rfl rfl rfl (by decide) rfl ?_
      refine z_iloadn 60 hC 1 dX1_isAhead_59 rfl rfl rfl ?_
      refine z_calli (wr := [(x, .inr (1, [.ref h, .ref tr, .ref (b 0), .ref (b 1), .ref (b 2), .ref (b 3), .int (iI tm), .int (iI hr), .int (iI en)])), ((b 0), ar g 12 td), ((b 1), ar g 4 bu), ((b 2), ar g 4 sr), ((b 3), ar g 4 lg)]) (w2 := fun _ => (wLe g x b h tr td bu sr lg tm hr en) ++ ((wSh g h a (ssS S) (ssF S) (ssW S) (ssO S) (ssP S) (ssT S) (ssLo S) (ssSl S) (ssFa S)))) 63 hC [5, 6, 7, 8, 9, 10, 11] [0, 1, 2, 3, 4] [0, 1, 2, 3, 4, 5, 6, 7, 8, 9, 10, 11] (z_runV (nA := 1) hC hN (c_X0_pointsOf l D g h a (ssS S) (ssF S) (ssW S) (ssO S) (ssP S) (ssT S) (ssLo S) (ssSl S) (ssFa S) i (by omega)) [5, 6, 7, 8, 9, 10, 11] rfl (by decide) gX1_isAhead_X0_pointsOf (by decide +kernel) rfl rfl rfl ⟨by decide, by decide⟩ rfl rfl (nle rfl) dX1_isAhead_60 ⟨by decide, by decide⟩ 5 rfl rfl) rfl rfl (by decide) (by decide) (fun _ => rfl) (by decide) rfl (k2 := 0) (n2 := 0) rfl rfl (fun z_10 _ p_11 => ?_)
      subst p_11
      refine z_aloadn 64 hC 0 dX1_isAhead_63 rfl rfl rfl ?_
      refine z_get 67 0 0 hC hinX1 L10 dX1_isAhead_64 rfl rfl rfl (by decide) rfl ?_
      refine z_iloadn 68 hC 2 dX1_isAhead_67 rfl rfl rfl ?_
      refine z_calli (wr := [(x, .inr (1, [.ref h, .ref tr, .ref (b 0), .ref (b 1), .ref (b 2), .ref (b 3), .int (iI tm), .int (iI hr), .int (iI en)])), ((b 0), ar g 12 td), ((b 1), ar g 4 bu), ((b 2), ar g 4 sr), ((b 3), ar g 4 lg)]) (w2 := fun _ => (wLe g x b h tr td bu sr lg tm hr en) ++ ((wSh g h a (ssS S) (ssF S) (ssW S) (ssO S) (ssP S) (ssT S) (ssLo S) (ssSl S) (ssFa S)))) 71 hC [5, 6, 7, 8, 9, 10, 11] [0, 1, 2, 3, 4] [0, 1, 2, 3, 4, 5, 6, 7, 8, 9, 10, 11] (z_runV (nA := 1) hC hN (c_X0_pointsOf l D g h a (ssS S) (ssF S) (ssW S) (ssO S) (ssP S) (ssT S) (ssLo S) (ssSl S) (ssFa S) k (by omega)) [5, 6, 7, 8, 9, 10, 11] rfl (by decide) gX1_isAhead_X0_pointsOf (by decide +kernel) rfl rfl rfl ⟨by decide, by decide⟩ rfl rfl (nle rfl) dX1_isAhead_68 ⟨by decide, by decide⟩ 5 rfl rfl) rfl rfl (by decide) (by decide) (fun _ => rfl) (by decide) rfl (k2 := 0) (n2 := 0) rfl rfl (fun z_12 _ p_13 => ?_)
      subst p_13
      refine z_icmp_le 78 74 hC dX1_isAhead_71 (by decide) rfl (by omega) (by omega) (fun c_14 => ?_) (fun c_14 => ?_)
      · skip
        refine z_iconst 79 hC dX1_isAhead_78 rfl ?_
        exact hret () dX1_isAhead_79 (by decide) (by unfold ahI; omega)
      · skip
        refine z_iconst 75 hC dX1_isAhead_74 rfl ?_
        refine z_goto 79 hC dX1_isAhead_75 (by decide) ?_
        exact hret () dX1_isAhead_79 (by decide) (by unfold ahI; omega)
  · skip
    refine z_aloadn 16 hC 0 dX1_isAhead_15 rfl rfl rfl ?_
    refine z_get 19 0 5 hC hinX1 L37 dX1_isAhead_16 rfl rfl rfl (by decide) rfl ?_
    refine z_iloadn 20 hC 1 dX1_isAhead_19 rfl rfl rfl ?_
    refine z_iald 21 4 hC dX1_isAhead_20 rfl rfl (by decide) (by omega) ?_
    have b_15 := hlg i (by omega) (by omega)
    refine z_aloadn 22 hC 0 dX1_isAhead_21 rfl rfl rfl ?_
    refine z_get 25 0 5 hC hinX1 L37 dX1_isAhead_22 rfl rfl rfl (by decide) rfl ?_
    refine z_iloadn 26 hC 2 dX1_isAhead_25 rfl rfl rfl ?_
    refine z_iald 27 4 hC dX1_isAhead_26 rfl rfl (by decide) (by omega) ?_
    have b_16 := hlg k (by omega) (by omega)
    refine z_icmp_le 34 30 hC dX1_isAhead_27 (by decide) rfl (by omega) (by omega) (fun c_17 => ?_) (fun c_17 => ?_)
    · skip
      refine z_iconst 35 hC dX1_isAhead_34 rfl ?_
      exact hret () dX1_isAhead_35 (by decide) (by unfold ahI; omega)
    · skip
      refine z_iconst 31 hC dX1_isAhead_30 rfl ?_
      refine z_goto 35 hC dX1_isAhead_31 (by decide) ?_
      exact hret () dX1_isAhead_35 (by decide) (by unfold ahI; omega)
set_option maxHeartbeats 4000000 in
set_option maxRecDepth 100000 in
theorem c_X1_teamsAheadOf (l : Launch) (D : va_G) (g : Nat → ClassId) (x : Nat) (b : Nat → Nat) (h tr : Nat) (a : Nat → Nat) (td bu sr lg : Int → Int) (tm hr en : Int) (S : SS) (k : Int) (hlg : Bd lg 4 0 1000000) (htm : 0 ≤ tm ∧ tm ≤ 4) (hT : Bd (ssT S) 120 0 1000000000) (hk : 0 ≤ k ∧ k < tm) : ZMi (S := Unit) l yX1_teamsAheadOf wsX1_teamsAheadOf ({ frames := 2, cells := 0, slots := 0, locals := 120 }) D g [.ref x, .int (iI k)] ((wLe g x b h tr td bu sr lg tm hr en) ++ ((wSh g h a (ssS S) (ssF S) (ssW S) (ssO S) (ssP S) (ssT S) (ssLo S) (ssSl S) (ssFa S)))) (fun z _ => z = ahN lg (ssT S) k tm) (fun _ => (wLe g x b h tr td bu sr lg tm hr en) ++ ((wSh g h a (ssS S) (ssF S) (ssW S) (ssO S) (ssP S) (ssT S) (ssLo S) (ssSl S) (ssFa S)))) 0 0 := by
  have hinX1 : ∀ w ∈ u_ws RX1 TX1 9, w ∈ wsX1_teamsAheadOf := by decide +kernel
  have L43 : Cond.fieldLink RX1 43 "SandcastleLeague" "teams" "I" ∈ wsX1_teamsAheadOf := by decide +kernel
  refine ZMi.of (own := RX1) cX1_teamsAheadOf 4 [(0, .ref x), (1, .int (iI k))] (by decide +kernel) rfl (nle rfl) rfl rfl ?_
  intro E hC hN hret
  refine z_iconst 1 hC dX1_teamsAheadOf_0 rfl ?_
  refine z_istoren (lv' := [(2, .int (iI 0)), (0, .ref x), (1, .int (iI k))]) 2 hC dX1_teamsAheadOf_1 rfl rfl (by decide) rfl ?_
  refine z_iconst 3 hC dX1_teamsAheadOf_2 rfl ?_
  refine z_istoren (lv' := [(3, .int (iI 0)), (2, .int (iI 0)), (0, .ref x), (1, .int (iI k))]) 4 hC dX1_teamsAheadOf_3 rfl rfl (by decide) rfl ?_
  have loop4 : ∀ (N4 : Nat) (i : Int), 0 ≤ i ∧ i ≤ tm → (tm - i : Int) < N4 → Z E ((wLe g x b h tr td bu sr lg tm hr en) ++ ((wSh g h a (ssS S) (ssF S) (ssW S) (ssO S) (ssP S) (ssT S) (ssLo S) (ssSl S) (ssFa S)))) [(0, .ref x), (1, .int (iI k)), (2, .int (iI (sumI (fun j => ahI lg (ssT S) j k) i))), (3, .int (iI i))] 0 0 4 [] := by
    intro N4
    induction N4 with
    | zero => intro i hi hm4; exact absurd hm4 (by omega)
    | succ N4 ih4 =>
      intro i hi hm4
      refine z_iloadn 5 hC 3 dX1_teamsAheadOf_4 rfl rfl rfl ?_
      refine z_aloadn 6 hC 0 dX1_teamsAheadOf_5 rfl rfl rfl ?_
      refine z_get 9 0 6 hC hinX1 L43 dX1_teamsAheadOf_6 rfl rfl rfl (by decide) rfl ?_
      refine z_icmp_ge 30 12 hC dX1_teamsAheadOf_9 (by decide) rfl (by omega) (by omega) (fun c_1 => ?_) (fun c_1 => ?_)
      · skip
        obtain rfl : tm = i := by omega
        refine z_iloadn 31 hC 2 dX1_teamsAheadOf_30 rfl rfl rfl ?_
        exact hret () dX1_teamsAheadOf_31 rfl (by rfl)
      · skip
        refine z_aloadn 13 hC 0 dX1_teamsAheadOf_12 rfl rfl rfl ?_
        refine z_iloadn 14 hC 3 dX1_teamsAheadOf_13 rfl rfl rfl ?_
        refine z_iloadn 15 hC 1 dX1_teamsAheadOf_14 rfl rfl rfl ?_
        refine z_calli (wr := []) (w2 := fun _ => (wLe g x b h tr td bu sr lg tm hr en) ++ ((wSh g h a (ssS S) (ssF S) (ssW S) (ssO S) (ssP S) (ssT S) (ssLo S) (ssSl S) (ssFa S)))) 18 hC [0, 1, 2, 3, 4, 5, 6, 7, 8, 9, 10, 11] [] [0, 1, 2, 3, 4, 5, 6, 7, 8, 9, 10, 11] (z_runV (nA := 2) hC hN (c_X1_isAhead l D g x b h tr a td bu sr lg tm hr en S i k hlg htm hT (by omega) (by omega)) [0, 1, 2, 3, 4, 5, 6, 7, 8, 9, 10, 11] rfl (by decide) gX1_teamsAheadOf_X1_isAhead (by decide +kernel) rfl rfl rfl ⟨by decide, by decide⟩ rfl rfl (nle rfl) dX1_teamsAheadOf_15 ⟨by decide, by decide⟩ 0 rfl rfl) rfl rfl (by decide) (by decide) (fun _ => rfl) (by decide) rfl (k2 := 0) (n2 := 0) rfl rfl (fun z_3 _ p_4 => ?_)
        subst p_4
        have q_2 : ahI lg (ssT S) i k = 0 ∨ ahI lg (ssT S) i k = 1 := by unfold ahI; omega
        refine z_if_eq 24 21 hC dX1_teamsAheadOf_18 (by decide) rfl (by omega) (fun c_5 => ?_) (fun c_5 => ?_)
        · skip
          refine z_iinc (lv' := [(3, .int (iI (i + 1))), (0, .ref x), (1, .int (iI k)), (2, .int (iI (sumI (fun j => ahI lg (ssT S) j k) i)))]) 27 3 hC dX1_teamsAheadOf_24 rfl rfl (by decide) rfl ?_
          refine z_goto 4 hC dX1_teamsAheadOf_27 (by decide) ?_
          refine z_lv (lv' := [(0, .ref x), (1, .int (iI k)), (2, .int (iI (sumI (fun j => ahI lg (ssT S) j k) i))), (3, .int (iI (i + 1)))]) [1, 2, 3, 0] rfl ?_
          refine z_lveq (lv' := [(0, .ref x), (1, .int (iI k)), (2, .int (iI (sumI (fun j => ahI lg (ssT S) j k) (i + 1)))), (3, .int (iI (i + 1)))]) (zfk (zfk (zlc (by first | exact sumI_n (by omega) (by omega) | exact sumI_y (by omega) (by omega)) (zfk rfl)))) ?_
          exact ih4 (i + 1) (by omega) (by omega)
        · skip
          refine z_iinc (lv' := [(2, .int (iI ((sumI (fun j => ahI lg (ssT S) j k) i) + 1))), (0, .ref x), (1, .int (iI k)), (3, .int (iI i))]) 24 2 hC dX1_teamsAheadOf_21 rfl rfl (by decide) rfl ?_
          refine z_iinc (lv' := [(3, .int (iI (i + 1))), (2, .int (iI ((sumI (fun j => ahI lg (ssT S) j k) i) + 1))), (0, .ref x), (1, .int (iI k))]) 27 3 hC dX1_teamsAheadOf_24 rfl rfl (by decide) rfl ?_
          refine z_goto 4 hC dX1_teamsAheadOf_27 (by decide) ?_
          refine z_lv (lv' := [(0, .ref x), (1, .int (iI k)), (2, .int (iI ((sumI (fun j => ahI lg (ssT S) j k) i) + 1))), (3, .int (iI (i + 1)))]) [2, 3, 1, 0] rfl ?_
          refine z_lveq (lv' := [(0, .ref x), (1, .int (iI k)), (2, .int (iI (sumI (fun j => ahI lg (ssT S) j k) (i + 1)))), (3, .int (iI (i + 1)))]) (zfk (zfk (zlc (by first | exact sumI_n (by omega) (by omega) | exact sumI_y (by omega) (by omega)) (zfk rfl)))) ?_
          exact ih4 (i + 1) (by omega) (by omega)
  refine z_lv (lv' := [(0, .ref x), (1, .int (iI k)), (2, .int (iI 0)), (3, .int (iI 0))]) [2, 3, 1, 0] rfl ?_
  refine z_lveq (lv' := [(0, .ref x), (1, .int (iI k)), (2, .int (iI (sumI (fun j => ahI lg (ssT S) j k) 0))), (3, .int (iI 0))]) (zfk (zfk (zlc (by rfl) (zfk rfl)))) ?_
  exact loop4 ((tm - 0 + 1 : Int).toNat) 0 (by omega) (by omega)
end
