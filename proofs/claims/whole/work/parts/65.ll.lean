set_option maxHeartbeats 4000000 in
set_option maxRecDepth 100000 in
theorem law_loop {E : ZE} {l : Launch} {D : va_G} {g : Nat → ClassId} (hlf : l.stackTraces = false) (hC : ZC E cL_law RL wsL_law room_1 9 D g l) (hN : ZNst E) (hX : ZXt E) {sb L : Nat} {xs : Nat → Int32} (hSc : ZSc E sb L xs) (hLL : L ≤ 2560) (x : Nat) (b : Nat → Nat) (h h2 : Nat) (a a2 : Nat → Nat) (m o : Nat) (hend : ∀ (W9 : va_W) (lv : List (Nat × Value)) (k n : Nat), k ≤ room_1.cells → n ≤ room_1.slots → Z E W9 lv k n 1243 [.int (iI 1)]) : ∀ (N : Nat) (td bu sr lg ov : Int → Int) (tm hr en th : Int) (S T : SS) (mb : Nat → Nat) (f : Nat → Int64) (c i : Int) (kc nc : Nat), LV c td bu sr lg tm hr en S → 0 ≤ c → i = 5 * c → i ≤ (L : Int) → (kc : Int) + 20 * (513 - c) ≤ (room_1.cells : Int) → (nc : Int) + 1200 * (513 - c) ≤ (room_1.slots : Int) → (L : Int) - i < (N : Int) → Z E ((wLe g x b h h2 td bu sr lg tm hr en) ++ ((wSh g h a (ssS S) (ssF S) (ssW S) (ssO S) (ssP S) (ssT S) (ssLo S) (ssSl S) (ssFa S)) ++ ((wSh g h2 a2 (ssS T) (ssF T) (ssW T) (ssO T) (ssP T) (ssT T) (ssLo T) (ssSl T) (ssFa T)) ++ ((wMo g m mb th hr tm en (ssLo S) (ssSl S) (ssFa S) (ssS S) (ssF S) (ssW S) (kOf (ssO S) (ssP S)) (tbl tm bu sr lg (ssT S)) td ov) ++ (([(o, lo1 g f)])))))) [(0, .ref sb), (1, .ref x), (2, .ref m), (3, .ref o), (4, .int (iI i))] kc nc 23 [] := by
  intro N
  induction N with
  | zero =>
    intro td bu sr lg ov tm hr en th S T mb f c i kc nc hV h0 hi5 hiL hk hn hm
    exact absurd hm (by omega)
  | succ N ih =>
    intro td bu sr lg ov tm hr en th S T mb f c i kc nc hV h0 hi5 hiL hk hn hm
    refine z_iload 25 hC 4 dL_law_23 rfl rfl ?_
    refine z_aloadn 26 hC 0 dL_law_25 rfl rfl rfl ?_
    refine z_slen 27 hC hSc dL_law_26 rfl ?_
    refine z_iconst 28 hC dL_law_27 rfl ?_
    refine z_isub 29 hC dL_law_28 rfl ?_
    refine z_icmp_gt 1242 32 hC dL_law_29 (by decide) rfl (by omega) (by omega) (fun c1 => ?_) (fun c1 => ?_)
    · refine z_iconst 1243 hC dL_law_1242 rfl ?_
      exact hend _ _ _ _ (by omega) (by omega)
    · refine z_aloadn 33 hC 0 dL_law_32 rfl rfl rfl ?_
      refine z_iload 35 hC 4 dL_law_33 rfl rfl ?_
      refine z_sld 36 hC hSc (by omega) dL_law_35 rfl (by omega) ?_
      refine z_bipush 38 hC dL_law_36 (by decide) rfl ?_
      refine z_and31 39 hC dL_law_38 rfl ?_
      have kk : ∀ (td bu sr lg ov : Int → Int) (tm hr en th : Int) (S T : SS) (mb : Nat → Nat) (f : Nat → Int64), LV (c + 1) td bu sr lg tm hr en S → Z E ((wLe g x b h h2 td bu sr lg tm hr en) ++ ((wSh g h a (ssS S) (ssF S) (ssW S) (ssO S) (ssP S) (ssT S) (ssLo S) (ssSl S) (ssFa S)) ++ ((wSh g h2 a2 (ssS T) (ssF T) (ssW T) (ssO T) (ssP T) (ssT T) (ssLo T) (ssSl T) (ssFa T)) ++ ((wMo g m mb th hr tm en (ssLo S) (ssSl S) (ssFa S) (ssS S) (ssF S) (ssW S) (kOf (ssO S) (ssP S)) (tbl tm bu sr lg (ssT S)) td ov) ++ (([(o, lo1 g f)])))))) [(0, .ref sb), (1, .ref x), (2, .ref m), (3, .ref o), (4, .int (iI i))] (kc + 20) (nc + 1200) 1236 [] := by
        intro td bu sr lg ov tm hr en th S T mb f hV2
        refine z_iinc (lv' := [(4, .int (iI (i + 5))), (0, .ref sb), (1, .ref x), (2, .ref m), (3, .ref o)]) 1239 4 hC dL_law_1236 rfl rfl (by decide) rfl ?_
        refine z_goto 23 hC dL_law_1239 (by decide) ?_
        refine z_lv (lv' := [(0, .ref sb), (1, .ref x), (2, .ref m), (3, .ref o), (4, .int (iI (i + 5)))]) [1, 2, 3, 4, 0] rfl ?_
        exact ih td bu sr lg ov tm hr en th S T mb f (c + 1) (i + 5) (kc + 20) (nc + 1200) hV2 (by omega) (by omega) (by omega) (by omega) (by omega) (by omega)
      have hk9 : kc + 20 ≤ room_1.cells := by omega
      have hn9 : nc + 1200 ≤ room_1.slots := by omega
      by_cases e0 : scI xs i % 32 = 0
      · refine z_tabIn 124 0 hC dL_law_39 e0 (by decide) rfl rfl (by decide) ?_
        exact lc_addTeam hlf hC hN hX hSc hLL x b h h2 a a2 m mb o td bu sr lg ov tm hr en th S T f c i kc nc (by omega) (by omega) hk9 hn9 hV kk
      by_cases e1 : scI xs i % 32 = 1
      · refine z_tabIn 168 1 hC dL_law_39 e1 (by decide) rfl rfl (by decide) ?_
        exact lc_setTide hlf hC hN hX hSc hLL x b h h2 a a2 m mb o td bu sr lg ov tm hr en th S T f c i kc nc (by omega) (by omega) hk9 hn9 hV kk
      by_cases e2 : scI xs i % 32 = 2
      · refine z_tabIn 236 2 hC dL_law_39 e2 (by decide) rfl rfl (by decide) ?_
        exact lc_dig hlf hC hN hX hSc hLL x b h h2 a a2 m mb o td bu sr lg ov tm hr en th S T f c i kc nc (by omega) (by omega) hk9 hn9 hV kk
      by_cases e3 : scI xs i % 32 = 3
      · refine z_tabIn 328 3 hC dL_law_39 e3 (by decide) rfl rfl (by decide) ?_
        exact lc_pile hlf hC hN hX hSc hLL x b h h2 a a2 m mb o td bu sr lg ov tm hr en th S T f c i kc nc (by omega) (by omega) hk9 hn9 hV kk
      by_cases e4 : scI xs i % 32 = 4
      · refine z_tabIn 420 4 hC dL_law_39 e4 (by decide) rfl rfl (by decide) ?_
        exact lc_pack hlf hC hN hX hSc hLL x b h h2 a a2 m mb o td bu sr lg ov tm hr en th S T f c i kc nc (by omega) (by omega) hk9 hn9 hV kk
      by_cases e5 : scI xs i % 32 = 5
      · refine z_tabIn 500 5 hC dL_law_39 e5 (by decide) rfl rfl (by decide) ?_
        exact lc_plant hlf hC hN hX hSc hLL x b h h2 a a2 m mb o td bu sr lg ov tm hr en th S T f c i kc nc (by omega) (by omega) hk9 hn9 hV kk
      by_cases e6 : scI xs i % 32 = 6
      · refine z_tabIn 580 6 hC dL_law_39 e6 (by decide) rfl rfl (by decide) ?_
        exact lc_cell hlf hC hN hX hSc hLL x b h h2 a a2 m mb o td bu sr lg ov tm hr en th S T f c i kc nc (by omega) (by omega) hk9 hn9 hV kk
      by_cases e7 : scI xs i % 32 = 7
      · refine z_tabIn 660 7 hC dL_law_39 e7 (by decide) rfl rfl (by decide) ?_
        exact lc_team hlf hC hN hX hSc hLL x b h h2 a a2 m mb o td bu sr lg ov tm hr en th S T f c i kc nc (by omega) (by omega) hk9 hn9 hV kk
      by_cases e8 : scI xs i % 32 = 8
      · refine z_tabIn 728 8 hC dL_law_39 e8 (by decide) rfl rfl (by decide) ?_
        exact lc_count hlf hC hN hX hSc hLL x b h h2 a a2 m mb o td bu sr lg ov tm hr en th S T f c i kc nc (by omega) (by omega) hk9 hn9 hV kk
      by_cases e9 : scI xs i % 32 = 9
      · refine z_tabIn 784 9 hC dL_law_39 e9 (by decide) rfl rfl (by decide) ?_
        exact lc_pass hlf hC hN hX hSc hLL x b h h2 a a2 m mb o td bu sr lg ov tm hr en th S T f c i kc nc (by omega) (by omega) hk9 hn9 hV kk
      by_cases e10 : scI xs i % 32 = 10
      · refine z_tabIn 840 10 hC dL_law_39 e10 (by decide) rfl rfl (by decide) ?_
        exact lc_endRound hlf hC hN hX hSc hLL x b h h2 a a2 m mb o td bu sr lg ov tm hr en th S T f c i kc nc (by omega) (by omega) hk9 hn9 hV kk
      by_cases e11 : scI xs i % 32 = 11
      · refine z_tabIn 853 11 hC dL_law_39 e11 (by decide) rfl rfl (by decide) ?_
        exact lc_leader hlf hC hN hX hSc hLL x b h h2 a a2 m mb o td bu sr lg ov tm hr en th S T f c i kc nc (by omega) (by omega) hk9 hn9 hV kk
      by_cases e12 : scI xs i % 32 = 12
      · refine z_tabIn 909 12 hC dL_law_39 e12 (by decide) rfl rfl (by decide) ?_
        exact lc_flood hlf hC hN hX hSc hLL x b h h2 a a2 m mb o td bu sr lg ov tm hr en th S T f c i kc nc (by omega) (by omega) hk9 hn9 hV kk
      by_cases e13 : scI xs i % 32 = 13
      · refine z_tabIn 965 13 hC dL_law_39 e13 (by decide) rfl rfl (by decide) ?_
        exact lc_reach hlf hC hN hX hSc hLL x b h h2 a a2 m mb o td bu sr lg ov tm hr en th S T f c i kc nc (by omega) (by omega) hk9 hn9 hV kk
      by_cases e14 : scI xs i % 32 = 14
      · refine z_tabIn 1033 14 hC dL_law_39 e14 (by decide) rfl rfl (by decide) ?_
        exact lc_foresee hlf hC hN hX hSc hLL x b h h2 a a2 m mb o td bu sr lg ov tm hr en th S T f c i kc nc (by omega) (by omega) hk9 hn9 hV kk
      by_cases e15 : scI xs i % 32 = 15
      · refine z_tabIn 1113 15 hC dL_law_39 e15 (by decide) rfl rfl (by decide) ?_
        exact lc_advise hlf hC hN hX hSc hLL x b h h2 a a2 m mb o td bu sr lg ov tm hr en th S T f c i kc nc (by omega) (by omega) hk9 hn9 hV kk
      by_cases e16 : scI xs i % 32 = 16
      · refine z_tabIn 1181 16 hC dL_law_39 e16 (by decide) rfl rfl (by decide) ?_
        exact lc_mean hlf hC hN hX hSc hLL x b h h2 a a2 m mb o td bu sr lg ov tm hr en th S T f c i kc nc (by omega) (by omega) hk9 hn9 hV kk
      by_cases e17 : scI xs i % 32 = 17
      · refine z_tabIn 1222 17 hC dL_law_39 e17 (by decide) rfl rfl (by decide) ?_
        exact lc_digest hlf hC hN hX hSc hLL x b h h2 a a2 m mb o td bu sr lg ov tm hr en th S T f c i kc nc (by omega) (by omega) hk9 hn9 hV kk
      refine z_tabOut 1236 hC dL_law_39 (by omega) (by omega) (by decide) ?_
      refine z_widen (k2 := kc + 20) (n2 := nc + 1200) (by omega) (by omega) ?_
      exact kk td bu sr lg ov tm hr en th S T mb f (LV_mono hV)
set_option maxHeartbeats 4000000 in
set_option maxRecDepth 100000 in
theorem law_all {E : ZE} {l : Launch} {D : va_G} {g : Nat → ClassId} (hlf : l.stackTraces = false) (hC : ZC E cL_law RL wsL_law room_1 9 D g l) (hN : ZNst E) (hX : ZXt E) (hTd : ZTdt E) {sb L : Nat} {xs : Nat → Int32} (hSc : ZSc E sb L xs) (hLL : L ≤ 2560) (hend : ∀ (W9 : va_W) (lv : List (Nat × Value)) (k n : Nat), k ≤ room_1.cells → n ≤ room_1.slots → Z E W9 lv k n 1243 [.int (iI 1)]) : Z E [] [(0, .ref sb)] 0 0 0 [] := by
  have hinX1 : ∀ w ∈ u_ws RX1 TX1 9, w ∈ wsL_law := by decide +kernel
  have hinX2 : ∀ w ∈ u_ws RX2 TX2 14, w ∈ wsL_law := by decide +kernel
  refine z_new (fs := [.null, .null, .null, .null, .null, .null, .int (iI 0), .int (iI 0), .int (iI 0)]) (ws' := fun x => [(x, .inr (1, [.null, .null, .null, .null, .null, .null, .int (iI 0), .int (iI 0), .int (iI 0)]))]) (k2 := 1) (n2 := 9) 3 1 hC hinX1 tyX1 tyX1_ok (by decide +kernel) (by decide +kernel) (by decide +kernel) rfl (by decide) (by decide) (by decide) dL_law_0 rfl rfl rfl (fun _ => rfl) (fun x => ?_)
  refine z_dup 4 hC dL_law_3 rfl rfl ?_
  refine z_callv (wr := []) (w2 := fun u_1 => (wLe g x u_1.2.2.1 u_1.1 u_1.2.1 ftd (fun _ => 0) (fun _ => 20) (fun _ => 0) 0 0 0) ++ ((wSh g u_1.1 u_1.2.2.2.1 (fun _ => 4) (fun _ => 0) (fun _ => 0) (fun _ => (-1)) (fun _ => 0) (fun _ => 0) 0 0 0) ++ ((wSh g u_1.2.1 u_1.2.2.2.2 (fun _ => 0) (fun _ => 0) (fun _ => 0) (fun _ => 0) (fun _ => 0) (fun _ => 0) 0 0 0)))) 7 hC [0] [] [0, 1, 2, 3, 4, 5, 6, 7, 8, 9, 10, 11, 12, 13, 14, 15, 16, 17, 18] (z_runIT (nA := 0) hC hN hTd (c_X1_init l D g x) [0] rfl (by decide) gL_law_X1_init (by decide +kernel) (by decide +kernel) (by decide +kernel) rfl (by decide +kernel) rfl rfl rfl ⟨by decide, by decide⟩ rfl rfl (nle rfl) dL_law_4 ⟨by decide, by decide⟩) rfl rfl (by decide) (by decide) (fun _ => rfl) (by decide) rfl (k2 := 19) (n2 := 1491) rfl rfl (fun u_1 p_2 => ?_)
  refine z_astoren (lv' := [(1, .ref x), (0, .ref sb)]) 8 hC dL_law_7 rfl rfl (by decide) rfl ?_
  refine z_new (fs := [.int (iI 0), .int (iI 0), .int (iI 0), .int (iI 0), .int (iI 0), .int (iI 0), .int (iI 0), .null, .null, .null, .null, .null, .null, .null]) (ws' := fun m => (wLe g x u_1.2.2.1 u_1.1 u_1.2.1 ftd (fun _ => 0) (fun _ => 20) (fun _ => 0) 0 0 0) ++ ((wSh g u_1.1 u_1.2.2.2.1 (fun _ => 4) (fun _ => 0) (fun _ => 0) (fun _ => (-1)) (fun _ => 0) (fun _ => 0) 0 0 0) ++ ((wSh g u_1.2.1 u_1.2.2.2.2 (fun _ => 0) (fun _ => 0) (fun _ => 0) (fun _ => 0) (fun _ => 0) (fun _ => 0) 0 0 0) ++ (([(m, .inr (2, [.int (iI 0), .int (iI 0), .int (iI 0), .int (iI 0), .int (iI 0), .int (iI 0), .int (iI 0), .null, .null, .null, .null, .null, .null, .null]))]))))) (k2 := 20) (n2 := 1505) 11 2 hC hinX2 tyX2 tyX2_ok (by decide +kernel) (by decide +kernel) (by decide +kernel) rfl (by decide) (by decide) (by decide) dL_law_8 rfl rfl rfl (fun _ => rfl) (fun m => ?_)
  refine z_dup 12 hC dL_law_11 rfl rfl ?_
  refine z_callv (wr := [(x, .inr (1, [.ref u_1.1, .ref u_1.2.1, .ref (u_1.2.2.1 0), .ref (u_1.2.2.1 1), .ref (u_1.2.2.1 2), .ref (u_1.2.2.1 3), .int (iI 0), .int (iI 0), .int (iI 0)])), ((u_1.2.2.1 0), ar g 12 ftd), ((u_1.2.2.1 1), ar g 4 (fun _ => 0)), ((u_1.2.2.1 2), ar g 4 (fun _ => 20)), ((u_1.2.2.1 3), ar g 4 (fun _ => 0)), (u_1.1, .inr (0, [.ref (u_1.2.2.2.1 0), .ref (u_1.2.2.2.1 1), .ref (u_1.2.2.2.1 2), .ref (u_1.2.2.2.1 3), .ref (u_1.2.2.2.1 4), .ref (u_1.2.2.2.1 5), .int (iI 0), .int (iI 0), .int (iI 0)])), ((u_1.2.2.2.1 0), ar g 120 (fun _ => 4)), ((u_1.2.2.2.1 1), ar g 120 (fun _ => 0)), ((u_1.2.2.2.1 2), ar g 120 (fun _ => 0)), ((u_1.2.2.2.1 3), ar g 120 (fun _ => (-1))), ((u_1.2.2.2.1 4), ar g 120 (fun _ => 0)), ((u_1.2.2.2.1 5), ar g 120 (fun _ => 0)), (u_1.2.1, .inr (0, [.ref (u_1.2.2.2.2 0), .ref (u_1.2.2.2.2 1), .ref (u_1.2.2.2.2 2), .ref (u_1.2.2.2.2 3), .ref (u_1.2.2.2.2 4), .ref (u_1.2.2.2.2 5), .int (iI 0), .int (iI 0), .int (iI 0)])), ((u_1.2.2.2.2 0), ar g 120 (fun _ => 0)), ((u_1.2.2.2.2 1), ar g 120 (fun _ => 0)), ((u_1.2.2.2.2 2), ar g 120 (fun _ => 0)), ((u_1.2.2.2.2 3), ar g 120 (fun _ => 0)), ((u_1.2.2.2.2 4), ar g 120 (fun _ => 0)), ((u_1.2.2.2.2 5), ar g 120 (fun _ => 0))]) (w2 := fun u_3 => (wLe g x u_1.2.2.1 u_1.1 u_1.2.1 ftd (fun _ => 0) (fun _ => 20) (fun _ => 0) 0 0 0) ++ ((wSh g u_1.1 u_1.2.2.2.1 (fun _ => 4) (fun _ => 0) (fun _ => 0) (fun _ => (-1)) (fun _ => 0) (fun _ => 0) 0 0 0) ++ ((wSh g u_1.2.1 u_1.2.2.2.2 (fun _ => 0) (fun _ => 0) (fun _ => 0) (fun _ => 0) (fun _ => 0) (fun _ => 0) 0 0 0) ++ ((wMo g m u_3 0 0 0 0 0 0 0 (fun _ => 4) (fun _ => 0) (fun _ => 0) (fun _ => 0) (fun _ => 0) ftd (fun _ => 0)))))) 15 hC [19] [0, 1, 2, 3, 4, 5, 6, 7, 8, 9, 10, 11, 12, 13, 14, 15, 16, 17, 18] [0, 1, 2, 3, 4, 5, 6, 7, 8, 9, 10, 11, 12, 13, 14, 15, 16, 17, 18, 19, 20, 21, 22, 23, 24, 25, 26] (z_runI (nA := 0) hC hN (c_X2_init l D g m) [19] rfl (by decide) gL_law_X2_init (by decide +kernel) (by decide +kernel) (by decide +kernel) rfl (by decide +kernel) rfl rfl rfl ⟨by decide, by decide⟩ rfl rfl (nle rfl) dL_law_12 ⟨by decide, by decide⟩) rfl rfl (by decide) (by decide) (fun _ => rfl) (by decide) rfl (k2 := 27) (n2 := 2133) rfl rfl (fun u_3 p_4 => ?_)
  refine z_astoren (lv' := [(2, .ref m), (1, .ref x), (0, .ref sb)]) 16 hC dL_law_15 rfl rfl (by decide) rfl ?_
  refine z_iconst 17 hC dL_law_16 rfl ?_
  refine z_newl (ws' := fun o => (wLe g x u_1.2.2.1 u_1.1 u_1.2.1 ftd (fun _ => 0) (fun _ => 20) (fun _ => 0) 0 0 0) ++ ((wSh g u_1.1 u_1.2.2.2.1 (fun _ => 4) (fun _ => 0) (fun _ => 0) (fun _ => (-1)) (fun _ => 0) (fun _ => 0) 0 0 0) ++ ((wSh g u_1.2.1 u_1.2.2.2.2 (fun _ => 0) (fun _ => 0) (fun _ => 0) (fun _ => 0) (fun _ => 0) (fun _ => 0) 0 0 0) ++ ((wMo g m u_3 0 0 0 0 0 0 0 (fun _ => 4) (fun _ => 0) (fun _ => 0) (fun _ => 0) (fun _ => 0) ftd (fun _ => 0)) ++ (([(o, lo1 g (fun _ => 0))])))))) (k2 := 28) (n2 := 2134) 19 hC (by decide +kernel) (by decide) (nle rfl) (by decide) (by decide) dL_law_17 rfl rfl rfl (fun _ => rfl) (fun o => ?_)
  refine z_astoren (lv' := [(3, .ref o), (2, .ref m), (1, .ref x), (0, .ref sb)]) 20 hC dL_law_19 rfl rfl (by decide) rfl ?_
  refine z_iconst 21 hC dL_law_20 rfl ?_
  refine z_istore (lv' := [(4, .int (iI 0)), (3, .ref o), (2, .ref m), (1, .ref x), (0, .ref sb)]) 23 hC dL_law_21 rfl (by decide) rfl ?_
  refine z_lv (lv' := [(0, .ref sb), (1, .ref x), (2, .ref m), (3, .ref o), (4, .int (iI 0))]) [4, 3, 2, 1, 0] rfl ?_
  refine z_weq (ws' := (wLe g x u_1.2.2.1 u_1.1 u_1.2.1 ftd (fun _ => 0) (fun _ => 20) (fun _ => 0) 0 0 0) ++ ((wSh g u_1.1 u_1.2.2.2.1 (fun _ => 4) (fun _ => 0) (fun _ => 0) (fun _ => (-1)) (fun _ => 0) (fun _ => 0) 0 0 0) ++ ((wSh g u_1.2.1 u_1.2.2.2.2 (fun _ => 0) (fun _ => 0) (fun _ => 0) (fun _ => 0) (fun _ => 0) (fun _ => 0) 0 0 0) ++ ((wMo g m u_3 0 0 0 0 0 0 0 (fun _ => 4) (fun _ => 0) (fun _ => 0) (kOf (fun _ => (-1)) (fun _ => 0)) (tbl 0 (fun _ => 0) (fun _ => 20) (fun _ => 0) (fun _ => 0)) ftd (fun _ => 0)) ++ (([(o, lo1 g (fun _ => 0))])))))) (zEq.cons zE1.rf (zEq.cons zE1.rf (zEq.cons zE1.rf (zEq.cons zE1.rf (zEq.cons zE1.rf (zEq.cons zE1.rf (zEq.cons zE1.rf (zEq.cons zE1.rf (zEq.cons zE1.rf (zEq.cons zE1.rf (zEq.cons zE1.rf (zEq.cons zE1.rf (zEq.cons zE1.rf (zEq.cons zE1.rf (zEq.cons zE1.rf (zEq.cons zE1.rf (zEq.cons zE1.rf (zEq.cons zE1.rf (zEq.cons zE1.rf (zEq.cons zE1.rf (zEq.cons zE1.rf (zEq.cons zE1.rf (zEq.cons zE1.rf (zEq.cons (zE1.arr (by intro j h0 h1; exact (if_pos rfl).symm)) (zEq.cons (zE1.arr (by intro j h0 h1; exact (if_pos (by omega)).symm)) (zEq.cons zE1.rf (zEq.cons zE1.rf (zEq.cons zE1.rf zEq.nil)))))))))))))))))))))))))))) ?_
  exact law_loop hlf hC hN hX hSc hLL x u_1.2.2.1 u_1.1 u_1.2.1 u_1.2.2.2.1 u_1.2.2.2.2 m o hend (L + 1) ftd (fun _ => 0) (fun _ => 20) (fun _ => 0) (fun _ => 0) 0 0 0 0 S0 (fun _ => 0, fun _ => 0, fun _ => 0, fun _ => 0, fun _ => 0, fun _ => 0, 0, 0, 0) u_3 (fun _ => 0) 0 0 28 2134 LV_0 (by omega) (by omega) (by omega) (by decide) (by decide) (by omega)
