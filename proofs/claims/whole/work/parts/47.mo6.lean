set_option maxHeartbeats 4000000 in
set_option maxRecDepth 100000 in
theorem c_X2_digest (l : Launch) (D : va_G) (g : Nat → ClassId) (m : Nat) (b : Nat → Nat) (th hr tm en : Int) (td bu sr lg ov : Int → Int) (S : SS)  (hI : LI td bu sr lg tm hr S) (hSI : SI tm S)  : ZMl (S := Unit) l yX2_digest wsX2_digest ({ frames := 4, cells := 0, slots := 0, locals := 160 }) D g [.ref m] (wMo g m b th hr tm en (ssLo S) (ssSl S) (ssFa S) (ssS S) (ssF S) (ssW S) (kOf (ssO S) (ssP S)) (tbl tm bu sr lg (ssT S)) td ov) (fun z _ => z = dgM (tclS (ssS S) (ssF S) (ssW S) (ssO S) (ssP S)) 6 (dgM (tV bu sr lg S) 8 (dgN td (dgN (cV S tm hr en) 503 9) 12) tm) 120) (fun _ => wMo g m b 0 hr tm en (ssLo S) (ssSl S) (ssFa S) (ssS S) (ssF S) (ssW S) (kOf (ssO S) (ssP S)) (tbl tm bu sr lg (ssT S)) td ov) 0 0 := by
  have hinX2 : ∀ w ∈ u_ws RX2 TX2 14, w ∈ wsX2_digest := by decide +kernel
  have L25 : Cond.fieldLink RX2 25 "SandcastleLeagueModel" "tides" "[I" ∈ wsX2_digest := by decide +kernel
  have L35 : Cond.fieldLink RX2 35 "SandcastleLeagueModel" "thrown" "I" ∈ wsX2_digest := by decide +kernel
  have L39 : Cond.fieldLink RX2 39 "SandcastleLeagueModel" "teams" "I" ∈ wsX2_digest := by decide +kernel
  obtain ⟨htd, hbu, hsr, hlg, htm, hhr, hSB, hT⟩ := id hI
  obtain ⟨hs, hf, hw, ho, hp⟩ := id hSB
  refine ZMl.of (ty := .int) (own := RX2) cX2_digest 5 [(0, .ref m)] (by decide +kernel) rfl (nle rfl) rfl rfl ?_
  intro E hC hN hret
  refine z_aloadn 1 hC 0 dX2_digest_0 rfl rfl rfl ?_
  refine z_iconst 2 hC dX2_digest_1 rfl ?_
  refine z_put (ty := .int) (ws' := wMo g m b 0 hr tm en (ssLo S) (ssSl S) (ssFa S) (ssS S) (ssF S) (ssW S) (kOf (ssO S) (ssP S)) (tbl tm bu sr lg (ssT S)) td ov) 5 0 0 hC tyX2 tyX2_ok nmX2 hinX2 L35 dX2_digest_2 rfl rfl rfl (by decide) rfl (by decide +kernel) rfl rfl (nle rfl) rfl ?_
  refine z_ldc2 (v := 503) 8 hC (by decide +kernel) dX2_digest_5 rfl ?_
  refine z_lstoren (lv' := [(1, .long 503), (0, .ref m)]) 9 hC dX2_digest_8 rfl rfl (by decide) rfl ?_
  refine z_iconst 10 hC dX2_digest_9 rfl ?_
  refine z_istoren (lv' := [(3, .int (iI 0)), (1, .long 503), (0, .ref m)]) 11 hC dX2_digest_10 rfl rfl (by decide) rfl ?_
  have loop11 : ∀ (N11 : Nat) (i : Int), 0 ≤ i ∧ i ≤ 9 → (9 - i : Int) < N11 → Z E (wMo g m b 0 hr tm en (ssLo S) (ssSl S) (ssFa S) (ssS S) (ssF S) (ssW S) (kOf (ssO S) (ssP S)) (tbl tm bu sr lg (ssT S)) td ov) [(0, .ref m), (1, .long (dgN (cV S tm hr en) 503 i)), (3, .int (iI i))] 0 0 11 [] := by
    intro N11
    induction N11 with
    | zero => intro i hi hm11; exact absurd hm11 (by omega)
    | succ N11 ih11 =>
      intro i hi hm11
      refine z_iloadn 12 hC 2 dX2_digest_11 rfl rfl rfl ?_
      refine z_bipush 14 hC dX2_digest_12 (by decide) rfl ?_
      refine z_icmp_ge 36 17 hC dX2_digest_14 (by decide) rfl (by omega) (by omega) (fun c_1 => ?_) (fun c_1 => ?_)
      · skip
        obtain rfl : i = 9 := by omega
        obtain ⟨d1, hd1⟩ : ∃ d9 : Int64, d9 = dgN (cV S tm hr en) 503 9 := ⟨_, rfl⟩
        rw [← hd1]
        refine z_iconst 37 hC dX2_digest_36 rfl ?_
        refine z_istoren (lv' := [(3, .int (iI 0)), (0, .ref m), (1, .long d1)]) 38 hC dX2_digest_37 rfl rfl (by decide) rfl ?_
        have loop38 : ∀ (N38 : Nat) (i : Int), 0 ≤ i ∧ i ≤ 12 → (12 - i : Int) < N38 → Z E (wMo g m b 0 hr tm en (ssLo S) (ssSl S) (ssFa S) (ssS S) (ssF S) (ssW S) (kOf (ssO S) (ssP S)) (tbl tm bu sr lg (ssT S)) td ov) [(0, .ref m), (1, .long (dgN td d1 i)), (3, .int (iI i))] 0 0 38 [] := by
          intro N38
          induction N38 with
          | zero => intro i hi hm38; exact absurd hm38 (by omega)
          | succ N38 ih38 =>
            intro i hi hm38
            refine z_iloadn 39 hC 2 dX2_digest_38 rfl rfl rfl ?_
            refine z_bipush 41 hC dX2_digest_39 (by decide) rfl ?_
            refine z_icmp_ge 64 44 hC dX2_digest_41 (by decide) rfl (by omega) (by omega) (fun c_2 => ?_) (fun c_2 => ?_)
            · skip
              obtain rfl : i = 12 := by omega
              obtain ⟨d2, hd2⟩ : ∃ d9 : Int64, d9 = dgN td d1 12 := ⟨_, rfl⟩
              rw [← hd2]
              refine z_iconst 65 hC dX2_digest_64 rfl ?_
              refine z_istoren (lv' := [(3, .int (iI 0)), (0, .ref m), (1, .long d2)]) 66 hC dX2_digest_65 rfl rfl (by decide) rfl ?_
              have loop66 : ∀ (N66 : Nat) (i : Int), 0 ≤ i ∧ i ≤ tm → (tm - i : Int) < N66 → Z E (wMo g m b 0 hr tm en (ssLo S) (ssSl S) (ssFa S) (ssS S) (ssF S) (ssW S) (kOf (ssO S) (ssP S)) (tbl tm bu sr lg (ssT S)) td ov) [(0, .ref m), (1, .long (dgM (tV bu sr lg S) 8 d2 i)), (3, .int (iI i))] 0 0 66 [] := by
                intro N66
                induction N66 with
                | zero => intro i hi hm66; exact absurd hm66 (by omega)
                | succ N66 ih66 =>
                  intro i hi hm66
                  refine z_iloadn 67 hC 2 dX2_digest_66 rfl rfl rfl ?_
                  refine z_aloadn 68 hC 0 dX2_digest_67 rfl rfl rfl ?_
                  refine z_get 71 0 2 hC hinX2 L39 dX2_digest_68 rfl rfl rfl (by decide) rfl ?_
                  refine z_icmp_ge 111 74 hC dX2_digest_71 (by decide) rfl (by omega) (by omega) (fun c_3 => ?_) (fun c_3 => ?_)
                  · skip
                    obtain rfl : tm = i := by omega
                    obtain ⟨d3, hd3⟩ : ∃ d9 : Int64, d9 = dgM (tV bu sr lg S) 8 d2 tm := ⟨_, rfl⟩
                    rw [← hd3]
                    refine z_iconst 112 hC dX2_digest_111 rfl ?_
                    refine z_istoren (lv' := [(3, .int (iI 0)), (0, .ref m), (1, .long d3)]) 113 hC dX2_digest_112 rfl rfl (by decide) rfl ?_
                    have loop113 : ∀ (N113 : Nat) (i : Int), 0 ≤ i ∧ i ≤ 120 → (120 - i : Int) < N113 → Z E (wMo g m b 0 hr tm en (ssLo S) (ssSl S) (ssFa S) (ssS S) (ssF S) (ssW S) (kOf (ssO S) (ssP S)) (tbl tm bu sr lg (ssT S)) td ov) [(0, .ref m), (1, .long (dgM (tclS (ssS S) (ssF S) (ssW S) (ssO S) (ssP S)) 6 d3 i)), (3, .int (iI i))] 0 0 113 [] := by
                      intro N113
                      induction N113 with
                      | zero => intro i hi hm113; exact absurd hm113 (by omega)
                      | succ N113 ih113 =>
                        intro i hi hm113
                        refine z_iloadn 114 hC 2 dX2_digest_113 rfl rfl rfl ?_
                        refine z_bipush 116 hC dX2_digest_114 (by decide) rfl ?_
                        refine z_icmp_ge 156 119 hC dX2_digest_116 (by decide) rfl (by omega) (by omega) (fun c_4 => ?_) (fun c_4 => ?_)
                        · skip
                          obtain rfl : i = 120 := by omega
                          obtain ⟨d4, hd4⟩ : ∃ d9 : Int64, d9 = dgM (tclS (ssS S) (ssF S) (ssW S) (ssO S) (ssP S)) 6 d3 120 := ⟨_, rfl⟩
                          rw [← hd4]
                          refine z_lloadn 157 hC 1 dX2_digest_156 rfl rfl rfl ?_
                          exact hret () dX2_digest_157 (by rw [hd4, hd3, hd2, hd1])
                        · skip
                          refine z_iconst 120 hC dX2_digest_119 rfl ?_
                          refine z_istore (lv' := [(4, .int (iI 0)), (0, .ref m), (1, .long (dgM (tclS (ssS S) (ssF S) (ssW S) (ssO S) (ssP S)) 6 d3 i)), (3, .int (iI i))]) 122 hC dX2_digest_120 rfl (by decide) rfl ?_
                          have loop122 : ∀ (N122 : Nat) (j : Int), 0 ≤ j ∧ j ≤ 6 → (6 - j : Int) < N122 → Z E (wMo g m b 0 hr tm en (ssLo S) (ssSl S) (ssFa S) (ssS S) (ssF S) (ssW S) (kOf (ssO S) (ssP S)) (tbl tm bu sr lg (ssT S)) td ov) [(0, .ref m), (1, .long (dgN ((tclS (ssS S) (ssF S) (ssW S) (ssO S) (ssP S)) i) (dgM (tclS (ssS S) (ssF S) (ssW S) (ssO S) (ssP S)) 6 d3 i) j)), (3, .int (iI i)), (4, .int (iI j))] 0 0 122 [] := by
                            intro N122
                            induction N122 with
                            | zero => intro j hj hm122; exact absurd hm122 (by omega)
                            | succ N122 ih122 =>
                              intro j hj hm122
                              refine z_iload 124 hC 3 dX2_digest_122 rfl rfl ?_
                              refine z_bipush 126 hC dX2_digest_124 (by decide) rfl ?_
                              refine z_icmp_ge 150 129 hC dX2_digest_126 (by decide) rfl (by omega) (by omega) (fun c_5 => ?_) (fun c_5 => ?_)
                              · skip
                                obtain rfl : j = 6 := by omega
                                refine z_iinc (lv' := [(3, .int (iI (i + 1))), (0, .ref m), (1, .long (dgN ((tclS (ssS S) (ssF S) (ssW S) (ssO S) (ssP S)) i) (dgM (tclS (ssS S) (ssF S) (ssW S) (ssO S) (ssP S)) 6 d3 i) 6)), (4, .int (iI 6))]) 153 2 hC dX2_digest_150 rfl rfl (by decide) rfl ?_
                                refine z_goto 113 hC dX2_digest_153 (by decide) ?_
                                refine z_lv (lv' := [(0, .ref m), (1, .long (dgN ((tclS (ssS S) (ssF S) (ssW S) (ssO S) (ssP S)) i) (dgM (tclS (ssS S) (ssF S) (ssW S) (ssO S) (ssP S)) 6 d3 i) 6)), (3, .int (iI (i + 1)))]) [1, 2, 0] rfl ?_
                                refine z_lveq (lv' := [(0, .ref m), (1, .long (dgM (tclS (ssS S) (ssF S) (ssW S) (ssO S) (ssP S)) 6 d3 (i + 1))), (3, .int (iI (i + 1)))]) (zfk (zll (by exact dgM_s (tclS (ssS S) (ssF S) (ssW S) (ssO S) (ssP S)) 6 d3 hi.1) (zfk rfl))) ?_
                                exact ih113 (i + 1) (by omega) (by omega)
                              · skip
                                refine z_lloadn 130 hC 1 dX2_digest_129 rfl rfl rfl ?_
                                refine z_ldc2 (v := 31) 133 hC (by decide +kernel) dX2_digest_130 rfl ?_
                                refine z_lmul 134 hC dX2_digest_133 rfl ?_
                                refine z_aloadn 135 hC 0 dX2_digest_134 rfl rfl rfl ?_
                                refine z_iloadn 136 hC 2 dX2_digest_135 rfl rfl rfl ?_
                                refine z_iload 138 hC 3 dX2_digest_136 rfl rfl ?_
                                refine z_calli (wr := []) (w2 := fun _ => wMo g m b 0 hr tm en (ssLo S) (ssSl S) (ssFa S) (ssS S) (ssF S) (ssW S) (kOf (ssO S) (ssP S)) (tbl tm bu sr lg (ssT S)) td ov) 141 hC [0, 1, 2, 3, 4, 5, 6, 7] [] [0, 1, 2, 3, 4, 5, 6, 7] (z_runV (nA := 2) hC hN (c_X2_cellTold l D g m b 0 hr tm en (ssLo S) (ssSl S) (ssFa S) (ssS S) (ssF S) (ssW S) (kOf (ssO S) (ssP S)) (tbl tm bu sr lg (ssT S)) td ov i j (kOf_bd hSB) (by omega) (by omega)) [0, 1, 2, 3, 4, 5, 6, 7] rfl (by decide) gX2_digest_X2_cellTold (by decide +kernel) rfl rfl rfl ⟨by decide, by decide⟩ rfl rfl (nle rfl) dX2_digest_138 ⟨by decide, by decide⟩ 0 rfl rfl) rfl rfl (by decide) (by decide) (fun _ => rfl) (by decide) rfl (k2 := 0) (n2 := 0) rfl rfl (fun z_6 _ p_7 => ?_)
                                subst p_7
                                rw [mcT_eq hSI (by omega)]
                                refine z_i2l 142 hC dX2_digest_141 rfl ?_
                                refine z_ladd 143 hC dX2_digest_142 rfl ?_
                                refine z_lstoren (lv' := [(1, .long (((dgN ((tclS (ssS S) (ssF S) (ssW S) (ssO S) (ssP S)) i) (dgM (tclS (ssS S) (ssF S) (ssW S) (ssO S) (ssP S)) 6 d3 i) j) * 31) + (lI ((tclS (ssS S) (ssF S) (ssW S) (ssO S) (ssP S)) i j)))), (0, .ref m), (3, .int (iI i)), (4, .int (iI j))]) 144 hC dX2_digest_143 rfl rfl (by decide) rfl ?_
                                refine z_iinc (lv' := [(4, .int (iI (j + 1))), (1, .long (((dgN ((tclS (ssS S) (ssF S) (ssW S) (ssO S) (ssP S)) i) (dgM (tclS (ssS S) (ssF S) (ssW S) (ssO S) (ssP S)) 6 d3 i) j) * 31) + (lI ((tclS (ssS S) (ssF S) (ssW S) (ssO S) (ssP S)) i j)))), (0, .ref m), (3, .int (iI i))]) 147 3 hC dX2_digest_144 rfl rfl (by decide) rfl ?_
                                refine z_goto 122 hC dX2_digest_147 (by decide) ?_
                                refine z_lv (lv' := [(0, .ref m), (1, .long (((dgN ((tclS (ssS S) (ssF S) (ssW S) (ssO S) (ssP S)) i) (dgM (tclS (ssS S) (ssF S) (ssW S) (ssO S) (ssP S)) 6 d3 i) j) * 31) + (lI ((tclS (ssS S) (ssF S) (ssW S) (ssO S) (ssP S)) i j)))), (3, .int (iI i)), (4, .int (iI (j + 1)))]) [2, 1, 3, 0] rfl ?_
                                refine z_lveq (lv' := [(0, .ref m), (1, .long (dgN ((tclS (ssS S) (ssF S) (ssW S) (ssO S) (ssP S)) i) (dgM (tclS (ssS S) (ssF S) (ssW S) (ssO S) (ssP S)) 6 d3 i) (j + 1))), (3, .int (iI i)), (4, .int (iI (j + 1)))]) (zfk (zll (by exact dgN_s ((tclS (ssS S) (ssF S) (ssW S) (ssO S) (ssP S)) i) (dgM (tclS (ssS S) (ssF S) (ssW S) (ssO S) (ssP S)) 6 d3 i) hj.1) (zfk (zfk rfl)))) ?_
                                exact ih122 (j + 1) (by omega) (by omega)
                          refine z_lv (lv' := [(0, .ref m), (1, .long (dgM (tclS (ssS S) (ssF S) (ssW S) (ssO S) (ssP S)) 6 d3 i)), (3, .int (iI i)), (4, .int (iI 0))]) [1, 2, 3, 0] rfl ?_
                          refine z_lveq (lv' := [(0, .ref m), (1, .long (dgN ((tclS (ssS S) (ssF S) (ssW S) (ssO S) (ssP S)) i) (dgM (tclS (ssS S) (ssF S) (ssW S) (ssO S) (ssP S)) 6 d3 i) 0)), (3, .int (iI i)), (4, .int (iI 0))]) (zfk (zll (by exact (dgN_0 ((tclS (ssS S) (ssF S) (ssW S) (ssO S) (ssP S)) i) (dgM (tclS (ssS S) (ssF S) (ssW S) (ssO S) (ssP S)) 6 d3 i)).symm) (zfk (zfk rfl)))) ?_
                          exact loop122 ((6 - 0 + 1 : Int).toNat) 0 (by omega) (by omega)
                    refine z_lv (lv' := [(0, .ref m), (1, .long d3), (3, .int (iI 0))]) [1, 2, 0] rfl ?_
                    refine z_lveq (lv' := [(0, .ref m), (1, .long (dgM (tclS (ssS S) (ssF S) (ssW S) (ssO S) (ssP S)) 6 d3 0)), (3, .int (iI 0))]) (zfk (zll (by exact (dgM_0 (tclS (ssS S) (ssF S) (ssW S) (ssO S) (ssP S)) 6 d3).symm) (zfk rfl))) ?_
                    exact loop113 ((120 - 0 + 1 : Int).toNat) 0 (by omega) (by omega)
                  · skip
                    refine z_iconst 75 hC dX2_digest_74 rfl ?_
                    refine z_istore (lv' := [(4, .int (iI 0)), (0, .ref m), (1, .long (dgM (tV bu sr lg S) 8 d2 i)), (3, .int (iI i))]) 77 hC dX2_digest_75 rfl (by decide) rfl ?_
                    have loop77 : ∀ (N77 : Nat) (j : Int), 0 ≤ j ∧ j ≤ 8 → (8 - j : Int) < N77 → Z E (wMo g m b 0 hr tm en (ssLo S) (ssSl S) (ssFa S) (ssS S) (ssF S) (ssW S) (kOf (ssO S) (ssP S)) (tbl tm bu sr lg (ssT S)) td ov) [(0, .ref m), (1, .long (dgN (tV bu sr lg S i) (dgM (tV bu sr lg S) 8 d2 i) j)), (3, .int (iI i)), (4, .int (iI j))] 0 0 77 [] := by
                      intro N77
                      induction N77 with
                      | zero => intro j hj hm77; exact absurd hm77 (by omega)
                      | succ N77 ih77 =>
                        intro j hj hm77
                        refine z_iload 79 hC 3 dX2_digest_77 rfl rfl ?_
                        refine z_bipush 81 hC dX2_digest_79 (by decide) rfl ?_
                        refine z_icmp_ge 105 84 hC dX2_digest_81 (by decide) rfl (by omega) (by omega) (fun c_8 => ?_) (fun c_8 => ?_)
                        · skip
                          obtain rfl : j = 8 := by omega
                          refine z_iinc (lv' := [(3, .int (iI (i + 1))), (0, .ref m), (1, .long (dgN (tV bu sr lg S i) (dgM (tV bu sr lg S) 8 d2 i) 8)), (4, .int (iI 8))]) 108 2 hC dX2_digest_105 rfl rfl (by decide) rfl ?_
                          refine z_goto 66 hC dX2_digest_108 (by decide) ?_
                          refine z_lv (lv' := [(0, .ref m), (1, .long (dgN (tV bu sr lg S i) (dgM (tV bu sr lg S) 8 d2 i) 8)), (3, .int (iI (i + 1)))]) [1, 2, 0] rfl ?_
                          refine z_lveq (lv' := [(0, .ref m), (1, .long (dgM (tV bu sr lg S) 8 d2 (i + 1))), (3, .int (iI (i + 1)))]) (zfk (zll (by exact dgM_s (tV bu sr lg S) 8 d2 hi.1) (zfk rfl))) ?_
                          exact ih66 (i + 1) (by omega) (by omega)
                        · skip
                          refine z_lloadn 85 hC 1 dX2_digest_84 rfl rfl rfl ?_
                          refine z_ldc2 (v := 31) 88 hC (by decide +kernel) dX2_digest_85 rfl ?_
                          refine z_lmul 89 hC dX2_digest_88 rfl ?_
                          refine z_aloadn 90 hC 0 dX2_digest_89 rfl rfl rfl ?_
                          refine z_iloadn 91 hC 2 dX2_digest_90 rfl rfl rfl ?_
                          refine z_iload 93 hC 3 dX2_digest_91 rfl rfl ?_
                          refine z_calli (wr := []) (w2 := fun _ => wMo g m b 0 hr tm en (ssLo S) (ssSl S) (ssFa S) (ssS S) (ssF S) (ssW S) (kOf (ssO S) (ssP S)) (tbl tm bu sr lg (ssT S)) td ov) 96 hC [0, 1, 2, 3, 4, 5, 6, 7] [] [0, 1, 2, 3, 4, 5, 6, 7] (z_runV (nA := 2) hC hN (c_X2_teamTold l D g m b 0 hr tm en td bu sr lg ov S i j hI hSI (by omega) (by omega)) [0, 1, 2, 3, 4, 5, 6, 7] rfl (by decide) gX2_digest_X2_teamTold (by decide +kernel) rfl rfl rfl ⟨by decide, by decide⟩ rfl rfl (nle rfl) dX2_digest_93 ⟨by decide, by decide⟩ 0 rfl rfl) rfl rfl (by decide) (by decide) (fun _ => rfl) (by decide) rfl (k2 := 0) (n2 := 0) rfl rfl (fun z_9 _ p_10 => ?_)
                          subst p_10
                          refine z_i2l 97 hC dX2_digest_96 rfl ?_
                          refine z_ladd 98 hC dX2_digest_97 rfl ?_
                          refine z_lstoren (lv' := [(1, .long (((dgN (tV bu sr lg S i) (dgM (tV bu sr lg S) 8 d2 i) j) * 31) + (lI (tV bu sr lg S i j)))), (0, .ref m), (3, .int (iI i)), (4, .int (iI j))]) 99 hC dX2_digest_98 rfl rfl (by decide) rfl ?_
                          refine z_iinc (lv' := [(4, .int (iI (j + 1))), (1, .long (((dgN (tV bu sr lg S i) (dgM (tV bu sr lg S) 8 d2 i) j) * 31) + (lI (tV bu sr lg S i j)))), (0, .ref m), (3, .int (iI i))]) 102 3 hC dX2_digest_99 rfl rfl (by decide) rfl ?_
                          refine z_goto 77 hC dX2_digest_102 (by decide) ?_
                          refine z_lv (lv' := [(0, .ref m), (1, .long (((dgN (tV bu sr lg S i) (dgM (tV bu sr lg S) 8 d2 i) j) * 31) + (lI (tV bu sr lg S i j)))), (3, .int (iI i)), (4, .int (iI (j + 1)))]) [2, 1, 3, 0] rfl ?_
                          refine z_lveq (lv' := [(0, .ref m), (1, .long (dgN (tV bu sr lg S i) (dgM (tV bu sr lg S) 8 d2 i) (j + 1))), (3, .int (iI i)), (4, .int (iI (j + 1)))]) (zfk (zll (by exact dgN_s (tV bu sr lg S i) (dgM (tV bu sr lg S) 8 d2 i) hj.1) (zfk (zfk rfl)))) ?_
                          exact ih77 (j + 1) (by omega) (by omega)
                    refine z_lv (lv' := [(0, .ref m), (1, .long (dgM (tV bu sr lg S) 8 d2 i)), (3, .int (iI i)), (4, .int (iI 0))]) [1, 2, 3, 0] rfl ?_
                    refine z_lveq (lv' := [(0, .ref m), (1, .long (dgN (tV bu sr lg S i) (dgM (tV bu sr lg S) 8 d2 i) 0)), (3, .int (iI i)), (4, .int (iI 0))]) (zfk (zll (by exact (dgN_0 (tV bu sr lg S i) (dgM (tV bu sr lg S) 8 d2 i)).symm) (zfk (zfk rfl)))) ?_
                    exact loop77 ((8 - 0 + 1 : Int).toNat) 0 (by omega) (by omega)
              refine z_lv (lv' := [(0, .ref m), (1, .long d2), (3, .int (iI 0))]) [1, 2, 0] rfl ?_
              refine z_lveq (lv' := [(0, .ref m), (1, .long (dgM (tV bu sr lg S) 8 d2 0)), (3, .int (iI 0))]) (zfk (zll (by exact (dgM_0 (tV bu sr lg S) 8 d2).symm) (zfk rfl))) ?_
              exact loop66 ((tm - 0 + 1 : Int).toNat) 0 (by omega) (by omega)
            · skip
              refine z_lloadn 45 hC 1 dX2_digest_44 rfl rfl rfl ?_
              refine z_ldc2 (v := 31) 48 hC (by decide +kernel) dX2_digest_45 rfl ?_
              refine z_lmul 49 hC dX2_digest_48 rfl ?_
              refine z_aloadn 50 hC 0 dX2_digest_49 rfl rfl rfl ?_
              refine z_get 53 0 12 hC hinX2 L25 dX2_digest_50 rfl rfl rfl (by decide) rfl ?_
              refine z_iloadn 54 hC 2 dX2_digest_53 rfl rfl rfl ?_
              refine z_iald 55 6 hC dX2_digest_54 rfl rfl (by decide) (by omega) ?_
              have b_11 := htd i (by omega) (by omega)
              refine z_i2l 56 hC dX2_digest_55 rfl ?_
              refine z_ladd 57 hC dX2_digest_56 rfl ?_
              refine z_lstoren (lv' := [(1, .long (((dgN td d1 i) * 31) + (lI (td i)))), (0, .ref m), (3, .int (iI i))]) 58 hC dX2_digest_57 rfl rfl (by decide) rfl ?_
              refine z_iinc (lv' := [(3, .int (iI (i + 1))), (1, .long (((dgN td d1 i) * 31) + (lI (td i)))), (0, .ref m)]) 61 2 hC dX2_digest_58 rfl rfl (by decide) rfl ?_
              refine z_goto 38 hC dX2_digest_61 (by decide) ?_
              refine z_lv (lv' := [(0, .ref m), (1, .long (((dgN td d1 i) * 31) + (lI (td i)))), (3, .int (iI (i + 1)))]) [2, 1, 0] rfl ?_
              refine z_lveq (lv' := [(0, .ref m), (1, .long (dgN td d1 (i + 1))), (3, .int (iI (i + 1)))]) (zfk (zll (by exact dgN_s td d1 hi.1) (zfk rfl))) ?_
              exact ih38 (i + 1) (by omega) (by omega)
        refine z_lv (lv' := [(0, .ref m), (1, .long d1), (3, .int (iI 0))]) [1, 2, 0] rfl ?_
        refine z_lveq (lv' := [(0, .ref m), (1, .long (dgN td d1 0)), (3, .int (iI 0))]) (zfk (zll (by exact (dgN_0 td d1).symm) (zfk rfl))) ?_
        exact loop38 ((12 - 0 + 1 : Int).toNat) 0 (by omega) (by omega)
      · skip
        refine z_lloadn 18 hC 1 dX2_digest_17 rfl rfl rfl ?_
        refine z_ldc2 (v := 31) 21 hC (by decide +kernel) dX2_digest_18 rfl ?_
        refine z_lmul 22 hC dX2_digest_21 rfl ?_
        refine z_aloadn 23 hC 0 dX2_digest_22 rfl rfl rfl ?_
        refine z_iloadn 24 hC 2 dX2_digest_23 rfl rfl rfl ?_
        refine z_calli (wr := []) (w2 := fun _ => wMo g m b 0 hr tm en (ssLo S) (ssSl S) (ssFa S) (ssS S) (ssF S) (ssW S) (kOf (ssO S) (ssP S)) (tbl tm bu sr lg (ssT S)) td ov) 27 hC [0, 1, 2, 3, 4, 5, 6, 7] [] [0, 1, 2, 3, 4, 5, 6, 7] (z_runV (nA := 1) hC hN (c_X2_counted l D g m b 0 hr tm en td bu sr lg ov S i hI hSI (by omega)) [0, 1, 2, 3, 4, 5, 6, 7] rfl (by decide) gX2_digest_X2_counted (by decide +kernel) rfl rfl rfl ⟨by decide, by decide⟩ rfl rfl (nle rfl) dX2_digest_24 ⟨by decide, by decide⟩ 0 rfl rfl) rfl rfl (by decide) (by decide) (fun _ => rfl) (by decide) rfl (k2 := 0) (n2 := 0) rfl rfl (fun z_12 _ p_13 => ?_)
        subst p_13
        refine z_i2l 28 hC dX2_digest_27 rfl ?_
        refine z_ladd 29 hC dX2_digest_28 rfl ?_
        refine z_lstoren (lv' := [(1, .long (((dgN (cV S tm hr en) 503 i) * 31) + (lI (cV S tm hr en i)))), (0, .ref m), (3, .int (iI i))]) 30 hC dX2_digest_29 rfl rfl (by decide) rfl ?_
        refine z_iinc (lv' := [(3, .int (iI (i + 1))), (1, .long (((dgN (cV S tm hr en) 503 i) * 31) + (lI (cV S tm hr en i)))), (0, .ref m)]) 33 2 hC dX2_digest_30 rfl rfl (by decide) rfl ?_
        refine z_goto 11 hC dX2_digest_33 (by decide) ?_
        refine z_lv (lv' := [(0, .ref m), (1, .long (((dgN (cV S tm hr en) 503 i) * 31) + (lI (cV S tm hr en i)))), (3, .int (iI (i + 1)))]) [2, 1, 0] rfl ?_
        refine z_lveq (lv' := [(0, .ref m), (1, .long (dgN (cV S tm hr en) 503 (i + 1))), (3, .int (iI (i + 1)))]) (zfk (zll (by exact dgN_s (cV S tm hr en) 503 hi.1) (zfk rfl))) ?_
        exact ih11 (i + 1) (by omega) (by omega)
  refine z_lv (lv' := [(0, .ref m), (1, .long 503), (3, .int (iI 0))]) [2, 1, 0] rfl ?_
  refine z_lveq (lv' := [(0, .ref m), (1, .long (dgN (cV S tm hr en) 503 0)), (3, .int (iI 0))]) (zfk (zll (by exact (dgN_0 (cV S tm hr en) 503).symm) (zfk rfl))) ?_
  exact loop11 ((9 - 0 + 1 : Int).toNat) 0 (by omega) (by omega)
set_option maxHeartbeats 4000000 in
set_option maxRecDepth 100000 in
theorem c_X2_init (l : Launch) (D : va_G) (g : Nat → ClassId) (m : Nat) : ZMv (S := (Nat → Nat)) l yX2_init wsX2_init ({ frames := 3, cells := 7, slots := 628, locals := 120 }) D g [.ref m] ([(m, .inr (2, [.int (iI 0), .int (iI 0), .int (iI 0), .int (iI 0), .int (iI 0), .int (iI 0), .int (iI 0), .null, .null, .null, .null, .null, .null, .null]))]) (fun _ => True) (fun u => wMo g m u 0 0 0 0 0 0 0 (fun _ => 4) (fun _ => 0) (fun _ => 0) (fun _ => 0) (fun _ => 0) ftd (fun _ => 0)) 7 628 := by
  have hinX2 : ∀ w ∈ u_ws RX2 TX2 14, w ∈ wsX2_init := by decide +kernel
  have L9 : Cond.fieldLink RX2 9 "SandcastleLeagueModel" "sand" "[I" ∈ wsX2_init := by decide +kernel
  have L13 : Cond.fieldLink RX2 13 "SandcastleLeagueModel" "firm" "[I" ∈ wsX2_init := by decide +kernel
  have L16 : Cond.fieldLink RX2 16 "SandcastleLeagueModel" "water" "[I" ∈ wsX2_init := by decide +kernel
  have L19 : Cond.fieldLink RX2 19 "SandcastleLeagueModel" "sticks" "[I" ∈ wsX2_init := by decide +kernel
  have L22 : Cond.fieldLink RX2 22 "SandcastleLeagueModel" "table" "[I" ∈ wsX2_init := by decide +kernel
  have L25 : Cond.fieldLink RX2 25 "SandcastleLeagueModel" "tides" "[I" ∈ wsX2_init := by decide +kernel
  have L28 : Cond.fieldLink RX2 28 "SandcastleLeagueModel" "over" "[I" ∈ wsX2_init := by decide +kernel
  refine ZMv.ofI (own := RX2) cX2_init 1 [(0, .ref m)] (by decide +kernel) (by decide +kernel) rfl (nle rfl) rfl rfl ?_
  intro E hC hN hI hret
  refine z_aloadn 1 hC 0 dX2_init_0 rfl rfl rfl ?_
  refine z_objInit 4 hC (by decide +kernel) (by decide +kernel) (by decide +kernel) (by decide) (nle rfl) dX2_init_1 rfl ?_
  refine z_aloadn 5 hC 0 dX2_init_4 rfl rfl rfl ?_
  refine z_bipush 7 hC dX2_init_5 (by decide) rfl ?_
  refine z_newi (ws' := fun x_1 => ([(m, .inr (2, [.int (iI 0), .int (iI 0), .int (iI 0), .int (iI 0), .int (iI 0), .int (iI 0), .int (iI 0), .null, .null, .null, .null, .null, .null, .null]))]) ++ (([(x_1, ar g 120 (fun _ => 0))]))) (k2 := 1) (n2 := 120) 9 hC (by decide +kernel) (by decide) (nle rfl) (by decide) (by decide) dX2_init_7 rfl rfl rfl (fun _ => rfl) (fun x_1 => ?_)
  refine z_putR (ty := .array .int) (ws' := ([(m, .inr (2, [.int (iI 0), .int (iI 0), .int (iI 0), .int (iI 0), .int (iI 0), .int (iI 0), .int (iI 0), .ref x_1, .null, .null, .null, .null, .null, .null]))]) ++ (([(x_1, ar g 120 (fun _ => 0))]))) 12 0 7 hC tyX2 tyX2_ok nmX2 hinX2 L9 dX2_init_9 rfl rfl rfl (by decide) rfl (by decide +kernel) rfl rfl (nle rfl) rfl ?_
  refine z_aloadn 13 hC 0 dX2_init_12 rfl rfl rfl ?_
  refine z_bipush 15 hC dX2_init_13 (by decide) rfl ?_
  refine z_newi (ws' := fun x_2 => ([(m, .inr (2, [.int (iI 0), .int (iI 0), .int (iI 0), .int (iI 0), .int (iI 0), .int (iI 0), .int (iI 0), .ref x_1, .null, .null, .null, .null, .null, .null]))]) ++ (([(x_1, ar g 120 (fun _ => 0))]) ++ (([(x_2, ar g 120 (fun _ => 0))])))) (k2 := 2) (n2 := 240) 17 hC (by decide +kernel) (by decide) (nle rfl) (by decide) (by decide) dX2_init_15 rfl rfl rfl (fun _ => rfl) (fun x_2 => ?_)
  refine z_putR (ty := .array .int) (ws' := ([(m, .inr (2, [.int (iI 0), .int (iI 0), .int (iI 0), .int (iI 0), .int (iI 0), .int (iI 0), .int (iI 0), .ref x_1, .ref x_2, .null, .null, .null, .null, .null]))]) ++ (([(x_1, ar g 120 (fun _ => 0))]) ++ (([(x_2, ar g 120 (fun _ => 0))])))) 20 0 8 hC tyX2 tyX2_ok nmX2 hinX2 L13 dX2_init_17 rfl rfl rfl (by decide) rfl (by decide +kernel) rfl rfl (nle rfl) rfl ?_
  refine z_aloadn 21 hC 0 dX2_init_20 rfl rfl rfl ?_
  refine z_bipush 23 hC dX2_init_21 (by decide) rfl ?_
  refine z_newi (ws' := fun x_3 => ([(m, .inr (2, [.int (iI 0), .int (iI 0), .int (iI 0), .int (iI 0), .int (iI 0), .int (iI 0), .int (iI 0), .ref x_1, .ref x_2, .null, .null, .null, .null, .null]))]) ++ (([(x_1, ar g 120 (fun _ => 0))]) ++ (([(x_2, ar g 120 (fun _ => 0))]) ++ (([(x_3, ar g 120 (fun _ => 0))]))))) (k2 := 3) (n2 := 360) 25 hC (by decide +kernel) (by decide) (nle rfl) (by decide) (by decide) dX2_init_23 rfl rfl rfl (fun _ => rfl) (fun x_3 => ?_)
  refine z_putR (ty := .array .int) (ws' := ([(m, .inr (2, [.int (iI 0), .int (iI 0), .int (iI 0), .int (iI 0), .int (iI 0), .int (iI 0), .int (iI 0), .ref x_1, .ref x_2, .ref x_3, .null, .null, .null, .null]))]) ++ (([(x_1, ar g 120 (fun _ => 0))]) ++ (([(x_2, ar g 120 (fun _ => 0))]) ++ (([(x_3, ar g 120 (fun _ => 0))]))))) 28 0 9 hC tyX2 tyX2_ok nmX2 hinX2 L16 dX2_init_25 rfl rfl rfl (by decide) rfl (by decide +kernel) rfl rfl (nle rfl) rfl ?_
  refine z_aloadn 29 hC 0 dX2_init_28 rfl rfl rfl ?_
  refine z_bipush 31 hC dX2_init_29 (by decide) rfl ?_
  refine z_newi (ws' := fun x_4 => ([(m, .inr (2, [.int (iI 0), .int (iI 0), .int (iI 0), .int (iI 0), .int (iI 0), .int (iI 0), .int (iI 0), .ref x_1, .ref x_2, .ref x_3, .null, .null, .null, .null]))]) ++ (([(x_1, ar g 120 (fun _ => 0))]) ++ (([(x_2, ar g 120 (fun _ => 0))]) ++ (([(x_3, ar g 120 (fun _ => 0))]) ++ (([(x_4, ar g 120 (fun _ => 0))])))))) (k2 := 4) (n2 := 480) 33 hC (by decide +kernel) (by decide) (nle rfl) (by decide) (by decide) dX2_init_31 rfl rfl rfl (fun _ => rfl) (fun x_4 => ?_)
  refine z_putR (ty := .array .int) (ws' := ([(m, .inr (2, [.int (iI 0), .int (iI 0), .int (iI 0), .int (iI 0), .int (iI 0), .int (iI 0), .int (iI 0), .ref x_1, .ref x_2, .ref x_3, .ref x_4, .null, .null, .null]))]) ++ (([(x_1, ar g 120 (fun _ => 0))]) ++ (([(x_2, ar g 120 (fun _ => 0))]) ++ (([(x_3, ar g 120 (fun _ => 0))]) ++ (([(x_4, ar g 120 (fun _ => 0))])))))) 36 0 10 hC tyX2 tyX2_ok nmX2 hinX2 L19 dX2_init_33 rfl rfl rfl (by decide) rfl (by decide +kernel) rfl rfl (nle rfl) rfl ?_
  refine z_aloadn 37 hC 0 dX2_init_36 rfl rfl rfl ?_
  refine z_bipush 39 hC dX2_init_37 (by decide) rfl ?_
  refine z_newi (ws' := fun x_5 => ([(m, .inr (2, [.int (iI 0), .int (iI 0), .int (iI 0), .int (iI 0), .int (iI 0), .int (iI 0), .int (iI 0), .ref x_1, .ref x_2, .ref x_3, .ref x_4, .null, .null, .null]))]) ++ (([(x_1, ar g 120 (fun _ => 0))]) ++ (([(x_2, ar g 120 (fun _ => 0))]) ++ (([(x_3, ar g 120 (fun _ => 0))]) ++ (([(x_4, ar g 120 (fun _ => 0))]) ++ (([(x_5, ar g 16 (fun _ => 0))]))))))) (k2 := 5) (n2 := 496) 41 hC (by decide +kernel) (by decide) (nle rfl) (by decide) (by decide) dX2_init_39 rfl rfl rfl (fun _ => rfl) (fun x_5 => ?_)
  refine z_putR (ty := .array .int) (ws' := ([(m, .inr (2, [.int (iI 0), .int (iI 0), .int (iI 0), .int (iI 0), .int (iI 0), .int (iI 0), .int (iI 0), .ref x_1, .ref x_2, .ref x_3, .ref x_4, .ref x_5, .null, .null]))]) ++ (([(x_1, ar g 120 (fun _ => 0))]) ++ (([(x_2, ar g 120 (fun _ => 0))]) ++ (([(x_3, ar g 120 (fun _ => 0))]) ++ (([(x_4, ar g 120 (fun _ => 0))]) ++ (([(x_5, ar g 16 (fun _ => 0))]))))))) 44 0 11 hC tyX2 tyX2_ok nmX2 hinX2 L22 dX2_init_41 rfl rfl rfl (by decide) rfl (by decide +kernel) rfl rfl (nle rfl) rfl ?_
  refine z_aloadn 45 hC 0 dX2_init_44 rfl rfl rfl ?_
  refine z_bipush 47 hC dX2_init_45 (by decide) rfl ?_
  refine z_newi (ws' := fun x_6 => ([(m, .inr (2, [.int (iI 0), .int (iI 0), .int (iI 0), .int (iI 0), .int (iI 0), .int (iI 0), .int (iI 0), .ref x_1, .ref x_2, .ref x_3, .ref x_4, .ref x_5, .null, .null]))]) ++ (([(x_1, ar g 120 (fun _ => 0))]) ++ (([(x_2, ar g 120 (fun _ => 0))]) ++ (([(x_3, ar g 120 (fun _ => 0))]) ++ (([(x_4, ar g 120 (fun _ => 0))]) ++ (([(x_5, ar g 16 (fun _ => 0))]) ++ (([(x_6, ar g 12 (fun _ => 0))])))))))) (k2 := 6) (n2 := 508) 49 hC (by decide +kernel) (by decide) (nle rfl) (by decide) (by decide) dX2_init_47 rfl rfl rfl (fun _ => rfl) (fun x_6 => ?_)
  refine z_dup 50 hC dX2_init_49 rfl rfl ?_
  refine z_iconst 51 hC dX2_init_50 rfl ?_
  refine z_iconst 52 hC dX2_init_51 rfl ?_
  refine z_iast (ws' := ([(m, .inr (2, [.int (iI 0), .int (iI 0), .int (iI 0), .int (iI 0), .int (iI 0), .int (iI 0), .int (iI 0), .ref x_1, .ref x_2, .ref x_3, .ref x_4, .ref x_5, .null, .null]))]) ++ (([(x_1, ar g 120 (fun _ => 0))]) ++ (([(x_2, ar g 120 (fun _ => 0))]) ++ (([(x_3, ar g 120 (fun _ => 0))]) ++ (([(x_4, ar g 120 (fun _ => 0))]) ++ (([(x_5, ar g 16 (fun _ => 0))]) ++ (([(x_6, ar g 12 (up (fun _ => 0) 0 2))])))))))) 53 6 hC dX2_init_52 rfl rfl (by decide) (by omega) rfl ?_
  refine z_dup 54 hC dX2_init_53 rfl rfl ?_
  refine z_iconst 55 hC dX2_init_54 rfl ?_
  refine z_iconst 56 hC dX2_init_55 rfl ?_
  refine z_iast (ws' := ([(m, .inr (2, [.int (iI 0), .int (iI 0), .int (iI 0), .int (iI 0), .int (iI 0), .int (iI 0), .int (iI 0), .ref x_1, .ref x_2, .ref x_3, .ref x_4, .ref x_5, .null, .null]))]) ++ (([(x_1, ar g 120 (fun _ => 0))]) ++ (([(x_2, ar g 120 (fun _ => 0))]) ++ (([(x_3, ar g 120 (fun _ => 0))]) ++ (([(x_4, ar g 120 (fun _ => 0))]) ++ (([(x_5, ar g 16 (fun _ => 0))]) ++ (([(x_6, ar g 12 (up (up (fun _ => 0) 0 2) 1 4))])))))))) 57 6 hC dX2_init_56 rfl rfl (by decide) (by omega) rfl ?_
  refine z_dup 58 hC dX2_init_57 rfl rfl ?_
  refine z_iconst 59 hC dX2_init_58 rfl ?_
  refine z_bipush 61 hC dX2_init_59 (by decide) rfl ?_
  refine z_iast (ws' := ([(m, .inr (2, [.int (iI 0), .int (iI 0), .int (iI 0), .int (iI 0), .int (iI 0), .int (iI 0), .int (iI 0), .ref x_1, .ref x_2, .ref x_3, .ref x_4, .ref x_5, .null, .null]))]) ++ (([(x_1, ar g 120 (fun _ => 0))]) ++ (([(x_2, ar g 120 (fun _ => 0))]) ++ (([(x_3, ar g 120 (fun _ => 0))]) ++ (([(x_4, ar g 120 (fun _ => 0))]) ++ (([(x_5, ar g 16 (fun _ => 0))]) ++ (([(x_6, ar g 12 (up (up (up (fun _ => 0) 0 2) 1 4) 2 7))])))))))) 62 6 hC dX2_init_61 rfl rfl (by decide) (by omega) rfl ?_
  refine z_dup 63 hC dX2_init_62 rfl rfl ?_
  refine z_iconst 64 hC dX2_init_63 rfl ?_
  refine z_bipush 66 hC dX2_init_64 (by decide) rfl ?_
  refine z_iast (ws' := ([(m, .inr (2, [.int (iI 0), .int (iI 0), .int (iI 0), .int (iI 0), .int (iI 0), .int (iI 0), .int (iI 0), .ref x_1, .ref x_2, .ref x_3, .ref x_4, .ref x_5, .null, .null]))]) ++ (([(x_1, ar g 120 (fun _ => 0))]) ++ (([(x_2, ar g 120 (fun _ => 0))]) ++ (([(x_3, ar g 120 (fun _ => 0))]) ++ (([(x_4, ar g 120 (fun _ => 0))]) ++ (([(x_5, ar g 16 (fun _ => 0))]) ++ (([(x_6, ar g 12 (up (up (up (up (fun _ => 0) 0 2) 1 4) 2 7) 3 9))])))))))) 67 6 hC dX2_init_66 rfl rfl (by decide) (by omega) rfl ?_
  refine z_dup 68 hC dX2_init_67 rfl rfl ?_
  refine z_iconst 69 hC dX2_init_68 rfl ?_
  refine z_bipush 71 hC dX2_init_69 (by decide) rfl ?_
  refine z_iast (ws' := ([(m, .inr (2, [.int (iI 0), .int (iI 0), .int (iI 0), .int (iI 0), .int (iI 0), .int (iI 0), .int (iI 0), .ref x_1, .ref x_2, .ref x_3, .ref x_4, .ref x_5, .null, .null]))]) ++ (([(x_1, ar g 120 (fun _ => 0))]) ++ (([(x_2, ar g 120 (fun _ => 0))]) ++ (([(x_3, ar g 120 (fun _ => 0))]) ++ (([(x_4, ar g 120 (fun _ => 0))]) ++ (([(x_5, ar g 16 (fun _ => 0))]) ++ (([(x_6, ar g 12 (up (up (up (up (up (fun _ => 0) 0 2) 1 4) 2 7) 3 9) 4 10))])))))))) 72 6 hC dX2_init_71 rfl rfl (by decide) (by omega) rfl ?_
  refine z_dup 73 hC dX2_init_72 rfl rfl ?_
  refine z_iconst 74 hC dX2_init_73 rfl ?_
  refine z_bipush 76 hC dX2_init_74 (by decide) rfl ?_
  refine z_iast (ws' := ([(m, .inr (2, [.int (iI 0), .int (iI 0), .int (iI 0), .int (iI 0), .int (iI 0), .int (iI 0), .int (iI 0), .ref x_1, .ref x_2, .ref x_3, .ref x_4, .ref x_5, .null, .null]))]) ++ (([(x_1, ar g 120 (fun _ => 0))]) ++ (([(x_2, ar g 120 (fun _ => 0))]) ++ (([(x_3, ar g 120 (fun _ => 0))]) ++ (([(x_4, ar g 120 (fun _ => 0))]) ++ (([(x_5, ar g 16 (fun _ => 0))]) ++ (([(x_6, ar g 12 (up (up (up (up (up (up (fun _ => 0) 0 2) 1 4) 2 7) 3 9) 4 10) 5 10))])))))))) 77 6 hC dX2_init_76 rfl rfl (by decide) (by omega) rfl ?_
  refine z_dup 78 hC dX2_init_77 rfl rfl ?_
  refine z_bipush 80 hC dX2_init_78 (by decide) rfl ?_
  refine z_bipush 82 hC dX2_init_80 (by decide) rfl ?_
  refine z_iast (ws' := ([(m, .inr (2, [.int (iI 0), .int (iI 0), .int (iI 0), .int (iI 0), .int (iI 0), .int (iI 0), .int (iI 0), .ref x_1, .ref x_2, .ref x_3, .ref x_4, .ref x_5, .null, .null]))]) ++ (([(x_1, ar g 120 (fun _ => 0))]) ++ (([(x_2, ar g 120 (fun _ => 0))]) ++ (([(x_3, ar g 120 (fun _ => 0))]) ++ (([(x_4, ar g 120 (fun _ => 0))]) ++ (([(x_5, ar g 16 (fun _ => 0))]) ++ (([(x_6, ar g 12 (up (up (up (up (up (up (up (fun _ => 0) 0 2) 1 4) 2 7) 3 9) 4 10) 5 10) 6 9))])))))))) 83 6 hC dX2_init_82 rfl rfl (by decide) (by omega) rfl ?_
  refine z_dup 84 hC dX2_init_83 rfl rfl ?_
  refine z_bipush 86 hC dX2_init_84 (by decide) rfl ?_
  refine z_bipush 88 hC dX2_init_86 (by decide) rfl ?_
  refine z_iast (ws' := ([(m, .inr (2, [.int (iI 0), .int (iI 0), .int (iI 0), .int (iI 0), .int (iI 0), .int (iI 0), .int (iI 0), .ref x_1, .ref x_2, .ref x_3, .ref x_4, .ref x_5, .null, .null]))]) ++ (([(x_1, ar g 120 (fun _ => 0))]) ++ (([(x_2, ar g 120 (fun _ => 0))]) ++ (([(x_3, ar g 120 (fun _ => 0))]) ++ (([(x_4, ar g 120 (fun _ => 0))]) ++ (([(x_5, ar g 16 (fun _ => 0))]) ++ (([(x_6, ar g 12 (up (up (up (up (up (up (up (up (fun _ => 0) 0 2) 1 4) 2 7) 3 9) 4 10) 5 10) 6 9) 7 7))])))))))) 89 6 hC dX2_init_88 rfl rfl (by decide) (by omega) rfl ?_
  refine z_dup 90 hC dX2_init_89 rfl rfl ?_
  refine z_bipush 92 hC dX2_init_90 (by decide) rfl ?_
  refine z_iconst 93 hC dX2_init_92 rfl ?_
  refine z_iast (ws' := ([(m, .inr (2, [.int (iI 0), .int (iI 0), .int (iI 0), .int (iI 0), .int (iI 0), .int (iI 0), .int (iI 0), .ref x_1, .ref x_2, .ref x_3, .ref x_4, .ref x_5, .null, .null]))]) ++ (([(x_1, ar g 120 (fun _ => 0))]) ++ (([(x_2, ar g 120 (fun _ => 0))]) ++ (([(x_3, ar g 120 (fun _ => 0))]) ++ (([(x_4, ar g 120 (fun _ => 0))]) ++ (([(x_5, ar g 16 (fun _ => 0))]) ++ (([(x_6, ar g 12 (up (up (up (up (up (up (up (up (up (fun _ => 0) 0 2) 1 4) 2 7) 3 9) 4 10) 5 10) 6 9) 7 7) 8 5))])))))))) 94 6 hC dX2_init_93 rfl rfl (by decide) (by omega) rfl ?_
  refine z_dup 95 hC dX2_init_94 rfl rfl ?_
  refine z_bipush 97 hC dX2_init_95 (by decide) rfl ?_
  refine z_iconst 98 hC dX2_init_97 rfl ?_
  refine z_iast (ws' := ([(m, .inr (2, [.int (iI 0), .int (iI 0), .int (iI 0), .int (iI 0), .int (iI 0), .int (iI 0), .int (iI 0), .ref x_1, .ref x_2, .ref x_3, .ref x_4, .ref x_5, .null, .null]))]) ++ (([(x_1, ar g 120 (fun _ => 0))]) ++ (([(x_2, ar g 120 (fun _ => 0))]) ++ (([(x_3, ar g 120 (fun _ => 0))]) ++ (([(x_4, ar g 120 (fun _ => 0))]) ++ (([(x_5, ar g 16 (fun _ => 0))]) ++ (([(x_6, ar g 12 (up (up (up (up (up (up (up (up (up (up (fun _ => 0) 0 2) 1 4) 2 7) 3 9) 4 10) 5 10) 6 9) 7 7) 8 5) 9 3))])))))))) 99 6 hC dX2_init_98 rfl rfl (by decide) (by omega) rfl ?_
  refine z_dup 100 hC dX2_init_99 rfl rfl ?_
  refine z_bipush 102 hC dX2_init_100 (by decide) rfl ?_
  refine z_iconst 103 hC dX2_init_102 rfl ?_
  refine z_iast (ws' := ([(m, .inr (2, [.int (iI 0), .int (iI 0), .int (iI 0), .int (iI 0), .int (iI 0), .int (iI 0), .int (iI 0), .ref x_1, .ref x_2, .ref x_3, .ref x_4, .ref x_5, .null, .null]))]) ++ (([(x_1, ar g 120 (fun _ => 0))]) ++ (([(x_2, ar g 120 (fun _ => 0))]) ++ (([(x_3, ar g 120 (fun _ => 0))]) ++ (([(x_4, ar g 120 (fun _ => 0))]) ++ (([(x_5, ar g 16 (fun _ => 0))]) ++ (([(x_6, ar g 12 (up (up (up (up (up (up (up (up (up (up (up (fun _ => 0) 0 2) 1 4) 2 7) 3 9) 4 10) 5 10) 6 9) 7 7) 8 5) 9 3) 10 2))])))))))) 104 6 hC dX2_init_103 rfl rfl (by decide) (by omega) rfl ?_
  refine z_dup 105 hC dX2_init_104 rfl rfl ?_
  refine z_bipush 107 hC dX2_init_105 (by decide) rfl ?_
  refine z_iconst 108 hC dX2_init_107 rfl ?_
  refine z_iast (ws' := ([(m, .inr (2, [.int (iI 0), .int (iI 0), .int (iI 0), .int (iI 0), .int (iI 0), .int (iI 0), .int (iI 0), .ref x_1, .ref x_2, .ref x_3, .ref x_4, .ref x_5, .null, .null]))]) ++ (([(x_1, ar g 120 (fun _ => 0))]) ++ (([(x_2, ar g 120 (fun _ => 0))]) ++ (([(x_3, ar g 120 (fun _ => 0))]) ++ (([(x_4, ar g 120 (fun _ => 0))]) ++ (([(x_5, ar g 16 (fun _ => 0))]) ++ (([(x_6, ar g 12 (up (up (up (up (up (up (up (up (up (up (up (up (fun _ => 0) 0 2) 1 4) 2 7) 3 9) 4 10) 5 10) 6 9) 7 7) 8 5) 9 3) 10 2) 11 1))])))))))) 109 6 hC dX2_init_108 rfl rfl (by decide) (by omega) rfl ?_
  refine z_putF (ty := .array .int) (ws' := ([(m, .inr (2, [.int (iI 0), .int (iI 0), .int (iI 0), .int (iI 0), .int (iI 0), .int (iI 0), .int (iI 0), .ref x_1, .ref x_2, .ref x_3, .ref x_4, .ref x_5, .ref x_6, .null]))]) ++ (([(x_1, ar g 120 (fun _ => 0))]) ++ (([(x_2, ar g 120 (fun _ => 0))]) ++ (([(x_3, ar g 120 (fun _ => 0))]) ++ (([(x_4, ar g 120 (fun _ => 0))]) ++ (([(x_5, ar g 16 (fun _ => 0))]) ++ (([(x_6, ar g 12 (up (up (up (up (up (up (up (up (up (up (up (up (fun _ => 0) 0 2) 1 4) 2 7) 3 9) 4 10) 5 10) 6 9) 7 7) 8 5) 9 3) 10 2) 11 1))])))))))) 112 0 12 hC tyX2 tyX2_ok nmX2 hinX2 L25 dX2_init_109 rfl rfl rfl (by decide) rfl hI rfl (by decide +kernel) rfl rfl (nle rfl) rfl ?_
  refine z_aloadn 113 hC 0 dX2_init_112 rfl rfl rfl ?_
  refine z_bipush 115 hC dX2_init_113 (by decide) rfl ?_
  refine z_newi (ws' := fun x_7 => ([(m, .inr (2, [.int (iI 0), .int (iI 0), .int (iI 0), .int (iI 0), .int (iI 0), .int (iI 0), .int (iI 0), .ref x_1, .ref x_2, .ref x_3, .ref x_4, .ref x_5, .ref x_6, .null]))]) ++ (([(x_1, ar g 120 (fun _ => 0))]) ++ (([(x_2, ar g 120 (fun _ => 0))]) ++ (([(x_3, ar g 120 (fun _ => 0))]) ++ (([(x_4, ar g 120 (fun _ => 0))]) ++ (([(x_5, ar g 16 (fun _ => 0))]) ++ (([(x_6, ar g 12 (up (up (up (up (up (up (up (up (up (up (up (up (fun _ => 0) 0 2) 1 4) 2 7) 3 9) 4 10) 5 10) 6 9) 7 7) 8 5) 9 3) 10 2) 11 1))]) ++ (([(x_7, ar g 120 (fun _ => 0))]))))))))) (k2 := 7) (n2 := 628) 117 hC (by decide +kernel) (by decide) (nle rfl) (by decide) (by decide) dX2_init_115 rfl rfl rfl (fun _ => rfl) (fun x_7 => ?_)
  refine z_putF (ty := .array .int) (ws' := ([(m, .inr (2, [.int (iI 0), .int (iI 0), .int (iI 0), .int (iI 0), .int (iI 0), .int (iI 0), .int (iI 0), .ref x_1, .ref x_2, .ref x_3, .ref x_4, .ref x_5, .ref x_6, .ref x_7]))]) ++ (([(x_1, ar g 120 (fun _ => 0))]) ++ (([(x_2, ar g 120 (fun _ => 0))]) ++ (([(x_3, ar g 120 (fun _ => 0))]) ++ (([(x_4, ar g 120 (fun _ => 0))]) ++ (([(x_5, ar g 16 (fun _ => 0))]) ++ (([(x_6, ar g 12 (up (up (up (up (up (up (up (up (up (up (up (up (fun _ => 0) 0 2) 1 4) 2 7) 3 9) 4 10) 5 10) 6 9) 7 7) 8 5) 9 3) 10 2) 11 1))]) ++ (([(x_7, ar g 120 (fun _ => 0))]))))))))) 120 0 13 hC tyX2 tyX2_ok nmX2 hinX2 L28 dX2_init_117 rfl rfl rfl (by decide) rfl hI rfl (by decide +kernel) rfl rfl (nle rfl) rfl ?_
  refine z_aloadn 121 hC 0 dX2_init_120 rfl rfl rfl ?_
  refine z_get 124 0 7 hC hinX2 L9 dX2_init_121 rfl rfl rfl (by decide) rfl ?_
  refine z_iconst 125 hC dX2_init_124 rfl ?_
  refine z_callv (wr := [(m, .inr (2, [.int (iI 0), .int (iI 0), .int (iI 0), .int (iI 0), .int (iI 0), .int (iI 0), .int (iI 0), .ref x_1, .ref x_2, .ref x_3, .ref x_4, .ref x_5, .ref x_6, .ref x_7])), (x_2, ar g 120 (fun _ => 0)), (x_3, ar g 120 (fun _ => 0)), (x_4, ar g 120 (fun _ => 0)), (x_5, ar g 16 (fun _ => 0)), (x_6, ar g 12 (up (up (up (up (up (up (up (up (up (up (up (up (fun _ => 0) 0 2) 1 4) 2 7) 3 9) 4 10) 5 10) 6 9) 7 7) 8 5) 9 3) 10 2) 11 1)), (x_7, ar g 120 (fun _ => 0))]) (w2 := fun _ => ([(m, .inr (2, [.int (iI 0), .int (iI 0), .int (iI 0), .int (iI 0), .int (iI 0), .int (iI 0), .int (iI 0), .ref x_1, .ref x_2, .ref x_3, .ref x_4, .ref x_5, .ref x_6, .ref x_7]))]) ++ (([(x_1, ar g 120 (fun _ => 4))]) ++ (([(x_2, ar g 120 (fun _ => 0))]) ++ (([(x_3, ar g 120 (fun _ => 0))]) ++ (([(x_4, ar g 120 (fun _ => 0))]) ++ (([(x_5, ar g 16 (fun _ => 0))]) ++ (([(x_6, ar g 12 (up (up (up (up (up (up (up (up (up (up (up (up (fun _ => 0) 0 2) 1 4) 2 7) 3 9) 4 10) 5 10) 6 9) 7 7) 8 5) 9 3) 10 2) 11 1))]) ++ (([(x_7, ar g 120 (fun _ => 0))]))))))))) 128 hC [1] [0, 2, 3, 4, 5, 6, 7] [0, 7, 1, 2, 3, 4, 5, 6] (z_runS (nA := 2) hC hN (c_X2_fill l D g x_1 120 (fun _ => 0) 4 (by omega)) [1] rfl (by decide) gX2_init_X2_fill (by decide +kernel) rfl rfl rfl ⟨by decide, by decide⟩ rfl rfl (nle rfl) dX2_init_125 ⟨by decide, by decide⟩) rfl rfl (by decide) (by decide) (fun _ => rfl) (by decide) rfl (k2 := 7) (n2 := 628) rfl rfl (fun _ p_8 => ?_)
  refine z_sub (ws' := wMo g m (fun i => ([x_1, x_2, x_3, x_4, x_5, x_6, x_7] : List Nat).getD i 0) 0 0 0 0 0 0 0 (fun _ => 4) (fun _ => 0) (fun _ => 0) (fun _ => 0) (fun _ => 0) (up (up (up (up (up (up (up (up (up (up (up (up (fun _ => 0) 0 2) 1 4) 2 7) 3 9) 4 10) 5 10) 6 9) 7 7) 8 5) 9 3) 10 2) 11 1) (fun _ => 0)) [0, 1, 2, 3, 4, 5, 6, 7] (by decide) rfl ?_
  refine z_weq (ws' := wMo g m (fun i => ([x_1, x_2, x_3, x_4, x_5, x_6, x_7] : List Nat).getD i 0) 0 0 0 0 0 0 0 (fun _ => 4) (fun _ => 0) (fun _ => 0) (fun _ => 0) (fun _ => 0) ftd (fun _ => 0)) (zEq.cons zE1.rf (zEq.cons zE1.rf (zEq.cons zE1.rf (zEq.cons zE1.rf (zEq.cons zE1.rf (zEq.cons zE1.rf (zEq.cons (zE1.arr (by intro j h0 h1; unfold up ftd; omega)) (zEq.cons zE1.rf zEq.nil)))))))) ?_
  exact hret (fun i => ([x_1, x_2, x_3, x_4, x_5, x_6, x_7] : List Nat).getD i 0) dX2_init_128 (by trivial)
