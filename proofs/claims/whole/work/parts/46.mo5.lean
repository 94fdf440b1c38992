def srP (sr : Int → Int) (i : Int) : Int → Int := fun j => if i = 0 then sr j else 20
theorem rch_ov {s u : Int → Int} (h : ovQ s u) {c : Int} (hc : 0 ≤ c ∧ c < 120) : rchP s c (u c + 1) := by
  have h1 := (h c hc.1 hc.2).1
  refine ⟨by omega, fun _ => ?_, fun L a b => ?_⟩
  · rw [wet_ov h hc (by omega), if_pos (by omega)]
  · rw [wet_ov h hc (by omega), if_neg (by omega)]
set_option maxHeartbeats 4000000 in
set_option maxRecDepth 100000 in
theorem c_X2_pass (l : Launch) (D : va_G) (g : Nat → ClassId) (m : Nat) (b : Nat → Nat) (th hr tm en : Int) (td bu sr lg ov : Int → Int) (S : SS) (v : Int) (hI : LI td bu sr lg tm hr S) (hSI : SI tm S) (hv : -2147483648 ≤ v ∧ v ≤ 2147483647) : ZMi (S := (Int → Int)) l yX2_pass wsX2_pass ({ frames := 4, cells := 0, slots := 0, locals := 200 }) D g [.ref m, .int (iI v)] (wMo g m b th hr tm en (ssLo S) (ssSl S) (ssFa S) (ssS S) (ssF S) (ssW S) (kOf (ssO S) (ssP S)) (tbl tm bu sr lg (ssT S)) td ov) (fun z _ => (1 ≤ v ∧ v ≤ 48) → z = ssFa (hrs td hr S v) - ssFa S) (fun u => wMo g m b (if 1 ≤ v ∧ v ≤ 48 then 0 else 1) (hr + (if 1 ≤ v ∧ v ≤ 48 then v else 0)) tm en (ssLo (hrs td hr S (if 1 ≤ v ∧ v ≤ 48 then v else 0))) (ssSl (hrs td hr S (if 1 ≤ v ∧ v ≤ 48 then v else 0))) (ssFa (hrs td hr S (if 1 ≤ v ∧ v ≤ 48 then v else 0))) (ssS (hrs td hr S (if 1 ≤ v ∧ v ≤ 48 then v else 0))) (ssF (hrs td hr S (if 1 ≤ v ∧ v ≤ 48 then v else 0))) (ssW (hrs td hr S (if 1 ≤ v ∧ v ≤ 48 then v else 0))) (kOf (ssO (hrs td hr S (if 1 ≤ v ∧ v ≤ 48 then v else 0))) (ssP (hrs td hr S (if 1 ≤ v ∧ v ≤ 48 then v else 0)))) (tbl tm bu (srP sr (if 1 ≤ v ∧ v ≤ 48 then v else 0)) lg (ssT (hrs td hr S (if 1 ≤ v ∧ v ≤ 48 then v else 0)))) td u) 0 0 := by
  have hinX2 : ∀ w ∈ u_ws RX2 TX2 14, w ∈ wsX2_pass := by decide +kernel
  have L35 : Cond.fieldLink RX2 35 "SandcastleLeagueModel" "thrown" "I" ∈ wsX2_pass := by decide +kernel
  have L101 : Cond.fieldLink RX2 101 "SandcastleLeagueModel" "fallen" "I" ∈ wsX2_pass := by decide +kernel
  obtain ⟨htd, hbu, hsr, hlg, htm, hhr, hSB, hT⟩ := id hI
  obtain ⟨hs, hf, hw, ho, hp⟩ := id hSB
  refine ZMi.of (own := RX2) cX2_pass 4 [(0, .ref m), (1, .int (iI v))] (by decide +kernel) rfl (nle rfl) rfl rfl ?_
  intro E hC hN hret
  refine z_aloadn 1 hC 0 dX2_pass_0 rfl rfl rfl ?_
  refine z_iconst 2 hC dX2_pass_1 rfl ?_
  refine z_put (ty := .int) (ws' := wMo g m b 0 hr tm en (ssLo S) (ssSl S) (ssFa S) (ssS S) (ssF S) (ssW S) (kOf (ssO S) (ssP S)) (tbl tm bu sr lg (ssT S)) td ov) 5 0 0 hC tyX2 tyX2_ok nmX2 hinX2 L35 dX2_pass_2 rfl rfl rfl (by decide) rfl (by decide +kernel) rfl rfl (nle rfl) rfl ?_
  refine z_iloadn 6 hC 1 dX2_pass_5 rfl rfl rfl ?_
  refine z_iconst 7 hC dX2_pass_6 rfl ?_
  refine z_bipush 9 hC dX2_pass_7 (by decide) rfl ?_
  refine z_calli (wr := [(m, .inr (2, [.int (iI 0), .int (iI hr), .int (iI tm), .int (iI en), .int (iI (ssLo S)), .int (iI (ssSl S)), .int (iI (ssFa S)), .ref (b 0), .ref (b 1), .ref (b 2), .ref (b 3), .ref (b 4), .ref (b 5), .ref (b 6)])), ((b 0), ar g 120 (ssS S)), ((b 1), ar g 120 (ssF S)), ((b 2), ar g 120 (ssW S)), ((b 3), ar g 120 (kOf (ssO S) (ssP S))), ((b 4), ar g 16 (tbl tm bu sr lg (ssT S))), ((b 5), ar g 12 td), ((b 6), ar g 120 ov)]) (w2 := fun _ => wMo g m b 0 hr tm en (ssLo S) (ssSl S) (ssFa S) (ssS S) (ssF S) (ssW S) (kOf (ssO S) (ssP S)) (tbl tm bu sr lg (ssT S)) td ov) 12 hC [] [0, 1, 2, 3, 4, 5, 6, 7] [0, 1, 2, 3, 4, 5, 6, 7] (z_runS (nA := 3) hC hN (c_X2_isIn l D g v 1 48 (by omega) (by omega) (by omega)) [] rfl (by decide) gX2_pass_X2_isIn (by decide +kernel) rfl rfl rfl ⟨by decide, by decide⟩ rfl rfl (nle rfl) dX2_pass_9 ⟨by decide, by decide⟩) rfl rfl (by decide) (by decide) (fun _ => rfl) (by decide) rfl (k2 := 0) (n2 := 0) rfl rfl (fun z_1 _ p_2 => ?_)
  refine z_if_ne 21 15 hC dX2_pass_12 (by decide) rfl (by omega) (fun c_3 => ?_) (fun c_3 => ?_)
  · skip
    refine z_aloadn 22 hC 0 dX2_pass_21 rfl rfl rfl ?_
    refine z_get 25 0 6 hC hinX2 L101 dX2_pass_22 rfl rfl rfl (by decide) rfl ?_
    refine z_istoren (lv' := [(2, .int (iI (ssFa S))), (0, .ref m), (1, .int (iI v))]) 26 hC dX2_pass_25 rfl rfl (by decide) rfl ?_
    refine z_iconst 27 hC dX2_pass_26 rfl ?_
    refine z_istoren (lv' := [(3, .int (iI 0)), (2, .int (iI (ssFa S))), (0, .ref m), (1, .int (iI v))]) 28 hC dX2_pass_27 rfl rfl (by decide) rfl ?_
    have loop28 : ∀ (N28 : Nat) (i : Int) (o9 : Int → Int), 0 ≤ i ∧ i ≤ v → (v - i : Int) < N28 → Z E (wMo g m b 0 (hr + i) tm en (ssLo (hrs td hr S i)) (ssSl (hrs td hr S i)) (ssFa (hrs td hr S i)) (ssS (hrs td hr S i)) (ssF (hrs td hr S i)) (ssW (hrs td hr S i)) (kOf (ssO (hrs td hr S i)) (ssP (hrs td hr S i))) (tbl tm bu (srP sr i) lg (ssT (hrs td hr S i))) td o9) [(0, .ref m), (1, .int (iI v)), (2, .int (iI (ssFa S))), (3, .int (iI i))] 0 0 28 [] := by
      intro N28
      induction N28 with
      | zero => intro i o9 hi hm28; exact absurd hm28 (by omega)
      | succ N28 ih28 =>
        intro i o9 hi hm28
        refine z_iloadn 29 hC 3 dX2_pass_28 rfl rfl rfl ?_
        refine z_iloadn 30 hC 1 dX2_pass_29 rfl rfl rfl ?_
        refine z_icmp_ge 43 33 hC dX2_pass_30 (by decide) rfl (by omega) (by omega) (fun c_4 => ?_) (fun c_4 => ?_)
        · skip
          obtain rfl : v = i := by omega
          refine z_aloadn 44 hC 0 dX2_pass_43 rfl rfl rfl ?_
          refine z_get 47 0 6 hC hinX2 L101 dX2_pass_44 rfl rfl rfl (by decide) rfl ?_
          refine z_iloadn 48 hC 2 dX2_pass_47 rfl rfl rfl ?_
          refine z_isub 49 hC dX2_pass_48 rfl ?_
          refine z_weq (ws' := wMo g m b (if 1 ≤ v ∧ v ≤ 48 then 0 else 1) (hr + (if 1 ≤ v ∧ v ≤ 48 then v else 0)) tm en (ssLo (hrs td hr S (if 1 ≤ v ∧ v ≤ 48 then v else 0))) (ssSl (hrs td hr S (if 1 ≤ v ∧ v ≤ 48 then v else 0))) (ssFa (hrs td hr S (if 1 ≤ v ∧ v ≤ 48 then v else 0))) (ssS (hrs td hr S (if 1 ≤ v ∧ v ≤ 48 then v else 0))) (ssF (hrs td hr S (if 1 ≤ v ∧ v ≤ 48 then v else 0))) (ssW (hrs td hr S (if 1 ≤ v ∧ v ≤ 48 then v else 0))) (kOf (ssO (hrs td hr S (if 1 ≤ v ∧ v ≤ 48 then v else 0))) (ssP (hrs td hr S (if 1 ≤ v ∧ v ≤ 48 then v else 0)))) (tbl tm bu (srP sr (if 1 ≤ v ∧ v ≤ 48 then v else 0)) lg (ssT (hrs td hr S (if 1 ≤ v ∧ v ≤ 48 then v else 0)))) td o9) (zEq.cons (zE1.obj (zfc (by first | omega | (rw [if_pos (by omega)]; done) | (rw [if_neg (by omega), hrs_0]; done)) (zfc (by first | omega | (rw [if_pos (by omega)]; done) | (rw [if_neg (by omega), hrs_0]; done)) (zfk (zfk (zfc (by first | omega | (rw [if_pos (by omega)]; done) | (rw [if_neg (by omega), hrs_0]; done)) (zfc (by first | omega | (rw [if_pos (by omega)]; done) | (rw [if_neg (by omega), hrs_0]; done)) (zfc (by first | omega | (rw [if_pos (by omega)]; done) | (rw [if_neg (by omega), hrs_0]; done)) (zfk (zfk (zfk (zfk (zfk (zfk (zfk rfl))))))))))))))) (zEq.cons (zE1.arr (by intro j h0 h1; first | rw [if_pos (by omega)] | rw [if_neg (by omega), hrs_0])) (zEq.cons (zE1.arr (by intro j h0 h1; first | rw [if_pos (by omega)] | rw [if_neg (by omega), hrs_0])) (zEq.cons (zE1.arr (by intro j h0 h1; first | rw [if_pos (by omega)] | rw [if_neg (by omega), hrs_0])) (zEq.cons (zE1.arr (by intro j h0 h1; first | rw [if_pos (by omega)] | rw [if_neg (by omega), hrs_0])) (zEq.cons (zE1.arr (by intro j h0 h1; first | (rw [if_pos (by omega)]; done) | (rw [if_neg (by omega), hrs_0]; exact tbl_c (fun _ _ _ => rfl) (fun q _ _ => (if_pos rfl).symm) (fun _ _ _ => rfl) (fun _ _ _ => rfl) j h0))) (zEq.cons zE1.rf (zEq.cons zE1.rf zEq.nil)))))))) ?_
          exact hret o9 dX2_pass_49 rfl (by intro q9; first | rfl | omega)
        · skip
          refine z_aloadn 34 hC 0 dX2_pass_33 rfl rfl rfl ?_
          refine z_callv (wr := []) (w2 := fun u_5 => wMo g m b 0 ((hr + i) + 1) tm en (ssLo (hourT (td ((hr + i) % 12)) (hrs td hr S i))) (ssSl (hourT (td ((hr + i) % 12)) (hrs td hr S i))) (ssFa (hourT (td ((hr + i) % 12)) (hrs td hr S i))) (ssS (hourT (td ((hr + i) % 12)) (hrs td hr S i))) (ssF (hourT (td ((hr + i) % 12)) (hrs td hr S i))) (ssW (hourT (td ((hr + i) % 12)) (hrs td hr S i))) (kOf (ssO (hourT (td ((hr + i) % 12)) (hrs td hr S i))) (ssP (hourT (td ((hr + i) % 12)) (hrs td hr S i)))) (tbl tm bu (fun _ => 20) lg (ssT (hourT (td ((hr + i) % 12)) (hrs td hr S i)))) td u_5) 37 hC [0, 1, 2, 3, 4, 5, 6, 7] [] [0, 1, 2, 3, 4, 5, 6, 7] (z_runV (nA := 0) hC hN (c_X2_hourOn l D g m b 0 (hr + i) tm en td bu (srP sr i) lg o9 (hrs td hr S i) htd htm (by omega) (hrs_bd td hr hSB (i := i) (by omega)) (SI_hrs td hr hSI (i := i) (by omega))) [0, 1, 2, 3, 4, 5, 6, 7] rfl (by decide) gX2_pass_X2_hourOn (by decide +kernel) rfl rfl rfl ⟨by decide, by decide⟩ rfl rfl (nle rfl) dX2_pass_34 ⟨by decide, by decide⟩ 0 rfl rfl) rfl rfl (by decide) (by decide) (fun _ => rfl) (by decide) rfl (k2 := 0) (n2 := 0) rfl rfl (fun u_5 p_6 => ?_)
          refine z_iinc (lv' := [(3, .int (iI (i + 1))), (0, .ref m), (1, .int (iI v)), (2, .int (iI (ssFa S)))]) 40 3 hC dX2_pass_37 rfl rfl (by decide) rfl ?_
          refine z_goto 28 hC dX2_pass_40 (by decide) ?_
          refine z_lv (lv' := [(0, .ref m), (1, .int (iI v)), (2, .int (iI (ssFa S))), (3, .int (iI (i + 1)))]) [1, 2, 3, 0] rfl ?_
          refine z_weq (ws' := wMo g m b 0 (hr + (i + 1)) tm en (ssLo (hrs td hr S (i + 1))) (ssSl (hrs td hr S (i + 1))) (ssFa (hrs td hr S (i + 1))) (ssS (hrs td hr S (i + 1))) (ssF (hrs td hr S (i + 1))) (ssW (hrs td hr S (i + 1))) (kOf (ssO (hrs td hr S (i + 1))) (ssP (hrs td hr S (i + 1)))) (tbl tm bu (srP sr (i + 1)) lg (ssT (hrs td hr S (i + 1)))) td u_5) (zEq.cons (zE1.obj (zfk (zfc (by first | omega | rw [hrs_s td hr S hi.1]) (zfk (zfk (zfc (by first | omega | rw [hrs_s td hr S hi.1]) (zfc (by first | omega | rw [hrs_s td hr S hi.1]) (zfc (by first | omega | rw [hrs_s td hr S hi.1]) (zfk (zfk (zfk (zfk (zfk (zfk (zfk rfl))))))))))))))) (zEq.cons (zE1.arr (by intro j h0 h1; rw [hrs_s td hr S hi.1])) (zEq.cons (zE1.arr (by intro j h0 h1; rw [hrs_s td hr S hi.1])) (zEq.cons (zE1.arr (by intro j h0 h1; rw [hrs_s td hr S hi.1])) (zEq.cons (zE1.arr (by intro j h0 h1; rw [hrs_s td hr S hi.1])) (zEq.cons (zE1.arr (by intro j h0 h1; rw [hrs_s td hr S hi.1]; exact tbl_c (fun _ _ _ => rfl) (fun q _ _ => (if_neg (by omega)).symm) (fun _ _ _ => rfl) (fun _ _ _ => rfl) j h0)) (zEq.cons zE1.rf (zEq.cons zE1.rf zEq.nil)))))))) ?_
          exact ih28 (i + 1) u_5 (by omega) (by omega)
    refine z_lv (lv' := [(0, .ref m), (1, .int (iI v)), (2, .int (iI (ssFa S))), (3, .int (iI 0))]) [2, 3, 1, 0] rfl ?_
    refine z_weq (ws' := wMo g m b 0 (hr + 0) tm en (ssLo (hrs td hr S 0)) (ssSl (hrs td hr S 0)) (ssFa (hrs td hr S 0)) (ssS (hrs td hr S 0)) (ssF (hrs td hr S 0)) (ssW (hrs td hr S 0)) (kOf (ssO (hrs td hr S 0)) (ssP (hrs td hr S 0))) (tbl tm bu (srP sr 0) lg (ssT (hrs td hr S 0))) td ov) (zEq.cons (zE1.obj (zfk (zfc (by first | rfl | omega) (zfk (zfk (zfc (by first | rfl | omega) (zfc (by first | rfl | omega) (zfc (by first | rfl | omega) (zfk (zfk (zfk (zfk (zfk (zfk (zfk rfl))))))))))))))) (zEq.cons (zE1.arr (by intro j h0 h1; rfl)) (zEq.cons (zE1.arr (by intro j h0 h1; rfl)) (zEq.cons (zE1.arr (by intro j h0 h1; rfl)) (zEq.cons (zE1.arr (by intro j h0 h1; rfl)) (zEq.cons (zE1.arr (by intro j h0 h1; rfl)) (zEq.cons zE1.rf (zEq.cons zE1.rf zEq.nil)))))))) ?_
    exact loop28 ((v - 0 + 1 : Int).toNat) 0 ov (by omega) (by omega)
  · skip
    refine z_aloadn 16 hC 0 dX2_pass_15 rfl rfl rfl ?_
    refine z_iconst 17 hC dX2_pass_16 rfl ?_
    refine z_calli (wr := []) (w2 := fun _ => wMo g m b 1 hr tm en (ssLo S) (ssSl S) (ssFa S) (ssS S) (ssF S) (ssW S) (kOf (ssO S) (ssP S)) (tbl tm bu sr lg (ssT S)) td ov) 20 hC [0, 1, 2, 3, 4, 5, 6, 7] [] [0, 1, 2, 3, 4, 5, 6, 7] (z_runV (nA := 1) hC hN (c_X2_fail l D g m b 0 hr tm en (ssLo S) (ssSl S) (ssFa S) (ssS S) (ssF S) (ssW S) (kOf (ssO S) (ssP S)) (tbl tm bu sr lg (ssT S)) td ov 1 ) [0, 1, 2, 3, 4, 5, 6, 7] rfl (by decide) gX2_pass_X2_fail (by decide +kernel) rfl rfl rfl ⟨by decide, by decide⟩ rfl rfl (nle rfl) dX2_pass_17 ⟨by decide, by decide⟩ 0 rfl rfl) rfl rfl (by decide) (by decide) (fun _ => rfl) (by decide) rfl (k2 := 0) (n2 := 0) rfl rfl (fun z_7 _ p_8 => ?_)
    subst p_8
    refine z_weq (ws' := wMo g m b (if 1 ≤ v ∧ v ≤ 48 then 0 else 1) (hr + (if 1 ≤ v ∧ v ≤ 48 then v else 0)) tm en (ssLo (hrs td hr S (if 1 ≤ v ∧ v ≤ 48 then v else 0))) (ssSl (hrs td hr S (if 1 ≤ v ∧ v ≤ 48 then v else 0))) (ssFa (hrs td hr S (if 1 ≤ v ∧ v ≤ 48 then v else 0))) (ssS (hrs td hr S (if 1 ≤ v ∧ v ≤ 48 then v else 0))) (ssF (hrs td hr S (if 1 ≤ v ∧ v ≤ 48 then v else 0))) (ssW (hrs td hr S (if 1 ≤ v ∧ v ≤ 48 then v else 0))) (kOf (ssO (hrs td hr S (if 1 ≤ v ∧ v ≤ 48 then v else 0))) (ssP (hrs td hr S (if 1 ≤ v ∧ v ≤ 48 then v else 0)))) (tbl tm bu (srP sr (if 1 ≤ v ∧ v ≤ 48 then v else 0)) lg (ssT (hrs td hr S (if 1 ≤ v ∧ v ≤ 48 then v else 0)))) td ov) (zEq.cons (zE1.obj (zfc (by first | omega | (rw [if_pos (by omega)]; done) | (rw [if_neg (by omega), hrs_0]; done)) (zfc (by first | omega | (rw [if_pos (by omega)]; done) | (rw [if_neg (by omega), hrs_0]; done)) (zfk (zfk (zfc (by first | omega | (rw [if_pos (by omega)]; done) | (rw [if_neg (by omega), hrs_0]; done)) (zfc (by first | omega | (rw [if_pos (by omega)]; done) | (rw [if_neg (by omega), hrs_0]; done)) (zfc (by first | omega | (rw [if_pos (by omega)]; done) | (rw [if_neg (by omega), hrs_0]; done)) (zfk (zfk (zfk (zfk (zfk (zfk (zfk rfl))))))))))))))) (zEq.cons (zE1.arr (by intro j h0 h1; first | rw [if_pos (by omega)] | rw [if_neg (by omega), hrs_0])) (zEq.cons (zE1.arr (by intro j h0 h1; first | rw [if_pos (by omega)] | rw [if_neg (by omega), hrs_0])) (zEq.cons (zE1.arr (by intro j h0 h1; first | rw [if_pos (by omega)] | rw [if_neg (by omega), hrs_0])) (zEq.cons (zE1.arr (by intro j h0 h1; first | rw [if_pos (by omega)] | rw [if_neg (by omega), hrs_0])) (zEq.cons (zE1.arr (by intro j h0 h1; first | (rw [if_pos (by omega)]; done) | (rw [if_neg (by omega), hrs_0]; exact tbl_c (fun _ _ _ => rfl) (fun q _ _ => (if_pos rfl).symm) (fun _ _ _ => rfl) (fun _ _ _ => rfl) j h0))) (zEq.cons zE1.rf (zEq.cons zE1.rf zEq.nil)))))))) ?_
    exact hret ov dX2_pass_20 rfl (by intro q9; first | rfl | omega)
set_option maxHeartbeats 4000000 in
set_option maxRecDepth 100000 in
theorem c_X2_isAhead (l : Launch) (D : va_G) (g : Nat → ClassId) (m : Nat) (b : Nat → Nat) (th hr tm en : Int) (td bu sr lg ov : Int → Int) (S : SS) (i : Int) (k : Int) (hI : LI td bu sr lg tm hr S) (hSI : SI tm S) (hi : 0 ≤ i ∧ i < tm) (hk : 0 ≤ k ∧ k < tm) : ZMi (S := Unit) l yX2_isAhead wsX2_isAhead ({ frames := 1, cells := 0, slots := 0, locals := 60 }) D g [.ref m, .int (iI i), .int (iI k)] (wMo g m b th hr tm en (ssLo S) (ssSl S) (ssFa S) (ssS S) (ssF S) (ssW S) (kOf (ssO S) (ssP S)) (tbl tm bu sr lg (ssT S)) td ov) (fun z _ => z = ahI lg (ssT S) i k) (fun _ => wMo g m b th hr tm en (ssLo S) (ssSl S) (ssFa S) (ssS S) (ssF S) (ssW S) (kOf (ssO S) (ssP S)) (tbl tm bu sr lg (ssT S)) td ov) 0 0 := by
  obtain ⟨htd, hbu, hsr, hlg, htm, hhr, hSB, hT⟩ := id hI
  obtain ⟨hs, hf, hw, ho, hp⟩ := id hSB
  have b1 := hT i (by omega) (by omega)
  have b2 := hT k (by omega) (by omega)
  have b3 := hlg i (by omega) (by omega)
  have b4 := hlg k (by omega) (by omega)
  refine ZMi.of (own := RX2) cX2_isAhead 3 [(0, .ref m), (1, .int (iI i)), (2, .int (iI k))] (by decide +kernel) rfl (nle rfl) rfl rfl ?_
  intro E hC hN hret
  refine z_aloadn 1 hC 0 dX2_isAhead_0 rfl rfl rfl ?_
  refine z_iloadn 2 hC 1 dX2_isAhead_1 rfl rfl rfl ?_
  refine z_iconst 3 hC dX2_isAhead_2 rfl ?_
  refine z_calli (wr := []) (w2 := fun _ => wMo g m b th hr tm en (ssLo S) (ssSl S) (ssFa S) (ssS S) (ssF S) (ssW S) (kOf (ssO S) (ssP S)) (tbl tm bu sr lg (ssT S)) td ov) 6 hC [0, 1, 2, 3, 4, 5, 6, 7] [] [0, 1, 2, 3, 4, 5, 6, 7] (z_runV (nA := 2) hC hN (c_X2_get l D g m b th hr tm en (ssLo S) (ssSl S) (ssFa S) (ssS S) (ssF S) (ssW S) (kOf (ssO S) (ssP S)) (tbl tm bu sr lg (ssT S)) td ov i 3 (by omega) (by omega)) [0, 1, 2, 3, 4, 5, 6, 7] rfl (by decide) gX2_isAhead_X2_get (by decide +kernel) rfl rfl rfl ⟨by decide, by decide⟩ rfl rfl (nle rfl) dX2_isAhead_3 ⟨by decide, by decide⟩ 0 rfl rfl) rfl rfl (by decide) (by decide) (fun _ => rfl) (by decide) rfl (k2 := 0) (n2 := 0) rfl rfl (fun z_1 _ p_2 => ?_)
  have p_2t : z_1 = lg i := p_2.trans (tbl_3 (by omega))
  clear p_2
  subst p_2t
  refine z_aloadn 7 hC 0 dX2_isAhead_6 rfl rfl rfl ?_
  refine z_iloadn 8 hC 2 dX2_isAhead_7 rfl rfl rfl ?_
  refine z_iconst 9 hC dX2_isAhead_8 rfl ?_
  refine z_calli (wr := []) (w2 := fun _ => wMo g m b th hr tm en (ssLo S) (ssSl S) (ssFa S) (ssS S) (ssF S) (ssW S) (kOf (ssO S) (ssP S)) (tbl tm bu sr lg (ssT S)) td ov) 12 hC [0, 1, 2, 3, 4, 5, 6, 7] [] [0, 1, 2, 3, 4, 5, 6, 7] (z_runV (nA := 2) hC hN (c_X2_get l D g m b th hr tm en (ssLo S) (ssSl S) (ssFa S) (ssS S) (ssF S) (ssW S) (kOf (ssO S) (ssP S)) (tbl tm bu sr lg (ssT S)) td ov k 3 (by omega) (by omega)) [0, 1, 2, 3, 4, 5, 6, 7] rfl (by decide) gX2_isAhead_X2_get (by decide +kernel) rfl rfl rfl ⟨by decide, by decide⟩ rfl rfl (nle rfl) dX2_isAhead_9 ⟨by decide, by decide⟩ 0 rfl rfl) rfl rfl (by decide) (by decide) (fun _ => rfl) (by decide) rfl (k2 := 0) (n2 := 0) rfl rfl (fun z_3 _ p_4 => ?_)
  have p_4t : z_3 = lg k := p_4.trans (tbl_3 (by omega))
  clear p_4
  subst p_4t
  refine z_icmp_eq 36 15 hC dX2_isAhead_12 (by decide) rfl (by omega) (by omega) (fun c_5 => ?_) (fun c_5 => ?_)
  · skip
    refine z_aloadn 37 hC 0 dX2_isAhead_36 rfl rfl rfl ?_
    refine z_iloadn 38 hC 1 dX2_isAhead_37 rfl rfl rfl ?_
    refine z_iconst 39 hC dX2_isAhead_38 rfl ?_
    refine z_calli (wr := []) (w2 := fun _ => wMo g m b th hr tm en (ssLo S) (ssSl S) (ssFa S) (ssS S) (ssF S) (ssW S) (kOf (ssO S) (ssP S)) (tbl tm bu sr lg (ssT S)) td ov) 42 hC [0, 1, 2, 3, 4, 5, 6, 7] [] [0, 1, 2, 3, 4, 5, 6, 7] (z_runV (nA := 2) hC hN (c_X2_get l D g m b th hr tm en (ssLo S) (ssSl S) (ssFa S) (ssS S) (ssF S) (ssW S) (kOf (ssO S) (ssP S)) (tbl tm bu sr lg (ssT S)) td ov i 2 (by omega) (by omega)) [0, 1, 2, 3, 4, 5, 6, 7] rfl (by decide) gX2_isAhead_X2_get (by decide +kernel) rfl rfl rfl ⟨by decide, by decide⟩ rfl rfl (nle rfl) dX2_isAhead_39 ⟨by decide, by decide⟩ 0 rfl rfl) rfl rfl (by decide) (by decide) (fun _ => rfl) (by decide) rfl (k2 := 0) (n2 := 0) rfl rfl (fun z_6 _ p_7 => ?_)
    have p_7t : z_6 = (ssT S) i := p_7.trans (tbl_2 (by omega))
    clear p_7
    subst p_7t
    refine z_aloadn 43 hC 0 dX2_isAhead_42 rfl rfl rfl ?_
    refine z_iloadn 44 hC 2 dX2_isAhead_43 rfl rfl rfl ?_
    refine z_iconst 45 hC dX2_isAhead_44 rfl ?_
    refine z_calli (wr := []) (w2 := fun _ => wMo g m b th hr tm en (ssLo S) (ssSl S) (ssFa S) (ssS S) (ssF S) (ssW S) (kOf (ssO S) (ssP S)) (tbl tm bu sr lg (ssT S)) td ov) 48 hC [0, 1, 2, 3, 4, 5, 6, 7] [] [0, 1, 2, 3, 4, 5, 6, 7] (z_runV (nA := 2) hC hN (c_X2_get l D g m b th hr tm en (ssLo S) (ssSl S) (ssFa S) (ssS S) (ssF S) (ssW S) (kOf (ssO S) (ssP S)) (tbl tm bu sr lg (ssT S)) td ov k 2 (by omega) (by omega)) [0, 1, 2, 3, 4, 5, 6, 7] rfl (by decide) gX2_isAhead_X2_get (by decide +kernel) rfl rfl rfl ⟨by decide, by decide⟩ rfl rfl (nle rfl) dX2_isAhead_45 ⟨by decide, by decide⟩ 0 rfl rfl) rfl rfl (by decide) (by decide) (fun _ => rfl) (by decide) rfl (k2 := 0) (n2 := 0) rfl rfl (fun z_8 _ p_9 => ?_)
    have p_9t : z_8 = (ssT S) k := p_9.trans (tbl_2 (by omega))
    clear p_9
    subst p_9t
    refine z_icmp_eq 74 51 hC dX2_isAhead_48 (by decide) rfl (by omega) (by omega) (fun c_10 => ?_) (fun c_10 => ?_)
    · skip
      refine z_iloadn 75 hC 1 dX2_isAhead_74 rfl rfl rfl ?_
      refine z_iloadn 76 hC 2 dX2_isAhead_75 rfl rfl rfl ?_
      refine z_icmp_ge 83 79 hC dX2_isAhead_76 (by decide) rfl (by omega) (by omega) (fun c_11 => ?_) (fun c_11 => ?_)
      · skip
        refine z_iconst 84 hC dX2_isAhead_83 rfl ?_
        exact hret () dX2_isAhead_84 (by decide) (by unfold ahI; omega)
      · skip
        refine z_iconst 80 hC dX2_isAhead_79 rfl ?_
        refine z_goto 84 hC dX2_isAhead_80 (by decide) ?_
        exact hret () dX2_isAhead_84 (by decide) (by unfold ahI; omega)
    · skip
      refine z_aloadn 52 hC 0 dX2_isAhead_51 rfl rfl rfl ?_
      refine z_iloadn 53 hC 1 dX2_isAhead_52 rfl rfl rfl ?_
      refine z_iconst 54 hC dX2_isAhead_53 rfl ?_
      refine z_calli (wr := []) (w2 := fun _ => wMo g m b th hr tm en (ssLo S) (ssSl S) (ssFa S) (ssS S) (ssF S) (ssW S) (kOf (ssO S) (ssP S)) (tbl tm bu sr lg (ssT S)) td ov) 57 hC [0, 1, 2, 3, 4, 5, 6, 7] [] [0, 1, 2, 3, 4, 5, 6, 7] (z_runV (nA := 2) hC hN (c_X2_get l D g m b th hr tm en (ssLo S) (ssSl S) (ssFa S) (ssS S) (ssF S) (ssW S) (kOf (ssO S) (ssP S)) (tbl tm bu sr lg (ssT S)) td ov i 2 (by omega) (by omega)) [0, 1, 2, 3, 4, 5, 6, 7] rfl (by decide) gX2_isAhead_X2_get (by decide +kernel) rfl rfl rfl ⟨by decide, by decide⟩ rfl rfl (nle rfl) dX2_isAhead_54 ⟨by decide, by decide⟩ 0 rfl rfl) rfl rfl (by decide) (by decide) (fun _ => rfl) (by decide) rfl (k2 := 0) (n2 := 0) rfl rfl (fun z_12 _ p_13 => ?_)
      have p_13t : z_12 = (ssT S) i := p_13.trans (tbl_2 (by omega))
      clear p_13
      subst p_13t
      refine z_aloadn 58 hC 0 dX2_isAhead_57 rfl rfl rfl ?_
      refine z_iloadn 59 hC 2 dX2_isAhead_58 rfl rfl rfl ?_
      refine z_iconst 60 hC dX2_isAhead_59 rfl ?_
      refine z_calli (wr := []) (w2 := fun _ => wMo g m b th hr tm en (ssLo S) (ssSl S) (ssFa S) (ssS S) (ssF S) (ssW S) (kOf (ssO S) (ssP S)) (tbl tm bu sr lg (ssT S)) td ov) 63 hC [0, 1, 2, 3, 4, 5, 6, 7] [] [0, 1, 2, 3, 4, 5, 6, 7] (z_runV (nA := 2) hC hN (c_X2_get l D g m b th hr tm en (ssLo S) (ssSl S) (ssFa S) (ssS S) (ssF S) (ssW S) (kOf (ssO S) (ssP S)) (tbl tm bu sr lg (ssT S)) td ov k 2 (by omega) (by omega)) [0, 1, 2, 3, 4, 5, 6, 7] rfl (by decide) gX2_isAhead_X2_get (by decide +kernel) rfl rfl rfl ⟨by decide, by decide⟩ rfl rfl (nle rfl) dX2_isAhead_60 ⟨by decide, by decide⟩ 0 rfl rfl) rfl rfl (by decide) (by decide) (fun _ => rfl) (by decide) rfl (k2 := 0) (n2 := 0) rfl rfl (fun z_14 _ p_15 => ?_)
      have p_15t : z_14 = (ssT S) k := p_15.trans (tbl_2 (by omega))
      clear p_15
      subst p_15t
      refine z_icmp_le 70 66 hC dX2_isAhead_63 (by decide) rfl (by omega) (by omega) (fun c_16 => ?_) (fun c_16 => ?_)
      · skip
        refine z_iconst 71 hC dX2_isAhead_70 rfl ?_
        refine z_goto 84 hC dX2_isAhead_71 (by decide) ?_
        exact hret () dX2_isAhead_84 (by decide) (by unfold ahI; omega)
      · skip
        refine z_iconst 67 hC dX2_isAhead_66 rfl ?_
        refine z_goto 84 hC dX2_isAhead_67 (by decide) ?_
        exact hret () dX2_isAhead_84 (by decide) (by unfold ahI; omega)
  · skip
    refine z_aloadn 16 hC 0 dX2_isAhead_15 rfl rfl rfl ?_
    refine z_iloadn 17 hC 1 dX2_isAhead_16 rfl rfl rfl ?_
    refine z_iconst 18 hC dX2_isAhead_17 rfl ?_
    refine z_calli (wr := []) (w2 := fun _ => wMo g m b th hr tm en (ssLo S) (ssSl S) (ssFa S) (ssS S) (ssF S) (ssW S) (kOf (ssO S) (ssP S)) (tbl tm bu sr lg (ssT S)) td ov) 21 hC [0, 1, 2, 3, 4, 5, 6, 7] [] [0, 1, 2, 3, 4, 5, 6, 7] (z_runV (nA := 2) hC hN (c_X2_get l D g m b th hr tm en (ssLo S) (ssSl S) (ssFa S) (ssS S) (ssF S) (ssW S) (kOf (ssO S) (ssP S)) (tbl tm bu sr lg (ssT S)) td ov i 3 (by omega) (by omega)) [0, 1, 2, 3, 4, 5, 6, 7] rfl (by decide) gX2_isAhead_X2_get (by decide +kernel) rfl rfl rfl ⟨by decide, by decide⟩ rfl rfl (nle rfl) dX2_isAhead_18 ⟨by decide, by decide⟩ 0 rfl rfl) rfl rfl (by decide) (by decide) (fun _ => rfl) (by decide) rfl (k2 := 0) (n2 := 0) rfl rfl (fun z_17 _ p_18 => ?_)
    have p_18t : z_17 = lg i := p_18.trans (tbl_3 (by omega))
    clear p_18
    subst p_18t
    refine z_aloadn 22 hC 0 dX2_isAhead_21 rfl rfl rfl ?_
    refine z_iloadn 23 hC 2 dX2_isAhead_22 rfl rfl rfl ?_
    refine z_iconst 24 hC dX2_isAhead_23 rfl ?_
    refine z_calli (wr := []) (w2 := fun _ => wMo g m b th hr tm en (ssLo S) (ssSl S) (ssFa S) (ssS S) (ssF S) (ssW S) (kOf (ssO S) (ssP S)) (tbl tm bu sr lg (ssT S)) td ov) 27 hC [0, 1, 2, 3, 4, 5, 6, 7] [] [0, 1, 2, 3, 4, 5, 6, 7] (z_runV (nA := 2) hC hN (c_X2_get l D g m b th hr tm en (ssLo S) (ssSl S) (ssFa S) (ssS S) (ssF S) (ssW S) (kOf (ssO S) (ssP S)) (tbl tm bu sr lg (ssT S)) td ov k 3 (by omega) (by omega)) [0, 1, 2, 3, 4, 5, 6, 7] rfl (by decide) gX2_isAhead_X2_get (by decide +kernel) rfl rfl rfl ⟨by decide, by decide⟩ rfl rfl (nle rfl) dX2_isAhead_24 ⟨by decide, by decide⟩ 0 rfl rfl) rfl rfl (by decide) (by decide) (fun _ => rfl) (by decide) rfl (k2 := 0) (n2 := 0) rfl rfl (fun z_19 _ p_20 => ?_)
    have p_20t : z_19 = lg k := p_20.trans (tbl_3 (by omega))
    clear p_20
    subst p_20t
    refine z_icmp_le 34 30 hC dX2_isAhead_27 (by decide) rfl (by omega) (by omega) (fun c_21 => ?_) (fun c_21 => ?_)
    · skip
      refine z_iconst 35 hC dX2_isAhead_34 rfl ?_
      exact hret () dX2_isAhead_35 (by decide) (by unfold ahI; omega)
    · skip
      refine z_iconst 31 hC dX2_isAhead_30 rfl ?_
      refine z_goto 35 hC dX2_isAhead_31 (by decide) ?_
      exact hret () dX2_isAhead_35 (by decide) (by unfold ahI; omega)
set_option maxHeartbeats 4000000 in
set_option maxRecDepth 100000 in
theorem c_X2_leader (l : Launch) (D : va_G) (g : Nat → ClassId) (m : Nat) (b : Nat → Nat) (th hr tm en : Int) (td bu sr lg ov : Int → Int) (S : SS) (v : Int) (hI : LI td bu sr lg tm hr S) (hSI : SI tm S) (hv : -2147483648 ≤ v ∧ v ≤ 2147483647) : ZMi (S := Int) l yX2_leader wsX2_leader ({ frames := 3, cells := 0, slots := 0, locals := 160 }) D g [.ref m, .int (iI v)] (wMo g m b th hr tm en (ssLo S) (ssSl S) (ssFa S) (ssS S) (ssF S) (ssW S) (kOf (ssO S) (ssP S)) (tbl tm bu sr lg (ssT S)) td ov) (fun z u => (u = 0 ∧ 0 ≤ z ∧ z < tm ∧ ahN lg (ssT S) z tm = v ∧ ∀ j : Int, 0 ≤ j → j < z → ahN lg (ssT S) j tm ≠ v) ∨ (u = 1 ∧ ∀ j : Int, 0 ≤ j → j < tm → ahN lg (ssT S) j tm ≠ v)) (fun u => wMo g m b u hr tm en (ssLo S) (ssSl S) (ssFa S) (ssS S) (ssF S) (ssW S) (kOf (ssO S) (ssP S)) (tbl tm bu sr lg (ssT S)) td ov) 0 0 := by
  have hinX2 : ∀ w ∈ u_ws RX2 TX2 14, w ∈ wsX2_leader := by decide +kernel
  have L35 : Cond.fieldLink RX2 35 "SandcastleLeagueModel" "thrown" "I" ∈ wsX2_leader := by decide +kernel
  have L39 : Cond.fieldLink RX2 39 "SandcastleLeagueModel" "teams" "I" ∈ wsX2_leader := by decide +kernel
  obtain ⟨htd, hbu, hsr, hlg, htm, hhr, hSB, hT⟩ := id hI
  obtain ⟨hs, hf, hw, ho, hp⟩ := id hSB
  refine ZMi.of (own := RX2) cX2_leader 5 [(0, .ref m), (1, .int (iI v))] (by decide +kernel) rfl (nle rfl) rfl rfl ?_
  intro E hC hN hret
  refine z_aloadn 1 hC 0 dX2_leader_0 rfl rfl rfl ?_
  refine z_iconst 2 hC dX2_leader_1 rfl ?_
  refine z_put (ty := .int) (ws' := wMo g m b 0 hr tm en (ssLo S) (ssSl S) (ssFa S) (ssS S) (ssF S) (ssW S) (kOf (ssO S) (ssP S)) (tbl tm bu sr lg (ssT S)) td ov) 5 0 0 hC tyX2 tyX2_ok nmX2 hinX2 L35 dX2_leader_2 rfl rfl rfl (by decide) rfl (by decide +kernel) rfl rfl (nle rfl) rfl ?_
  refine z_iconst 6 hC dX2_leader_5 rfl ?_
  refine z_istoren (lv' := [(2, .int (iI 0)), (0, .ref m), (1, .int (iI v))]) 7 hC dX2_leader_6 rfl rfl (by decide) rfl ?_
  have loop7 : ∀ (N7 : Nat) (t9 : Int), 0 ≤ t9 ∧ t9 ≤ tm → (∀ j : Int, 0 ≤ j → j < t9 → ahN lg (ssT S) j tm ≠ v) → (tm - t9 : Int) < N7 → Z E (wMo g m b 0 hr tm en (ssLo S) (ssSl S) (ssFa S) (ssS S) (ssF S) (ssW S) (kOf (ssO S) (ssP S)) (tbl tm bu sr lg (ssT S)) td ov) [(0, .ref m), (1, .int (iI v)), (2, .int (iI t9))] 0 0 7 [] := by
    intro N7
    induction N7 with
    | zero => intro t9 ht9 hj hm7; exact absurd hm7 (by omega)
    | succ N7 ih7 =>
      intro t9 ht9 hj hm7
      refine z_iloadn 8 hC 2 dX2_leader_7 rfl rfl rfl ?_
      refine z_aloadn 9 hC 0 dX2_leader_8 rfl rfl rfl ?_
      refine z_get 12 0 2 hC hinX2 L39 dX2_leader_9 rfl rfl rfl (by decide) rfl ?_
      refine z_icmp_ge 66 15 hC dX2_leader_12 (by decide) rfl (by omega) (by omega) (fun c_1 => ?_) (fun c_1 => ?_)
      · skip
        refine z_aloadn 67 hC 0 dX2_leader_66 rfl rfl rfl ?_
        refine z_iconst 68 hC dX2_leader_67 rfl ?_
        refine z_calli (wr := []) (w2 := fun _ => wMo g m b 1 hr tm en (ssLo S) (ssSl S) (ssFa S) (ssS S) (ssF S) (ssW S) (kOf (ssO S) (ssP S)) (tbl tm bu sr lg (ssT S)) td ov) 71 hC [0, 1, 2, 3, 4, 5, 6, 7] [] [0, 1, 2, 3, 4, 5, 6, 7] (z_runV (nA := 1) hC hN (c_X2_fail l D g m b 0 hr tm en (ssLo S) (ssSl S) (ssFa S) (ssS S) (ssF S) (ssW S) (kOf (ssO S) (ssP S)) (tbl tm bu sr lg (ssT S)) td ov 1 ) [0, 1, 2, 3, 4, 5, 6, 7] rfl (by decide) gX2_leader_X2_fail (by decide +kernel) rfl rfl rfl ⟨by decide, by decide⟩ rfl rfl (nle rfl) dX2_leader_68 ⟨by decide, by decide⟩ 0 rfl rfl) rfl rfl (by decide) (by decide) (fun _ => rfl) (by decide) rfl (k2 := 0) (n2 := 0) rfl rfl (fun z_2 _ p_3 => ?_)
        subst p_3
        exact hret 1 dX2_leader_71 rfl (by first | exact Or.inl ⟨rfl, by omega, by omega, by omega, hj⟩ | exact Or.inr ⟨rfl, fun j h0 h1 => hj j h0 (by omega)⟩)
      · skip
        refine z_iconst 16 hC dX2_leader_15 rfl ?_
        refine z_istoren (lv' := [(3, .int (iI 0)), (0, .ref m), (1, .int (iI v)), (2, .int (iI t9))]) 17 hC dX2_leader_16 rfl rfl (by decide) rfl ?_
        refine z_iconst 18 hC dX2_leader_17 rfl ?_
        refine z_istore (lv' := [(4, .int (iI 0)), (3, .int (iI 0)), (0, .ref m), (1, .int (iI v)), (2, .int (iI t9))]) 20 hC dX2_leader_18 rfl (by decide) rfl ?_
        have loop20 : ∀ (N20 : Nat) (d : Int), 0 ≤ d ∧ d ≤ tm → (tm - d : Int) < N20 → Z E (wMo g m b 0 hr tm en (ssLo S) (ssSl S) (ssFa S) (ssS S) (ssF S) (ssW S) (kOf (ssO S) (ssP S)) (tbl tm bu sr lg (ssT S)) td ov) [(0, .ref m), (1, .int (iI v)), (2, .int (iI t9)), (3, .int (iI (sumI (fun j => ahI lg (ssT S) j t9) d))), (4, .int (iI d))] 0 0 20 [] := by
          intro N20
          induction N20 with
          | zero => intro d hd hm20; exact absurd hm20 (by omega)
          | succ N20 ih20 =>
            intro d hd hm20
            refine z_iload 22 hC 4 dX2_leader_20 rfl rfl ?_
            refine z_aloadn 23 hC 0 dX2_leader_22 rfl rfl rfl ?_
            refine z_get 26 0 2 hC hinX2 L39 dX2_leader_23 rfl rfl rfl (by decide) rfl ?_
            refine z_icmp_ge 53 29 hC dX2_leader_26 (by decide) rfl (by omega) (by omega) (fun c_4 => ?_) (fun c_4 => ?_)
            · skip
              obtain rfl : tm = d := by omega
              have qa := ahN_bd lg (ssT S) t9 htm
              have qe : sumI (fun j => ahI lg (ssT S) j t9) tm = ahN lg (ssT S) t9 tm := rfl
              rw [qe]
              refine z_iloadn 54 hC 3 dX2_leader_53 rfl rfl rfl ?_
              refine z_iloadn 55 hC 1 dX2_leader_54 rfl rfl rfl ?_
              refine z_icmp_ne 60 58 hC dX2_leader_55 (by decide) rfl (by omega) (by omega) (fun c_5 => ?_) (fun c_5 => ?_)
              · skip
                refine z_iinc (lv' := [(2, .int (iI (t9 + 1))), (0, .ref m), (1, .int (iI v)), (3, .int (iI (ahN lg (ssT S) t9 tm))), (4, .int (iI tm))]) 63 2 hC dX2_leader_60 rfl rfl (by decide) rfl ?_
                refine z_goto 7 hC dX2_leader_63 (by decide) ?_
                refine z_lv (lv' := [(0, .ref m), (1, .int (iI v)), (2, .int (iI (t9 + 1)))]) [1, 2, 0] rfl ?_
                exact ih7 (t9 + 1) (by omega) (by intro j h0 h1; by_cases e : j = t9; subst e; omega; exact hj j h0 (by omega)) (by omega)
              · skip
                refine z_iloadn 59 hC 2 dX2_leader_58 rfl rfl rfl ?_
                exact hret 0 dX2_leader_59 rfl (by first | exact Or.inl ⟨rfl, by omega, by omega, by omega, hj⟩ | exact Or.inr ⟨rfl, fun j h0 h1 => hj j h0 (by omega)⟩)
            · skip
              refine z_iloadn 30 hC 3 dX2_leader_29 rfl rfl rfl ?_
              refine z_aloadn 31 hC 0 dX2_leader_30 rfl rfl rfl ?_
              refine z_iload 33 hC 4 dX2_leader_31 rfl rfl ?_
              refine z_iloadn 34 hC 2 dX2_leader_33 rfl rfl rfl ?_
              refine z_calli (wr := []) (w2 := fun _ => wMo g m b 0 hr tm en (ssLo S) (ssSl S) (ssFa S) (ssS S) (ssF S) (ssW S) (kOf (ssO S) (ssP S)) (tbl tm bu sr lg (ssT S)) td ov) 37 hC [0, 1, 2, 3, 4, 5, 6, 7] [] [0, 1, 2, 3, 4, 5, 6, 7] (z_runV (nA := 2) hC hN (c_X2_isAhead l D g m b 0 hr tm en td bu sr lg ov S d t9 hI hSI (by omega) (by omega)) [0, 1, 2, 3, 4, 5, 6, 7] rfl (by decide) gX2_leader_X2_isAhead (by decide +kernel) rfl rfl rfl ⟨by decide, by decide⟩ rfl rfl (nle rfl) dX2_leader_34 ⟨by decide, by decide⟩ 0 rfl rfl) rfl rfl (by decide) (by decide) (fun _ => rfl) (by decide) rfl (k2 := 0) (n2 := 0) rfl rfl (fun z_7 _ p_8 => ?_)
              subst p_8
              have q_6 : ahI lg (ssT S) d t9 = 0 ∨ ahI lg (ssT S) d t9 = 1 := by unfold ahI; omega
              refine z_if_eq 44 40 hC dX2_leader_37 (by decide) rfl (by omega) (fun c_9 => ?_) (fun c_9 => ?_)
              · skip
                refine z_iconst 45 hC dX2_leader_44 rfl ?_
                refine z_iadd 46 hC dX2_leader_45 rfl ?_
                refine z_istoren (lv' := [(3, .int (iI ((sumI (fun j => ahI lg (ssT S) j t9) d) + 0))), (0, .ref m), (1, .int (iI v)), (2, .int (iI t9)), (4, .int (iI d))]) 47 hC dX2_leader_46 rfl rfl (by decide) rfl ?_
                refine z_iinc (lv' := [(4, .int (iI (d + 1))), (3, .int (iI ((sumI (fun j => ahI lg (ssT S) j t9) d) + 0))), (0, .ref m), (1, .int (iI v)), (2, .int (iI t9))]) 50 4 hC dX2_leader_47 rfl rfl (by decide) rfl ?_
                refine z_goto 20 hC dX2_leader_50 (by decide) ?_
                refine z_lv (lv' := [(0, .ref m), (1, .int (iI v)), (2, .int (iI t9)), (3, .int (iI ((sumI (fun j => ahI lg (ssT S) j t9) d) + 0))), (4, .int (iI (d + 1)))]) [2, 3, 4, 1, 0] rfl ?_
                refine z_lveq (lv' := [(0, .ref m), (1, .int (iI v)), (2, .int (iI t9)), (3, .int (iI (sumI (fun j => ahI lg (ssT S) j t9) (d + 1)))), (4, .int (iI (d + 1)))]) (zfk (zfk (zfk (zlc (by exact sumI_y (by omega) (by omega)) (zfk rfl))))) ?_
                exact ih20 (d + 1) (by omega) (by omega)
              · skip
                refine z_iconst 41 hC dX2_leader_40 rfl ?_
                refine z_goto 45 hC dX2_leader_41 (by decide) ?_
                refine z_iadd 46 hC dX2_leader_45 rfl ?_
                refine z_istoren (lv' := [(3, .int (iI ((sumI (fun j => ahI lg (ssT S) j t9) d) + 1))), (0, .ref m), (1, .int (iI v)), (2, .int (iI t9)), (4, .int (iI d))]) 47 hC dX2_leader_46 rfl rfl (by decide) rfl ?_
                refine z_iinc (lv' := [(4, .int (iI (d + 1))), (3, .int (iI ((sumI (fun j => ahI lg (ssT S) j t9) d) + 1))), (0, .ref m), (1, .int (iI v)), (2, .int (iI t9))]) 50 4 hC dX2_leader_47 rfl rfl (by decide) rfl ?_
                refine z_goto 20 hC dX2_leader_50 (by decide) ?_
                refine z_lv (lv' := [(0, .ref m), (1, .int (iI v)), (2, .int (iI t9)), (3, .int (iI ((sumI (fun j => ahI lg (ssT S) j t9) d) + 1))), (4, .int (iI (d + 1)))]) [2, 3, 4, 1, 0] rfl ?_
                refine z_lveq (lv' := [(0, .ref m), (1, .int (iI v)), (2, .int (iI t9)), (3, .int (iI (sumI (fun j => ahI lg (ssT S) j t9) (d + 1)))), (4, .int (iI (d + 1)))]) (zfk (zfk (zfk (zlc (by exact sumI_y (by omega) (by omega)) (zfk rfl))))) ?_
                exact ih20 (d + 1) (by omega) (by omega)
        refine z_lv (lv' := [(0, .ref m), (1, .int (iI v)), (2, .int (iI t9)), (3, .int (iI 0)), (4, .int (iI 0))]) [2, 3, 4, 1, 0] rfl ?_
        refine z_lveq (lv' := [(0, .ref m), (1, .int (iI v)), (2, .int (iI t9)), (3, .int (iI (sumI (fun j => ahI lg (ssT S) j t9) 0))), (4, .int (iI 0))]) (zfk (zfk (zfk (zlc (by rfl) (zfk rfl))))) ?_
        exact loop20 ((tm - 0 + 1 : Int).toNat) 0 (by omega) (by omega)
  refine z_lv (lv' := [(0, .ref m), (1, .int (iI v)), (2, .int (iI 0))]) [1, 2, 0] rfl ?_
  exact loop7 ((tm - 0 + 1 : Int).toNat) 0 (by omega) (by intro j h0 h1; omega) (by omega)
set_option maxHeartbeats 4000000 in
set_option maxRecDepth 100000 in
theorem c_X2_flood (l : Launch) (D : va_G) (g : Nat → ClassId) (m : Nat) (b : Nat → Nat) (th hr tm en : Int) (td bu sr lg ov : Int → Int) (S : SS) (v : Int) (hI : LI td bu sr lg tm hr S) (hSI : SI tm S) (hv : -2147483648 ≤ v ∧ v ≤ 2147483647) : ZMi (S := (Int → Int)) l yX2_flood wsX2_flood ({ frames := 2, cells := 0, slots := 0, locals := 130 }) D g [.ref m, .int (iI v)] (wMo g m b th hr tm en (ssLo S) (ssSl S) (ssFa S) (ssS S) (ssF S) (ssW S) (kOf (ssO S) (ssP S)) (tbl tm bu sr lg (ssT S)) td ov) (fun z _ => (0 ≤ v ∧ v ≤ 30) → z = sumI (wet (ssS S) v) 120) (fun u => wMo g m b (if 0 ≤ v ∧ v ≤ 30 then 0 else 1) hr tm en (ssLo S) (ssSl S) (ssFa S) (ssS S) (ssF S) (ssW S) (kOf (ssO S) (ssP S)) (tbl tm bu sr lg (ssT S)) td u) 0 0 := by
  have hinX2 : ∀ w ∈ u_ws RX2 TX2 14, w ∈ wsX2_flood := by decide +kernel
  have L28 : Cond.fieldLink RX2 28 "SandcastleLeagueModel" "over" "[I" ∈ wsX2_flood := by decide +kernel
  have L35 : Cond.fieldLink RX2 35 "SandcastleLeagueModel" "thrown" "I" ∈ wsX2_flood := by decide +kernel
  obtain ⟨htd, hbu, hsr, hlg, htm, hhr, hSB, hT⟩ := id hI
  obtain ⟨hs, hf, hw, ho, hp⟩ := id hSB
  refine ZMi.of (own := RX2) cX2_flood 4 [(0, .ref m), (1, .int (iI v))] (by decide +kernel) rfl (nle rfl) rfl rfl ?_
  intro E hC hN hret
  refine z_aloadn 1 hC 0 dX2_flood_0 rfl rfl rfl ?_
  refine z_iconst 2 hC dX2_flood_1 rfl ?_
  refine z_put (ty := .int) (ws' := wMo g m b 0 hr tm en (ssLo S) (ssSl S) (ssFa S) (ssS S) (ssF S) (ssW S) (kOf (ssO S) (ssP S)) (tbl tm bu sr lg (ssT S)) td ov) 5 0 0 hC tyX2 tyX2_ok nmX2 hinX2 L35 dX2_flood_2 rfl rfl rfl (by decide) rfl (by decide +kernel) rfl rfl (nle rfl) rfl ?_
  refine z_iloadn 6 hC 1 dX2_flood_5 rfl rfl rfl ?_
  refine z_iconst 7 hC dX2_flood_6 rfl ?_
  refine z_bipush 9 hC dX2_flood_7 (by decide) rfl ?_
  refine z_calli (wr := [(m, .inr (2, [.int (iI 0), .int (iI hr), .int (iI tm), .int (iI en), .int (iI (ssLo S)), .int (iI (ssSl S)), .int (iI (ssFa S)), .ref (b 0), .ref (b 1), .ref (b 2), .ref (b 3), .ref (b 4), .ref (b 5), .ref (b 6)])), ((b 0), ar g 120 (ssS S)), ((b 1), ar g 120 (ssF S)), ((b 2), ar g 120 (ssW S)), ((b 3), ar g 120 (kOf (ssO S) (ssP S))), ((b 4), ar g 16 (tbl tm bu sr lg (ssT S))), ((b 5), ar g 12 td), ((b 6), ar g 120 ov)]) (w2 := fun _ => wMo g m b 0 hr tm en (ssLo S) (ssSl S) (ssFa S) (ssS S) (ssF S) (ssW S) (kOf (ssO S) (ssP S)) (tbl tm bu sr lg (ssT S)) td ov) 12 hC [] [0, 1, 2, 3, 4, 5, 6, 7] [0, 1, 2, 3, 4, 5, 6, 7] (z_runS (nA := 3) hC hN (c_X2_isIn l D g v 0 30 (by omega) (by omega) (by omega)) [] rfl (by decide) gX2_flood_X2_isIn (by decide +kernel) rfl rfl rfl ⟨by decide, by decide⟩ rfl rfl (nle rfl) dX2_flood_9 ⟨by decide, by decide⟩) rfl rfl (by decide) (by decide) (fun _ => rfl) (by decide) rfl (k2 := 0) (n2 := 0) rfl rfl (fun z_1 _ p_2 => ?_)
  refine z_if_ne 21 15 hC dX2_flood_12 (by decide) rfl (by omega) (fun c_3 => ?_) (fun c_3 => ?_)
  · skip
    refine z_aloadn 22 hC 0 dX2_flood_21 rfl rfl rfl ?_
    refine z_callv (wr := []) (w2 := fun u_4 => wMo g m b 0 hr tm en (ssLo S) (ssSl S) (ssFa S) (ssS S) (ssF S) (ssW S) (kOf (ssO S) (ssP S)) (tbl tm bu sr lg (ssT S)) td u_4) 25 hC [0, 1, 2, 3, 4, 5, 6, 7] [] [0, 1, 2, 3, 4, 5, 6, 7] (z_runV (nA := 0) hC hN (c_X2_findOver l D g m b 0 hr tm en (ssLo S) (ssSl S) (ssFa S) (ssS S) (ssF S) (ssW S) (kOf (ssO S) (ssP S)) (tbl tm bu sr lg (ssT S)) td ov  hs) [0, 1, 2, 3, 4, 5, 6, 7] rfl (by decide) gX2_flood_X2_findOver (by decide +kernel) rfl rfl rfl ⟨by decide, by decide⟩ rfl rfl (nle rfl) dX2_flood_22 ⟨by decide, by decide⟩ 0 rfl rfl) rfl rfl (by decide) (by decide) (fun _ => rfl) (by decide) rfl (k2 := 0) (n2 := 0) rfl rfl (fun u_4 p_5 => ?_)
    have hov := p_5
    refine z_iconst 26 hC dX2_flood_25 rfl ?_
    refine z_istoren (lv' := [(2, .int (iI 0)), (0, .ref m), (1, .int (iI v))]) 27 hC dX2_flood_26 rfl rfl (by decide) rfl ?_
    refine z_iconst 28 hC dX2_flood_27 rfl ?_
    refine z_istoren (lv' := [(3, .int (iI 0)), (2, .int (iI 0)), (0, .ref m), (1, .int (iI v))]) 29 hC dX2_flood_28 rfl rfl (by decide) rfl ?_
    have loop29 : ∀ (N29 : Nat) (i : Int), 0 ≤ i ∧ i ≤ 120 → (120 - i : Int) < N29 → Z E (wMo g m b 0 hr tm en (ssLo S) (ssSl S) (ssFa S) (ssS S) (ssF S) (ssW S) (kOf (ssO S) (ssP S)) (tbl tm bu sr lg (ssT S)) td u_4) [(0, .ref m), (1, .int (iI v)), (2, .int (iI (sumI (wet (ssS S) v) i))), (3, .int (iI i))] 0 0 29 [] := by
      intro N29
      induction N29 with
      | zero => intro i hi hm29; exact absurd hm29 (by omega)
      | succ N29 ih29 =>
        intro i hi hm29
        refine z_iloadn 30 hC 3 dX2_flood_29 rfl rfl rfl ?_
        refine z_bipush 32 hC dX2_flood_30 (by decide) rfl ?_
        refine z_icmp_ge 59 35 hC dX2_flood_32 (by decide) rfl (by omega) (by omega) (fun c_6 => ?_) (fun c_6 => ?_)
        · skip
          obtain rfl : i = 120 := by omega
          refine z_iloadn 60 hC 2 dX2_flood_59 rfl rfl rfl ?_
          refine z_weq (ws' := wMo g m b (if 0 ≤ v ∧ v ≤ 30 then 0 else 1) hr tm en (ssLo S) (ssSl S) (ssFa S) (ssS S) (ssF S) (ssW S) (kOf (ssO S) (ssP S)) (tbl tm bu sr lg (ssT S)) td u_4) (zEq.cons (zE1.obj (zfc (by omega) (zfk (zfk (zfk (zfk (zfk (zfk (zfk (zfk (zfk (zfk (zfk (zfk (zfk rfl))))))))))))))) (zEq.cons zE1.rf (zEq.cons zE1.rf (zEq.cons zE1.rf (zEq.cons zE1.rf (zEq.cons zE1.rf (zEq.cons zE1.rf (zEq.cons zE1.rf zEq.nil)))))))) ?_
          exact hret u_4 dX2_flood_60 rfl (by intro q9; first | rfl | omega)
        · skip
          have qo := (hov i (by omega) (by omega)).1
          refine z_iloadn 36 hC 2 dX2_flood_35 rfl rfl rfl ?_
          refine z_aloadn 37 hC 0 dX2_flood_36 rfl rfl rfl ?_
          refine z_get 40 0 13 hC hinX2 L28 dX2_flood_37 rfl rfl rfl (by decide) rfl ?_
          refine z_iloadn 41 hC 3 dX2_flood_40 rfl rfl rfl ?_
          refine z_iald 42 7 hC dX2_flood_41 rfl rfl (by decide) (by omega) ?_
          refine z_iloadn 43 hC 1 dX2_flood_42 rfl rfl rfl ?_
          refine z_icmp_ge 50 46 hC dX2_flood_43 (by decide) rfl (by omega) (by omega) (fun c_7 => ?_) (fun c_7 => ?_)
          · skip
            refine z_iconst 51 hC dX2_flood_50 rfl ?_
            refine z_iadd 52 hC dX2_flood_51 rfl ?_
            refine z_istoren (lv' := [(2, .int (iI ((sumI (wet (ssS S) v) i) + 0))), (0, .ref m), (1, .int (iI v)), (3, .int (iI i))]) 53 hC dX2_flood_52 rfl rfl (by decide) rfl ?_
            refine z_iinc (lv' := [(3, .int (iI (i + 1))), (2, .int (iI ((sumI (wet (ssS S) v) i) + 0))), (0, .ref m), (1, .int (iI v))]) 56 3 hC dX2_flood_53 rfl rfl (by decide) rfl ?_
            refine z_goto 29 hC dX2_flood_56 (by decide) ?_
            refine z_lv (lv' := [(0, .ref m), (1, .int (iI v)), (2, .int (iI ((sumI (wet (ssS S) v) i) + 0))), (3, .int (iI (i + 1)))]) [2, 3, 1, 0] rfl ?_
            refine z_lveq (lv' := [(0, .ref m), (1, .int (iI v)), (2, .int (iI (sumI (wet (ssS S) v) (i + 1)))), (3, .int (iI (i + 1)))]) (zfk (zfk (zlc (by exact sumI_y (by omega) (by rw [wet_ov hov (by omega) (by omega)]; omega)) (zfk rfl)))) ?_
            exact ih29 (i + 1) (by omega) (by omega)
          · skip
            refine z_iconst 47 hC dX2_flood_46 rfl ?_
            refine z_goto 51 hC dX2_flood_47 (by decide) ?_
            refine z_iadd 52 hC dX2_flood_51 rfl ?_
            refine z_istoren (lv' := [(2, .int (iI ((sumI (wet (ssS S) v) i) + 1))), (0, .ref m), (1, .int (iI v)), (3, .int (iI i))]) 53 hC dX2_flood_52 rfl rfl (by decide) rfl ?_
            refine z_iinc (lv' := [(3, .int (iI (i + 1))), (2, .int (iI ((sumI (wet (ssS S) v) i) + 1))), (0, .ref m), (1, .int (iI v))]) 56 3 hC dX2_flood_53 rfl rfl (by decide) rfl ?_
            refine z_goto 29 hC dX2_flood_56 (by decide) ?_
            refine z_lv (lv' := [(0, .ref m), (1, .int (iI v)), (2, .int (iI ((sumI (wet (ssS S) v) i) + 1))), (3, .int (iI (i + 1)))]) [2, 3, 1, 0] rfl ?_
            refine z_lveq (lv' := [(0, .ref m), (1, .int (iI v)), (2, .int (iI (sumI (wet (ssS S) v) (i + 1)))), (3, .int (iI (i + 1)))]) (zfk (zfk (zlc (by exact sumI_y (by omega) (by rw [wet_ov hov (by omega) (by omega)]; omega)) (zfk rfl)))) ?_
            exact ih29 (i + 1) (by omega) (by omega)
    refine z_lv (lv' := [(0, .ref m), (1, .int (iI v)), (2, .int (iI 0)), (3, .int (iI 0))]) [2, 3, 1, 0] rfl ?_
    refine z_lveq (lv' := [(0, .ref m), (1, .int (iI v)), (2, .int (iI (sumI (wet (ssS S) v) 0))), (3, .int (iI 0))]) (zfk (zfk (zlc (by rfl) (zfk rfl)))) ?_
    exact loop29 ((120 - 0 + 1 : Int).toNat) 0 (by omega) (by omega)
  · skip
    refine z_aloadn 16 hC 0 dX2_flood_15 rfl rfl rfl ?_
    refine z_iconst 17 hC dX2_flood_16 rfl ?_
    refine z_calli (wr := []) (w2 := fun _ => wMo g m b 1 hr tm en (ssLo S) (ssSl S) (ssFa S) (ssS S) (ssF S) (ssW S) (kOf (ssO S) (ssP S)) (tbl tm bu sr lg (ssT S)) td ov) 20 hC [0, 1, 2, 3, 4, 5, 6, 7] [] [0, 1, 2, 3, 4, 5, 6, 7] (z_runV (nA := 1) hC hN (c_X2_fail l D g m b 0 hr tm en (ssLo S) (ssSl S) (ssFa S) (ssS S) (ssF S) (ssW S) (kOf (ssO S) (ssP S)) (tbl tm bu sr lg (ssT S)) td ov 1 ) [0, 1, 2, 3, 4, 5, 6, 7] rfl (by decide) gX2_flood_X2_fail (by decide +kernel) rfl rfl rfl ⟨by decide, by decide⟩ rfl rfl (nle rfl) dX2_flood_17 ⟨by decide, by decide⟩ 0 rfl rfl) rfl rfl (by decide) (by decide) (fun _ => rfl) (by decide) rfl (k2 := 0) (n2 := 0) rfl rfl (fun z_8 _ p_9 => ?_)
    subst p_9
    refine z_weq (ws' := wMo g m b (if 0 ≤ v ∧ v ≤ 30 then 0 else 1) hr tm en (ssLo S) (ssSl S) (ssFa S) (ssS S) (ssF S) (ssW S) (kOf (ssO S) (ssP S)) (tbl tm bu sr lg (ssT S)) td ov) (zEq.cons (zE1.obj (zfc (by omega) (zfk (zfk (zfk (zfk (zfk (zfk (zfk (zfk (zfk (zfk (zfk (zfk (zfk rfl))))))))))))))) (zEq.cons zE1.rf (zEq.cons zE1.rf (zEq.cons zE1.rf (zEq.cons zE1.rf (zEq.cons zE1.rf (zEq.cons zE1.rf (zEq.cons zE1.rf zEq.nil)))))))) ?_
    exact hret ov dX2_flood_20 rfl (by intro q9; first | rfl | omega)
set_option maxHeartbeats 4000000 in
set_option maxRecDepth 100000 in
theorem c_X2_reach (l : Launch) (D : va_G) (g : Nat → ClassId) (m : Nat) (b : Nat → Nat) (th hr tm en : Int) (td bu sr lg ov : Int → Int) (S : SS) (cx : Int) (cy : Int) (hI : LI td bu sr lg tm hr S) (hSI : SI tm S) (hcx : -2147483648 ≤ cx ∧ cx ≤ 2147483647) (hcy : -2147483648 ≤ cy ∧ cy ≤ 2147483647) : ZMi (S := (Int → Int)) l yX2_reach wsX2_reach ({ frames := 2, cells := 0, slots := 0, locals := 130 }) D g [.ref m, .int (iI cx), .int (iI cy)] (wMo g m b th hr tm en (ssLo S) (ssSl S) (ssFa S) (ssS S) (ssF S) (ssW S) (kOf (ssO S) (ssP S)) (tbl tm bu sr lg (ssT S)) td ov) (fun z _ => (0 ≤ cx ∧ cx < 12 ∧ 0 ≤ cy ∧ cy < 10) → rchP (ssS S) (cx + 12 * cy) z) (fun u => wMo g m b (if 0 ≤ cx ∧ cx < 12 ∧ 0 ≤ cy ∧ cy < 10 then 0 else 1) hr tm en (ssLo S) (ssSl S) (ssFa S) (ssS S) (ssF S) (ssW S) (kOf (ssO S) (ssP S)) (tbl tm bu sr lg (ssT S)) td u) 0 0 := by
  have hinX2 : ∀ w ∈ u_ws RX2 TX2 14, w ∈ wsX2_reach := by decide +kernel
  have L28 : Cond.fieldLink RX2 28 "SandcastleLeagueModel" "over" "[I" ∈ wsX2_reach := by decide +kernel
  have L35 : Cond.fieldLink RX2 35 "SandcastleLeagueModel" "thrown" "I" ∈ wsX2_reach := by decide +kernel
  obtain ⟨htd, hbu, hsr, hlg, htm, hhr, hSB, hT⟩ := id hI
  obtain ⟨hs, hf, hw, ho, hp⟩ := id hSB
  refine ZMi.of (own := RX2) cX2_reach 3 [(0, .ref m), (1, .int (iI cx)), (2, .int (iI cy))] (by decide +kernel) rfl (nle rfl) rfl rfl ?_
  intro E hC hN hret
  refine z_aloadn 1 hC 0 dX2_reach_0 rfl rfl rfl ?_
  refine z_iconst 2 hC dX2_reach_1 rfl ?_
  refine z_put (ty := .int) (ws' := wMo g m b 0 hr tm en (ssLo S) (ssSl S) (ssFa S) (ssS S) (ssF S) (ssW S) (kOf (ssO S) (ssP S)) (tbl tm bu sr lg (ssT S)) td ov) 5 0 0 hC tyX2 tyX2_ok nmX2 hinX2 L35 dX2_reach_2 rfl rfl rfl (by decide) rfl (by decide +kernel) rfl rfl (nle rfl) rfl ?_
  refine z_iloadn 6 hC 1 dX2_reach_5 rfl rfl rfl ?_
  refine z_iconst 7 hC dX2_reach_6 rfl ?_
  refine z_bipush 9 hC dX2_reach_7 (by decide) rfl ?_
  refine z_calli (wr := [(m, .inr (2, [.int (iI 0), .int (iI hr), .int (iI tm), .int (iI en), .int (iI (ssLo S)), .int (iI (ssSl S)), .int (iI (ssFa S)), .ref (b 0), .ref (b 1), .ref (b 2), .ref (b 3), .ref (b 4), .ref (b 5), .ref (b 6)])), ((b 0), ar g 120 (ssS S)), ((b 1), ar g 120 (ssF S)), ((b 2), ar g 120 (ssW S)), ((b 3), ar g 120 (kOf (ssO S) (ssP S))), ((b 4), ar g 16 (tbl tm bu sr lg (ssT S))), ((b 5), ar g 12 td), ((b 6), ar g 120 ov)]) (w2 := fun _ => wMo g m b 0 hr tm en (ssLo S) (ssSl S) (ssFa S) (ssS S) (ssF S) (ssW S) (kOf (ssO S) (ssP S)) (tbl tm bu sr lg (ssT S)) td ov) 12 hC [] [0, 1, 2, 3, 4, 5, 6, 7] [0, 1, 2, 3, 4, 5, 6, 7] (z_runS (nA := 3) hC hN (c_X2_isIn l D g cx 0 11 (by omega) (by omega) (by omega)) [] rfl (by decide) gX2_reach_X2_isIn (by decide +kernel) rfl rfl rfl ⟨by decide, by decide⟩ rfl rfl (nle rfl) dX2_reach_9 ⟨by decide, by decide⟩) rfl rfl (by decide) (by decide) (fun _ => rfl) (by decide) rfl (k2 := 0) (n2 := 0) rfl rfl (fun z_1 _ p_2 => ?_)
  refine z_if_eq 25 15 hC dX2_reach_12 (by decide) rfl (by omega) (fun c_3 => ?_) (fun c_3 => ?_)
  · skip
    refine z_aloadn 26 hC 0 dX2_reach_25 rfl rfl rfl ?_
    refine z_iconst 27 hC dX2_reach_26 rfl ?_
    refine z_calli (wr := []) (w2 := fun _ => wMo g m b 1 hr tm en (ssLo S) (ssSl S) (ssFa S) (ssS S) (ssF S) (ssW S) (kOf (ssO S) (ssP S)) (tbl tm bu sr lg (ssT S)) td ov) 30 hC [0, 1, 2, 3, 4, 5, 6, 7] [] [0, 1, 2, 3, 4, 5, 6, 7] (z_runV (nA := 1) hC hN (c_X2_fail l D g m b 0 hr tm en (ssLo S) (ssSl S) (ssFa S) (ssS S) (ssF S) (ssW S) (kOf (ssO S) (ssP S)) (tbl tm bu sr lg (ssT S)) td ov 1 ) [0, 1, 2, 3, 4, 5, 6, 7] rfl (by decide) gX2_reach_X2_fail (by decide +kernel) rfl rfl rfl ⟨by decide, by decide⟩ rfl rfl (nle rfl) dX2_reach_27 ⟨by decide, by decide⟩ 0 rfl rfl) rfl rfl (by decide) (by decide) (fun _ => rfl) (by decide) rfl (k2 := 0) (n2 := 0) rfl rfl (fun z_4 _ p_5 => ?_)
    subst p_5
    refine z_weq (ws' := wMo g m b (if 0 ≤ cx ∧ cx < 12 ∧ 0 ≤ cy ∧ cy < 10 then 0 else 1) hr tm en (ssLo S) (ssSl S) (ssFa S) (ssS S) (ssF S) (ssW S) (kOf (ssO S) (ssP S)) (tbl tm bu sr lg (ssT S)) td ov) (zEq.cons (zE1.obj (zfc (by omega) (zfk (zfk (zfk (zfk (zfk (zfk (zfk (zfk (zfk (zfk (zfk (zfk (zfk rfl))))))))))))))) (zEq.cons zE1.rf (zEq.cons zE1.rf (zEq.cons zE1.rf (zEq.cons zE1.rf (zEq.cons zE1.rf (zEq.cons zE1.rf (zEq.cons zE1.rf zEq.nil)))))))) ?_
    exact hret ov dX2_reach_30 rfl (by intro q9; first | omega | exact rch_ov hov (by omega))
  · skip
    refine z_iloadn 16 hC 2 dX2_reach_15 rfl rfl rfl ?_
    refine z_iconst 17 hC dX2_reach_16 rfl ?_
    refine z_bipush 19 hC dX2_reach_17 (by decide) rfl ?_
    refine z_calli (wr := [(m, .inr (2, [.int (iI 0), .int (iI hr), .int (iI tm), .int (iI en), .int (iI (ssLo S)), .int (iI (ssSl S)), .int (iI (ssFa S)), .ref (b 0), .ref (b 1), .ref (b 2), .ref (b 3), .ref (b 4), .ref (b 5), .ref (b 6)])), ((b 0), ar g 120 (ssS S)), ((b 1), ar g 120 (ssF S)), ((b 2), ar g 120 (ssW S)), ((b 3), ar g 120 (kOf (ssO S) (ssP S))), ((b 4), ar g 16 (tbl tm bu sr lg (ssT S))), ((b 5), ar g 12 td), ((b 6), ar g 120 ov)]) (w2 := fun _ => wMo g m b 0 hr tm en (ssLo S) (ssSl S) (ssFa S) (ssS S) (ssF S) (ssW S) (kOf (ssO S) (ssP S)) (tbl tm bu sr lg (ssT S)) td ov) 22 hC [] [0, 1, 2, 3, 4, 5, 6, 7] [0, 1, 2, 3, 4, 5, 6, 7] (z_runS (nA := 3) hC hN (c_X2_isIn l D g cy 0 9 (by omega) (by omega) (by omega)) [] rfl (by decide) gX2_reach_X2_isIn (by decide +kernel) rfl rfl rfl ⟨by decide, by decide⟩ rfl rfl (nle rfl) dX2_reach_19 ⟨by decide, by decide⟩) rfl rfl (by decide) (by decide) (fun _ => rfl) (by decide) rfl (k2 := 0) (n2 := 0) rfl rfl (fun z_6 _ p_7 => ?_)
    refine z_if_ne 31 25 hC dX2_reach_22 (by decide) rfl (by omega) (fun c_8 => ?_) (fun c_8 => ?_)
    · skip
      refine z_aloadn 32 hC 0 dX2_reach_31 rfl rfl rfl ?_
      refine z_callv (wr := []) (w2 := fun u_9 => wMo g m b 0 hr tm en (ssLo S) (ssSl S) (ssFa S) (ssS S) (ssF S) (ssW S) (kOf (ssO S) (ssP S)) (tbl tm bu sr lg (ssT S)) td u_9) 35 hC [0, 1, 2, 3, 4, 5, 6, 7] [] [0, 1, 2, 3, 4, 5, 6, 7] (z_runV (nA := 0) hC hN (c_X2_findOver l D g m b 0 hr tm en (ssLo S) (ssSl S) (ssFa S) (ssS S) (ssF S) (ssW S) (kOf (ssO S) (ssP S)) (tbl tm bu sr lg (ssT S)) td ov  hs) [0, 1, 2, 3, 4, 5, 6, 7] rfl (by decide) gX2_reach_X2_findOver (by decide +kernel) rfl rfl rfl ⟨by decide, by decide⟩ rfl rfl (nle rfl) dX2_reach_32 ⟨by decide, by decide⟩ 0 rfl rfl) rfl rfl (by decide) (by decide) (fun _ => rfl) (by decide) rfl (k2 := 0) (n2 := 0) rfl rfl (fun u_9 p_10 => ?_)
      have hov := p_10
      refine z_aloadn 36 hC 0 dX2_reach_35 rfl rfl rfl ?_
      refine z_get 39 0 13 hC hinX2 L28 dX2_reach_36 rfl rfl rfl (by decide) rfl ?_
      refine z_iloadn 40 hC 1 dX2_reach_39 rfl rfl rfl ?_
      refine z_bipush 42 hC dX2_reach_40 (by decide) rfl ?_
      refine z_iloadn 43 hC 2 dX2_reach_42 rfl rfl rfl ?_
      refine z_imul 44 hC dX2_reach_43 rfl ?_
      refine z_iadd 45 hC dX2_reach_44 rfl ?_
      refine z_iald 46 7 hC dX2_reach_45 rfl rfl (by decide) (by omega) ?_
      refine z_iconst 47 hC dX2_reach_46 rfl ?_
      refine z_iadd 48 hC dX2_reach_47 rfl ?_
      refine z_weq (ws' := wMo g m b (if 0 ≤ cx ∧ cx < 12 ∧ 0 ≤ cy ∧ cy < 10 then 0 else 1) hr tm en (ssLo S) (ssSl S) (ssFa S) (ssS S) (ssF S) (ssW S) (kOf (ssO S) (ssP S)) (tbl tm bu sr lg (ssT S)) td u_9) (zEq.cons (zE1.obj (zfc (by omega) (zfk (zfk (zfk (zfk (zfk (zfk (zfk (zfk (zfk (zfk (zfk (zfk (zfk rfl))))))))))))))) (zEq.cons zE1.rf (zEq.cons zE1.rf (zEq.cons zE1.rf (zEq.cons zE1.rf (zEq.cons zE1.rf (zEq.cons zE1.rf (zEq.cons zE1.rf zEq.nil)))))))) ?_
      exact hret u_9 dX2_reach_48 rfl (by intro q9; first | omega | exact rch_ov hov (by omega))
    · skip
      refine z_aloadn 26 hC 0 dX2_reach_25 rfl rfl rfl ?_
      refine z_iconst 27 hC dX2_reach_26 rfl ?_
      refine z_calli (wr := []) (w2 := fun _ => wMo g m b 1 hr tm en (ssLo S) (ssSl S) (ssFa S) (ssS S) (ssF S) (ssW S) (kOf (ssO S) (ssP S)) (tbl tm bu sr lg (ssT S)) td ov) 30 hC [0, 1, 2, 3, 4, 5, 6, 7] [] [0, 1, 2, 3, 4, 5, 6, 7] (z_runV (nA := 1) hC hN (c_X2_fail l D g m b 0 hr tm en (ssLo S) (ssSl S) (ssFa S) (ssS S) (ssF S) (ssW S) (kOf (ssO S) (ssP S)) (tbl tm bu sr lg (ssT S)) td ov 1 ) [0, 1, 2, 3, 4, 5, 6, 7] rfl (by decide) gX2_reach_X2_fail (by decide +kernel) rfl rfl rfl ⟨by decide, by decide⟩ rfl rfl (nle rfl) dX2_reach_27 ⟨by decide, by decide⟩ 0 rfl rfl) rfl rfl (by decide) (by decide) (fun _ => rfl) (by decide) rfl (k2 := 0) (n2 := 0) rfl rfl (fun z_11 _ p_12 => ?_)
      subst p_12
      refine z_weq (ws' := wMo g m b (if 0 ≤ cx ∧ cx < 12 ∧ 0 ≤ cy ∧ cy < 10 then 0 else 1) hr tm en (ssLo S) (ssSl S) (ssFa S) (ssS S) (ssF S) (ssW S) (kOf (ssO S) (ssP S)) (tbl tm bu sr lg (ssT S)) td ov) (zEq.cons (zE1.obj (zfc (by omega) (zfk (zfk (zfk (zfk (zfk (zfk (zfk (zfk (zfk (zfk (zfk (zfk (zfk rfl))))))))))))))) (zEq.cons zE1.rf (zEq.cons zE1.rf (zEq.cons zE1.rf (zEq.cons zE1.rf (zEq.cons zE1.rf (zEq.cons zE1.rf (zEq.cons zE1.rf zEq.nil)))))))) ?_
      exact hret ov dX2_reach_30 rfl (by intro q9; first | omega | exact rch_ov hov (by omega))
set_option maxHeartbeats 4000000 in
set_option maxRecDepth 100000 in
theorem c_X2_mean (l : Launch) (D : va_G) (g : Nat → ClassId) (m : Nat) (b : Nat → Nat) (th hr tm en : Int) (td bu sr lg ov : Int → Int) (S : SS)  (hI : LI td bu sr lg tm hr S) (hSI : SI tm S)  : ZMd (S := Unit) l yX2_mean wsX2_mean ({ frames := 1, cells := 0, slots := 0, locals := 60 }) D g [.ref m] (wMo g m b th hr tm en (ssLo S) (ssSl S) (ssFa S) (ssS S) (ssF S) (ssW S) (kOf (ssO S) (ssP S)) (tbl tm bu sr lg (ssT S)) td ov) (fun z _ => z = FP.ddiv (FP.i2d (iI (sumI (hg (ssS S)) 120))) 4638144666238189568) (fun _ => wMo g m b 0 hr tm en (ssLo S) (ssSl S) (ssFa S) (ssS S) (ssF S) (ssW S) (kOf (ssO S) (ssP S)) (tbl tm bu sr lg (ssT S)) td ov) 0 0 := by
  have hinX2 : ∀ w ∈ u_ws RX2 TX2 14, w ∈ wsX2_mean := by decide +kernel
  have L35 : Cond.fieldLink RX2 35 "SandcastleLeagueModel" "thrown" "I" ∈ wsX2_mean := by decide +kernel
  obtain ⟨htd, hbu, hsr, hlg, htm, hhr, hSB, hT⟩ := id hI
  obtain ⟨hs, hf, hw, ho, hp⟩ := id hSB
  have hne := vfb_ok (z := sumI (hg (ssS S)) 120) (hgs_bd hs)
  refine ZMd.of (ty := .int) (own := RX2) cX2_mean 3 [(0, .ref m)] (by decide +kernel) rfl (nle rfl) rfl rfl ?_
  intro E hC hN hret
  refine z_aloadn 1 hC 0 dX2_mean_0 rfl rfl rfl ?_
  refine z_iconst 2 hC dX2_mean_1 rfl ?_
  refine z_put (ty := .int) (ws' := wMo g m b 0 hr tm en (ssLo S) (ssSl S) (ssFa S) (ssS S) (ssF S) (ssW S) (kOf (ssO S) (ssP S)) (tbl tm bu sr lg (ssT S)) td ov) 5 0 0 hC tyX2 tyX2_ok nmX2 hinX2 L35 dX2_mean_2 rfl rfl rfl (by decide) rfl (by decide +kernel) rfl rfl (nle rfl) rfl ?_
  refine z_iconst 6 hC dX2_mean_5 rfl ?_
  refine z_istoren (lv' := [(1, .int (iI 0)), (0, .ref m)]) 7 hC dX2_mean_6 rfl rfl (by decide) rfl ?_
  refine z_iconst 8 hC dX2_mean_7 rfl ?_
  refine z_istoren (lv' := [(2, .int (iI 0)), (1, .int (iI 0)), (0, .ref m)]) 9 hC dX2_mean_8 rfl rfl (by decide) rfl ?_
  have loop9 : ∀ (N9 : Nat) (i : Int), 0 ≤ i ∧ i ≤ 120 → (120 - i : Int) < N9 → Z E (wMo g m b 0 hr tm en (ssLo S) (ssSl S) (ssFa S) (ssS S) (ssF S) (ssW S) (kOf (ssO S) (ssP S)) (tbl tm bu sr lg (ssT S)) td ov) [(0, .ref m), (1, .int (iI (sumI (hg (ssS S)) i))), (2, .int (iI i))] 0 0 9 [] := by
    intro N9
    induction N9 with
    | zero => intro i hi hm9; exact absurd hm9 (by omega)
    | succ N9 ih9 =>
      intro i hi hm9
      refine z_iloadn 10 hC 2 dX2_mean_9 rfl rfl rfl ?_
      refine z_bipush 12 hC dX2_mean_10 (by decide) rfl ?_
      refine z_icmp_ge 29 15 hC dX2_mean_12 (by decide) rfl (by omega) (by omega) (fun c_1 => ?_) (fun c_1 => ?_)
      · skip
        obtain rfl : i = 120 := by omega
        refine z_iloadn 30 hC 1 dX2_mean_29 rfl rfl rfl ?_
        refine z_i2d 31 hC dX2_mean_30 rfl ?_
        refine z_ldc2d (v := 4638144666238189568) 34 hC (by decide +kernel) dX2_mean_31 rfl ?_
        refine z_ddiv 35 hC hne dX2_mean_34 rfl ?_
        exact hret () dX2_mean_35 (by rfl)
      · skip
        refine z_iloadn 16 hC 1 dX2_mean_15 rfl rfl rfl ?_
        refine z_aloadn 17 hC 0 dX2_mean_16 rfl rfl rfl ?_
        refine z_iloadn 18 hC 2 dX2_mean_17 rfl rfl rfl ?_
        refine z_calli (wr := []) (w2 := fun _ => wMo g m b 0 hr tm en (ssLo S) (ssSl S) (ssFa S) (ssS S) (ssF S) (ssW S) (kOf (ssO S) (ssP S)) (tbl tm bu sr lg (ssT S)) td ov) 21 hC [0, 1, 2, 3, 4, 5, 6, 7] [] [0, 1, 2, 3, 4, 5, 6, 7] (z_runV (nA := 1) hC hN (c_X2_height l D g m b 0 hr tm en (ssLo S) (ssSl S) (ssFa S) (ssS S) (ssF S) (ssW S) (kOf (ssO S) (ssP S)) (tbl tm bu sr lg (ssT S)) td ov i (by omega)) [0, 1, 2, 3, 4, 5, 6, 7] rfl (by decide) gX2_mean_X2_height (by decide +kernel) rfl rfl rfl ⟨by decide, by decide⟩ rfl rfl (nle rfl) dX2_mean_18 ⟨by decide, by decide⟩ 0 rfl rfl) rfl rfl (by decide) (by decide) (fun _ => rfl) (by decide) rfl (k2 := 0) (n2 := 0) rfl rfl (fun z_3 _ p_4 => ?_)
        subst p_4
        have y_2 := hg_bd hs (c := i) (by omega)
        refine z_iadd 22 hC dX2_mean_21 rfl ?_
        refine z_istoren (lv' := [(1, .int (iI ((sumI (hg (ssS S)) i) + (hg (ssS S) i)))), (0, .ref m), (2, .int (iI i))]) 23 hC dX2_mean_22 rfl rfl (by decide) rfl ?_
        refine z_iinc (lv' := [(2, .int (iI (i + 1))), (1, .int (iI ((sumI (hg (ssS S)) i) + (hg (ssS S) i)))), (0, .ref m)]) 26 2 hC dX2_mean_23 rfl rfl (by decide) rfl ?_
        refine z_goto 9 hC dX2_mean_26 (by decide) ?_
        refine z_lv (lv' := [(0, .ref m), (1, .int (iI ((sumI (hg (ssS S)) i) + (hg (ssS S) i)))), (2, .int (iI (i + 1)))]) [2, 1, 0] rfl ?_
        refine z_lveq (lv' := [(0, .ref m), (1, .int (iI (sumI (hg (ssS S)) (i + 1)))), (2, .int (iI (i + 1)))]) (zfk (zlc (by exact sumI_y (by omega) rfl) (zfk rfl))) ?_
        exact ih9 (i + 1) (by omega) (by omega)
  refine z_lv (lv' := [(0, .ref m), (1, .int (iI 0)), (2, .int (iI 0))]) [2, 1, 0] rfl ?_
  refine z_lveq (lv' := [(0, .ref m), (1, .int (iI (sumI (hg (ssS S)) 0))), (2, .int (iI 0))]) (zfk (zlc (by rfl) (zfk rfl))) ?_
  exact loop9 ((120 - 0 + 1 : Int).toNat) 0 (by omega) (by omega)
