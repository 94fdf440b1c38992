set_option maxHeartbeats 4000000 in
set_option maxRecDepth 100000 in
theorem c_X1_letHoursGoBy (l : Launch) (D : va_G) (g : Nat → ClassId) (x : Nat) (b : Nat → Nat) (sh tr h : Nat) (a : Nat → Nat) (td bu sr lg : Int → Int) (tm hr en : Int) (S : SS) (n : Int) (htd : Bd td 12 0 30) (hhr : 0 ≤ hr ∧ hr ≤ 1000000) (hn : 0 ≤ n ∧ n ≤ 48) (hSB : SB S) : ZMv (S := Unit) l yX1_letHoursGoBy wsX1_letHoursGoBy ({ frames := 5, cells := 0, slots := 0, locals := 250 }) D g [.ref x, .ref h, .int (iI n)] ((wLe g x b sh tr td bu sr lg tm hr en) ++ ((wSh g h a (ssS S) (ssF S) (ssW S) (ssO S) (ssP S) (ssT S) (ssLo S) (ssSl S) (ssFa S)))) (fun _ => True) (fun _ => (wLe g x b sh tr td bu sr lg tm hr en) ++ ((wSh g h a (ssS (hrs td hr S n)) (ssF (hrs td hr S n)) (ssW (hrs td hr S n)) (ssO (hrs td hr S n)) (ssP (hrs td hr S n)) (ssT (hrs td hr S n)) (ssLo (hrs td hr S n)) (ssSl (hrs td hr S n)) (ssFa (hrs td hr S n))))) 0 0 := by
  have hinX1 : ∀ w ∈ u_ws RX1 TX1 9, w ∈ wsX1_letHoursGoBy := by decide +kernel
  have L28 : Cond.fieldLink RX1 28 "SandcastleLeague" "tides" "[I" ∈ wsX1_letHoursGoBy := by decide +kernel
  have L131 : Cond.fieldLink RX1 131 "SandcastleLeague" "hour" "I" ∈ wsX1_letHoursGoBy := by decide +kernel
  refine ZMv.of (ty := .int) (own := RX1) cX1_letHoursGoBy 4 [(0, .ref x), (1, .ref h), (2, .int (iI n))] (by decide +kernel) rfl (nle rfl) rfl rfl ?_
  intro E hC hN hret
  refine z_iconst 1 hC dX1_letHoursGoBy_0 rfl ?_
  refine z_istoren (lv' := [(3, .int (iI 0)), (0, .ref x), (1, .ref h), (2, .int (iI n))]) 2 hC dX1_letHoursGoBy_1 rfl rfl (by decide) rfl ?_
  have loop2 : ∀ (N2 : Nat) (i : Int), 0 ≤ i ∧ i ≤ n → (n - i : Int) < N2 → Z E ((wLe g x b sh tr td bu sr lg tm hr en) ++ ((wSh g h a (ssS (hrs td hr S i)) (ssF (hrs td hr S i)) (ssW (hrs td hr S i)) (ssO (hrs td hr S i)) (ssP (hrs td hr S i)) (ssT (hrs td hr S i)) (ssLo (hrs td hr S i)) (ssSl (hrs td hr S i)) (ssFa (hrs td hr S i))))) [(0, .ref x), (1, .ref h), (2, .int (iI n)), (3, .int (iI i))] 0 0 2 [] := by
    intro N2
    induction N2 with
    | zero => intro i hi hm2; exact absurd hm2 (by omega)
    | succ N2 ih2 =>
      intro i hi hm2
      have qB := hrs_bd td hr hSB hi.1
      obtain ⟨q1, q2, q3, q4, q5⟩ := id qB
      refine z_iloadn 3 hC 3 dX1_letHoursGoBy_2 rfl rfl rfl ?_
      refine z_iloadn 4 hC 2 dX1_letHoursGoBy_3 rfl rfl rfl ?_
      refine z_icmp_ge 33 7 hC dX1_letHoursGoBy_4 (by decide) rfl (by omega) (by omega) (fun c_1 => ?_) (fun c_1 => ?_)
      · skip
        obtain rfl : n = i := by omega
        refine z_weq (ws' := (wLe g x b sh tr td bu sr lg tm hr en) ++ ((wSh g h a (ssS (hrs td hr S n)) (ssF (hrs td hr S n)) (ssW (hrs td hr S n)) (ssO (hrs td hr S n)) (ssP (hrs td hr S n)) (ssT (hrs td hr S n)) (ssLo (hrs td hr S n)) (ssSl (hrs td hr S n)) (ssFa (hrs td hr S n))))) (zEq.cons zE1.rf (zEq.cons zE1.rf (zEq.cons zE1.rf (zEq.cons zE1.rf (zEq.cons zE1.rf (zEq.cons (zE1.obj (zfk (zfk (zfk (zfk (zfk (zfk (zfc (by first | rfl | (rw [hrs_s td hr S hi.1]; rfl)) (zfc (by first | rfl | (rw [hrs_s td hr S hi.1]; rfl)) (zfc (by first | rfl | (rw [hrs_s td hr S hi.1]; rfl)) rfl)))))))))) (zEq.cons (zE1.arr (by first | (intro j h0 h1; rfl) | (intro j h0 h1; first | rfl | omega))) (zEq.cons (zE1.arr (by first | (intro j h0 h1; rfl) | (intro j h0 h1; first | rfl | omega))) (zEq.cons (zE1.arr (by first | (intro j h0 h1; rfl) | (intro j h0 h1; first | rfl | omega))) (zEq.cons (zE1.arr (by first | (intro j h0 h1; rfl) | (intro j h0 h1; first | rfl | omega))) (zEq.cons (zE1.arr (by first | (intro j h0 h1; rfl) | (intro j h0 h1; first | rfl | omega))) (zEq.cons (zE1.arr (by first | (intro j h0 h1; rfl) | (intro j h0 h1; first | rfl | omega))) zEq.nil)))))))))))) ?_
        exact hret () dX1_letHoursGoBy_33 (by trivial)
      · skip
        refine z_aloadn 8 hC 1 dX1_letHoursGoBy_7 rfl rfl rfl ?_
        refine z_aloadn 9 hC 0 dX1_letHoursGoBy_8 rfl rfl rfl ?_
        refine z_get 12 0 2 hC hinX1 L28 dX1_letHoursGoBy_9 rfl rfl rfl (by decide) rfl ?_
        refine z_aloadn 13 hC 0 dX1_letHoursGoBy_12 rfl rfl rfl ?_
        refine z_get 16 0 7 hC hinX1 L131 dX1_letHoursGoBy_13 rfl rfl rfl (by decide) rfl ?_
        refine z_iloadn 17 hC 3 dX1_letHoursGoBy_16 rfl rfl rfl ?_
        refine z_iadd 18 hC dX1_letHoursGoBy_17 rfl ?_
        refine z_bipush 20 hC dX1_letHoursGoBy_18 (by decide) rfl ?_
        refine z_calli (wr := [(x, .inr (1, [.ref sh, .ref tr, .ref (b 0), .ref (b 1), .ref (b 2), .ref (b 3), .int (iI tm), .int (iI hr), .int (iI en)])), ((b 0), ar g 12 td), ((b 1), ar g 4 bu), ((b 2), ar g 4 sr), ((b 3), ar g 4 lg), (h, .inr (0, [.ref (a 0), .ref (a 1), .ref (a 2), .ref (a 3), .ref (a 4), .ref (a 5), .int (iI (ssLo (hrs td hr S i))), .int (iI (ssSl (hrs td hr S i))), .int (iI (ssFa (hrs td hr S i)))])), ((a 0), ar g 120 (ssS (hrs td hr S i))), ((a 1), ar g 120 (ssF (hrs td hr S i))), ((a 2), ar g 120 (ssW (hrs td hr S i))), ((a 3), ar g 120 (ssO (hrs td hr S i))), ((a 4), ar g 120 (ssP (hrs td hr S i))), ((a 5), ar g 120 (ssT (hrs td hr S i)))]) (w2 := fun _ => (wLe g x b sh tr td bu sr lg tm hr en) ++ ((wSh g h a (ssS (hrs td hr S i)) (ssF (hrs td hr S i)) (ssW (hrs td hr S i)) (ssO (hrs td hr S i)) (ssP (hrs td hr S i)) (ssT (hrs td hr S i)) (ssLo (hrs td hr S i)) (ssSl (hrs td hr S i)) (ssFa (hrs td hr S i))))) 23 hC [] [0, 1, 2, 3, 4, 5, 6, 7, 8, 9, 10, 11] [0, 1, 2, 3, 4, 5, 6, 7, 8, 9, 10, 11] (z_runS (nA := 2) hC hN (c_J9_floorMod_7cf53 l D g (hr + i) 12 (by omega) (by omega)) [] rfl (by decide) gX1_letHoursGoBy_J9_floorMod_7cf53 (by decide +kernel) rfl rfl rfl ⟨by decide, by decide⟩ rfl rfl (nle rfl) dX1_letHoursGoBy_20 ⟨by decide, by decide⟩) rfl rfl (by decide) (by decide) (fun _ => rfl) (by decide) rfl (k2 := 0) (n2 := 0) rfl rfl (fun z_2 _ p_3 => ?_)
        subst p_3
        refine z_iald 24 1 hC dX1_letHoursGoBy_23 rfl rfl (by decide) (by omega) ?_
        have b_4 := htd ((hr + i) % 12) (by omega) (by omega)
        refine z_callv (wr := [(x, .inr (1, [.ref sh, .ref tr, .ref (b 0), .ref (b 1), .ref (b 2), .ref (b 3), .int (iI tm), .int (iI hr), .int (iI en)])), ((b 0), ar g 12 td), ((b 1), ar g 4 bu), ((b 2), ar g 4 sr), ((b 3), ar g 4 lg)]) (w2 := fun _ => (wLe g x b sh tr td bu sr lg tm hr en) ++ ((wSh g h a (hS (ssS (hrs td hr S i)) (ssF (hrs td hr S i)) (td ((hr + i) % 12))) (hF (ssS (hrs td hr S i)) (ssF (hrs td hr S i)) (td ((hr + i) % 12))) (wet (ssS (hrs td hr S i)) (td ((hr + i) % 12))) (hO (ssS (hrs td hr S i)) (ssF (hrs td hr S i)) (ssO (hrs td hr S i)) (ssP (hrs td hr S i)) (td ((hr + i) % 12))) (hP (ssS (hrs td hr S i)) (ssF (hrs td hr S i)) (ssO (hrs td hr S i)) (ssP (hrs td hr S i)) (td ((hr + i) % 12))) (hT (ssS (hrs td hr S i)) (ssF (hrs td hr S i)) (ssO (hrs td hr S i)) (ssP (hrs td hr S i)) (ssT (hrs td hr S i)) (td ((hr + i) % 12))) ((ssLo (hrs td hr S i)) + hLo (ssS (hrs td hr S i)) (ssF (hrs td hr S i)) (td ((hr + i) % 12))) (hSl (ssS (hrs td hr S i)) (ssF (hrs td hr S i)) (td ((hr + i) % 12))) ((ssFa (hrs td hr S i)) + hFa (ssS (hrs td hr S i)) (ssF (hrs td hr S i)) (ssO (hrs td hr S i)) (ssP (hrs td hr S i)) (td ((hr + i) % 12)))))) 27 hC [5, 6, 7, 8, 9, 10, 11] [0, 1, 2, 3, 4] [0, 1, 2, 3, 4, 5, 6, 7, 8, 9, 10, 11] (z_runV (nA := 1) hC hN (c_X0_letHourGoBy l D g h a (ssS (hrs td hr S i)) (ssF (hrs td hr S i)) (ssW (hrs td hr S i)) (ssO (hrs td hr S i)) (ssP (hrs td hr S i)) (ssT (hrs td hr S i)) (ssLo (hrs td hr S i)) (ssSl (hrs td hr S i)) (ssFa (hrs td hr S i)) (td ((hr + i) % 12)) q1 q2 q4 q5 (by omega)) [5, 6, 7, 8, 9, 10, 11] rfl (by decide) gX1_letHoursGoBy_X0_letHourGoBy (by decide +kernel) rfl rfl rfl ⟨by decide, by decide⟩ rfl rfl (nle rfl) dX1_letHoursGoBy_24 ⟨by decide, by decide⟩ 5 rfl rfl) rfl rfl (by decide) (by decide) (fun _ => rfl) (by decide) rfl (k2 := 0) (n2 := 0) rfl rfl (fun _ p_5 => ?_)
        refine z_iinc (lv' := [(3, .int (iI (i + 1))), (0, .ref x), (1, .ref h), (2, .int (iI n))]) 30 3 hC dX1_letHoursGoBy_27 rfl rfl (by decide) rfl ?_
        refine z_goto 2 hC dX1_letHoursGoBy_30 (by decide) ?_
        refine z_lv (lv' := [(0, .ref x), (1, .ref h), (2, .int (iI n)), (3, .int (iI (i + 1)))]) [1, 2, 3, 0] rfl ?_
        refine z_weq (ws' := (wLe g x b sh tr td bu sr lg tm hr en) ++ ((wSh g h a (ssS (hrs td hr S (i + 1))) (ssF (hrs td hr S (i + 1))) (ssW (hrs td hr S (i + 1))) (ssO (hrs td hr S (i + 1))) (ssP (hrs td hr S (i + 1))) (ssT (hrs td hr S (i + 1))) (ssLo (hrs td hr S (i + 1))) (ssSl (hrs td hr S (i + 1))) (ssFa (hrs td hr S (i + 1)))))) (zEq.cons zE1.rf (zEq.cons zE1.rf (zEq.cons zE1.rf (zEq.cons zE1.rf (zEq.cons zE1.rf (zEq.cons (zE1.obj (zfk (zfk (zfk (zfk (zfk (zfk (zfc (by first | rfl | (rw [hrs_s td hr S hi.1]; rfl)) (zfc (by first | rfl | (rw [hrs_s td hr S hi.1]; rfl)) (zfc (by first | rfl | (rw [hrs_s td hr S hi.1]; rfl)) rfl)))))))))) (zEq.cons (zE1.arr (by first | (intro j h0 h1; rfl) | (intro j h0 h1; rw [hrs_s td hr S hi.1]; rfl))) (zEq.cons (zE1.arr (by first | (intro j h0 h1; rfl) | (intro j h0 h1; rw [hrs_s td hr S hi.1]; rfl))) (zEq.cons (zE1.arr (by first | (intro j h0 h1; rfl) | (intro j h0 h1; rw [hrs_s td hr S hi.1]; rfl))) (zEq.cons (zE1.arr (by first | (intro j h0 h1; rfl) | (intro j h0 h1; rw [hrs_s td hr S hi.1]; rfl))) (zEq.cons (zE1.arr (by first | (intro j h0 h1; rfl) | (intro j h0 h1; rw [hrs_s td hr S hi.1]; rfl))) (zEq.cons (zE1.arr (by first | (intro j h0 h1; rfl) | (intro j h0 h1; rw [hrs_s td hr S hi.1]; rfl))) zEq.nil)))))))))))) ?_
        exact ih2 (i + 1) (by omega) (by omega)
  refine z_lv (lv' := [(0, .ref x), (1, .ref h), (2, .int (iI n)), (3, .int (iI 0))]) [1, 2, 3, 0] rfl ?_
  refine z_weq (ws' := (wLe g x b sh tr td bu sr lg tm hr en) ++ ((wSh g h a (ssS (hrs td hr S 0)) (ssF (hrs td hr S 0)) (ssW (hrs td hr S 0)) (ssO (hrs td hr S 0)) (ssP (hrs td hr S 0)) (ssT (hrs td hr S 0)) (ssLo (hrs td hr S 0)) (ssSl (hrs td hr S 0)) (ssFa (hrs td hr S 0))))) (zEq.cons zE1.rf (zEq.cons zE1.rf (zEq.cons zE1.rf (zEq.cons zE1.rf (zEq.cons zE1.rf (zEq.cons (zE1.obj (zfk (zfk (zfk (zfk (zfk (zfk (zfc (by first | rfl | (rw [hrs_s td hr S hi.1]; rfl)) (zfc (by first | rfl | (rw [hrs_s td hr S hi.1]; rfl)) (zfc (by first | rfl | (rw [hrs_s td hr S hi.1]; rfl)) rfl)))))))))) (zEq.cons (zE1.arr (by first | (intro j h0 h1; rfl) | (intro j h0 h1; first | rfl | omega))) (zEq.cons (zE1.arr (by first | (intro j h0 h1; rfl) | (intro j h0 h1; first | rfl | omega))) (zEq.cons (zE1.arr (by first | (intro j h0 h1; rfl) | (intro j h0 h1; first | rfl | omega))) (zEq.cons (zE1.arr (by first | (intro j h0 h1; rfl) | (intro j h0 h1; first | rfl | omega))) (zEq.cons (zE1.arr (by first | (intro j h0 h1; rfl) | (intro j h0 h1; first | rfl | omega))) (zEq.cons (zE1.arr (by first | (intro j h0 h1; rfl) | (intro j h0 h1; first | rfl | omega))) zEq.nil)))))))))))) ?_
  exact loop2 ((n - 0 + 1 : Int).toNat) 0 (by omega) (by omega)
set_option maxHeartbeats 4000000 in
set_option maxRecDepth 100000 in
theorem c_X1_teamsWithFewerPoints (l : Launch) (D : va_G) (g : Nat → ClassId) (x : Nat) (b : Nat → Nat) (h tr : Nat) (a : Nat → Nat) (td bu sr lg : Int → Int) (tm hr en : Int) (S : SS) (k : Int) (hlg : Bd lg 4 0 2000000) (htm : 0 ≤ tm ∧ tm ≤ 4) (hT : Bd (ssT S) 120 0 1000000000) (hk : 0 ≤ k ∧ k < tm) : ZMi (S := Unit) l yX1_teamsWithFewerPoints wsX1_teamsWithFewerPoints ({ frames := 1, cells := 0, slots := 0, locals := 60 }) D g [.ref x, .int (iI k)] ((wLe g x b h tr td bu sr lg tm hr en) ++ ((wSh g h a (ssS S) (ssF S) (ssW S) (ssO S) (ssP S) (ssT S) (ssLo S) (ssSl S) (ssFa S)))) (fun z _ => z = fwI' (ssT S) k tm) (fun _ => (wLe g x b h tr td bu sr lg tm hr en) ++ ((wSh g h a (ssS S) (ssF S) (ssW S) (ssO S) (ssP S) (ssT S) (ssLo S) (ssSl S) (ssFa S)))) 0 0 := by
  have hinX1 : ∀ w ∈ u_ws RX1 TX1 9, w ∈ wsX1_teamsWithFewerPoints := by decide +kernel
  have L10 : Cond.fieldLink RX1 10 "SandcastleLeague" "shore" "LSandcastleLeague$Shore;" ∈ wsX1_teamsWithFewerPoints := by decide +kernel
  have L43 : Cond.fieldLink RX1 43 "SandcastleLeague" "teams" "I" ∈ wsX1_teamsWithFewerPoints := by decide +kernel
  refine ZMi.of (own := RX1) cX1_teamsWithFewerPoints 4 [(0, .ref x), (1, .int (iI k))] (by decide +kernel) rfl (nle rfl) rfl rfl ?_
  intro E hC hN hret
  refine z_iconst 1 hC dX1_teamsWithFewerPoints_0 rfl ?_
  refine z_istoren (lv' := [(2, .int (iI 0)), (0, .ref x), (1, .int (iI k))]) 2 hC dX1_teamsWithFewerPoints_1 rfl rfl (by decide) rfl ?_
  refine z_iconst 3 hC dX1_teamsWithFewerPoints_2 rfl ?_
  refine z_istoren (lv' := [(3, .int (iI 0)), (2, .int (iI 0)), (0, .ref x), (1, .int (iI k))]) 4 hC dX1_teamsWithFewerPoints_3 rfl rfl (by decide) rfl ?_
  have loop4 : ∀ (N4 : Nat) (i : Int), 0 ≤ i ∧ i ≤ tm → (tm - i : Int) < N4 → Z E ((wLe g x b h tr td bu sr lg tm hr en) ++ ((wSh g h a (ssS S) (ssF S) (ssW S) (ssO S) (ssP S) (ssT S) (ssLo S) (ssSl S) (ssFa S)))) [(0, .ref x), (1, .int (iI k)), (2, .int (iI (sumI (fun j => if ssT S j < ssT S k then 1 else 0) i))), (3, .int (iI i))] 0 0 4 [] := by
    intro N4
    induction N4 with
    | zero => intro i hi hm4; exact absurd hm4 (by omega)
    | succ N4 ih4 =>
      intro i hi hm4
      refine z_iloadn 5 hC 3 dX1_teamsWithFewerPoints_4 rfl rfl rfl ?_
      refine z_aloadn 6 hC 0 dX1_teamsWithFewerPoints_5 rfl rfl rfl ?_
      refine z_get 9 0 6 hC hinX1 L43 dX1_teamsWithFewerPoints_6 rfl rfl rfl (by decide) rfl ?_
      refine z_icmp_ge 40 12 hC dX1_teamsWithFewerPoints_9 (by decide) rfl (by omega) (by omega) (fun c_1 => ?_) (fun c_1 => ?_)
      · skip
        obtain rfl : tm = i := by omega
        refine z_iloadn 41 hC 2 dX1_teamsWithFewerPoints_40 rfl rfl rfl ?_
        exact hret () dX1_teamsWithFewerPoints_41 rfl (by rfl)
      · skip
        have b1 := hT i (by omega) (by omega)
        have b2 := hT k (by omega) (by omega)
        refine z_aloadn 13 hC 0 dX1_teamsWithFewerPoints_12 rfl rfl rfl ?_
        refine z_get 16 0 0 hC hinX1 L10 dX1_teamsWithFewerPoints_13 rfl rfl rfl (by decide) rfl ?_
        refine z_iloadn 17 hC 3 dX1_teamsWithFewerPoints_16 rfl rfl rfl ?_
        refine z_calli (wr := [(x, .inr (1, [.ref h, .ref tr, .ref (b 0), .ref (b 1), .ref (b 2), .ref (b 3), .int (iI tm), .int (iI hr), .int (iI en)])), ((b 0), ar g 12 td), ((b 1), ar g 4 bu), ((b 2), ar g 4 sr), ((b 3), ar g 4 lg)]) (w2 := fun _ => (wLe g x b h tr td bu sr lg tm hr en) ++ ((wSh g h a (ssS S) (ssF S) (ssW S) (ssO S) (ssP S) (ssT S) (ssLo S) (ssSl S) (ssFa S)))) 20 hC [5, 6, 7, 8, 9, 10, 11] [0, 1, 2, 3, 4] [0, 1, 2, 3, 4, 5, 6, 7, 8, 9, 10, 11] (z_runV (nA := 1) hC hN (c_X0_pointsOf l D g h a (ssS S) (ssF S) (ssW S) (ssO S) (ssP S) (ssT S) (ssLo S) (ssSl S) (ssFa S) i (by omega)) [5, 6, 7, 8, 9, 10, 11] rfl (by decide) gX1_teamsWithFewerPoints_X0_pointsOf (by decide +kernel) rfl rfl rfl ⟨by decide, by decide⟩ rfl rfl (nle rfl) dX1_teamsWithFewerPoints_17 ⟨by decide, by decide⟩ 5 rfl rfl) rfl rfl (by decide) (by decide) (fun _ => rfl) (by decide) rfl (k2 := 0) (n2 := 0) rfl rfl (fun z_2 _ p_3 => ?_)
        subst p_3
        refine z_aloadn 21 hC 0 dX1_teamsWithFewerPoints_20 rfl rfl rfl ?_
        refine z_get 24 0 0 hC hinX1 L10 dX1_teamsWithFewerPoints_21 rfl rfl rfl (by decide) rfl ?_
        refine z_iloadn 25 hC 1 dX1_teamsWithFewerPoints_24 rfl rfl rfl ?_
        refine z_calli (wr := [(x, .inr (1, [.ref h, .ref tr, .ref (b 0), .ref (b 1), .ref (b 2), .ref (b 3), .int (iI tm), .int (iI hr), .int (iI en)])), ((b 0), ar g 12 td), ((b 1), ar g 4 bu), ((b 2), ar g 4 sr), ((b 3), ar g 4 lg)]) (w2 := fun _ => (wLe g x b h tr td bu sr lg tm hr en) ++ ((wSh g h a (ssS S) (ssF S) (ssW S) (ssO S) (ssP S) (ssT S) (ssLo S) (ssSl S) (ssFa S)))) 28 hC [5, 6, 7, 8, 9, 10, 11] [0, 1, 2, 3, 4] [0, 1, 2, 3, 4, 5, 6, 7, 8, 9, 10, 11] (z_runV (nA := 1) hC hN (c_X0_pointsOf l D g h a (ssS S) (ssF S) (ssW S) (ssO S) (ssP S) (ssT S) (ssLo S) (ssSl S) (ssFa S) k (by omega)) [5, 6, 7, 8, 9, 10, 11] rfl (by decide) gX1_teamsWithFewerPoints_X0_pointsOf (by decide +kernel) rfl rfl rfl ⟨by decide, by decide⟩ rfl rfl (nle rfl) dX1_teamsWithFewerPoints_25 ⟨by decide, by decide⟩ 5 rfl rfl) rfl rfl (by decide) (by decide) (fun _ => rfl) (by decide) rfl (k2 := 0) (n2 := 0) rfl rfl (fun z_4 _ p_5 => ?_)
        subst p_5
        refine z_icmp_ge 34 31 hC dX1_teamsWithFewerPoints_28 (by decide) rfl (by omega) (by omega) (fun c_6 => ?_) (fun c_6 => ?_)
        · skip
          refine z_iinc (lv' := [(3, .int (iI (i + 1))), (0, .ref x), (1, .int (iI k)), (2, .int (iI (sumI (fun j => if ssT S j < ssT S k then 1 else 0) i)))]) 37 3 hC dX1_teamsWithFewerPoints_34 rfl rfl (by decide) rfl ?_
          refine z_goto 4 hC dX1_teamsWithFewerPoints_37 (by decide) ?_
          refine z_lv (lv' := [(0, .ref x), (1, .int (iI k)), (2, .int (iI (sumI (fun j => if ssT S j < ssT S k then 1 else 0) i))), (3, .int (iI (i + 1)))]) [1, 2, 3, 0] rfl ?_
          refine z_lveq (lv' := [(0, .ref x), (1, .int (iI k)), (2, .int (iI (sumI (fun j => if ssT S j < ssT S k then 1 else 0) (i + 1)))), (3, .int (iI (i + 1)))]) (zfk (zfk (zlc (by first | exact sumI_n (by omega) (if_neg (by omega)) | exact sumI_y (by omega) (if_pos (by omega)).symm) (zfk rfl)))) ?_
          exact ih4 (i + 1) (by omega) (by omega)
        · skip
          refine z_iinc (lv' := [(2, .int (iI ((sumI (fun j => if ssT S j < ssT S k then 1 else 0) i) + 1))), (0, .ref x), (1, .int (iI k)), (3, .int (iI i))]) 34 2 hC dX1_teamsWithFewerPoints_31 rfl rfl (by decide) rfl ?_
          refine z_iinc (lv' := [(3, .int (iI (i + 1))), (2, .int (iI ((sumI (fun j => if ssT S j < ssT S k then 1 else 0) i) + 1))), (0, .ref x), (1, .int (iI k))]) 37 3 hC dX1_teamsWithFewerPoints_34 rfl rfl (by decide) rfl ?_
          refine z_goto 4 hC dX1_teamsWithFewerPoints_37 (by decide) ?_
          refine z_lv (lv' := [(0, .ref x), (1, .int (iI k)), (2, .int (iI ((sumI (fun j => if ssT S j < ssT S k then 1 else 0) i) + 1))), (3, .int (iI (i + 1)))]) [2, 3, 1, 0] rfl ?_
          refine z_lveq (lv' := [(0, .ref x), (1, .int (iI k)), (2, .int (iI (sumI (fun j => if ssT S j < ssT S k then 1 else 0) (i + 1)))), (3, .int (iI (i + 1)))]) (zfk (zfk (zlc (by first | exact sumI_n (by omega) (if_neg (by omega)) | exact sumI_y (by omega) (if_pos (by omega)).symm) (zfk rfl)))) ?_
          exact ih4 (i + 1) (by omega) (by omega)
  refine z_lv (lv' := [(0, .ref x), (1, .int (iI k)), (2, .int (iI 0)), (3, .int (iI 0))]) [2, 3, 1, 0] rfl ?_
  refine z_lveq (lv' := [(0, .ref x), (1, .int (iI k)), (2, .int (iI (sumI (fun j => if ssT S j < ssT S k then 1 else 0) 0))), (3, .int (iI 0))]) (zfk (zfk (zlc (by rfl) (zfk rfl)))) ?_
  exact loop4 ((tm - 0 + 1 : Int).toNat) 0 (by omega) (by omega)
set_option maxHeartbeats 4000000 in
set_option maxRecDepth 100000 in
theorem c_X1_isAhead (l : Launch) (D : va_G) (g : Nat → ClassId) (x : Nat) (b : Nat → Nat) (h tr : Nat) (a : Nat → Nat) (td bu sr lg : Int → Int) (tm hr en : Int) (S : SS) (i : Int) (k : Int) (hlg : Bd lg 4 0 2000000) (htm : 0 ≤ tm ∧ tm ≤ 4) (hT : Bd (ssT S) 120 0 1000000000) (hi : 0 ≤ i ∧ i < tm) (hk : 0 ≤ k ∧ k < tm) : ZMi (S := Unit) l yX1_isAhead wsX1_isAhead ({ frames := 1, cells := 0, slots := 0, locals := 60 }) D g [.ref x, .int (iI i), .int (iI k)] ((wLe g x b h tr td bu sr lg tm hr en) ++ ((wSh g h a (ssS S) (ssF S) (ssW S) (ssO S) (ssP S) (ssT S) (ssLo S) (ssSl S) (ssFa S)))) (fun z _ => z = ahI lg (ssT S) i k) (fun _ => (wLe g x b h tr td bu sr lg tm hr en) ++ ((wSh g h a (ssS S) (ssF S) (ssW S) (ssO S) (ssP S) (ssT S) (ssLo S) (ssSl S) (ssFa S)))) 0 0 := by
  have hinX1 : ∀ w ∈ u_ws RX1 TX1 9, w ∈ wsX1_isAhead := by decide +kernel
  have L10 : Cond.fieldLink RX1 10 "SandcastleLeague" "shore" "LSandcastleLeague$Shore;" ∈ wsX1_isAhead := by decide +kernel
  have L37 : Cond.fieldLink RX1 37 "SandcastleLeague" "leaguePoints" "[I" ∈ wsX1_isAhead := by decide +kernel
  refine ZMi.of (own := RX1) cX1_isAhead 3 [(0, .ref x), (1, .int (iI i)), (2, .int (iI k))] (by decide +kernel) rfl (nle rfl) rfl rfl ?_
  intro E hC hN hret
  have b1 := hT i (by omega) (by omega)
  have b2 := hT k (by omega) (by omega)
  refine z_aloadn 1 hC 0 dX1_isAhead_0 rfl rfl rfl ?_
  refine z_get 4 0 5 hC hinX1 L37 dX1_isAhead_1 rfl rfl rfl (by decide) rfl ?_
  refine z_iloadn 5 hC 1 dX1_isAhead_4 rfl rfl rfl ?_
  refine z_iald 6 4 hC dX1_isAhead_5 rfl rfl (by decide) (by omega) ?_
  have b_1 := hlg i (by omega) (by omega)
  refine z_aloadn 7 hC 0 dX1_isAhead_6 rfl rfl rfl ?_
  refine z_get 10 0 5 hC hinX1 L37 dX1_isAhead_7 rfl rfl rfl (by decide) rfl ?_
  refine z_iloadn 11 hC 2 dX1_isAhead_10 rfl rfl rfl ?_
  refine z_iald 12 4 hC dX1_isAhead_11 rfl rfl (by decide) (by omega) ?_
  have b_2 := hlg k (by omega) (by omega)
  refine z_icmp_eq 36 15 hC dX1_isAhead_12 (by decide) rfl (by omega) (by omega) (fun c_3 => ?_) (fun c_3 => ?_)
  · skip
    refine z_aloadn 37 hC 0 dX1_isAhead_36 rfl rfl rfl ?_
    refine z_get 40 0 0 hC hinX1 L10 dX1_isAhead_37 rfl rfl rfl (by decide) rfl ?_
    refine z_iloadn 41 hC 1 dX1_isAhead_40 rfl rfl rfl ?_
    refine z_calli (wr := [(x, .inr (1, [.ref h, .ref tr, .ref (b 0), .ref (b 1), .ref (b 2), .ref (b 3), .int (iI tm), .int (iI hr), .int (iI en)])), ((b 0), ar g 12 td), ((b 1), ar g 4 bu), ((b 2), ar g 4 sr), ((b 3), ar g 4 lg)]) (w2 := fun _ => (wLe g x b h tr td bu sr lg tm hr en) ++ ((wSh g h a (ssS S) (ssF S) (ssW S) (ssO S) (ssP S) (ssT S) (ssLo S) (ssSl S) (ssFa S)))) 44 hC [5, 6, 7, 8, 9, 10, 11] [0, 1, 2, 3, 4] [0, 1, 2, 3, 4, 5, 6, 7, 8, 9, 10, 11] (z_runV (nA := 1) hC hN (c_X0_pointsOf l D g h a (ssS S) (ssF S) (ssW S) (ssO S) (ssP S) (ssT S) (ssLo S) (ssSl S) (ssFa S) i (by omega)) [5, 6, 7, 8, 9, 10, 11] rfl (by decide) gX1_isAhead_X0_pointsOf (by decide +kernel) rfl rfl rfl ⟨by decide, by decide⟩ rfl rfl (nle rfl) dX1_isAhead_41 ⟨by decide, by decide⟩ 5 rfl rfl) rfl rfl (by decide) (by decide) (fun _ => rfl) (by decide) rfl (k2 := 0) (n2 := 0) rfl rfl (fun z_4 _ p_5 => ?_)
    subst p_5
    refine z_aloadn 45 hC 0 dX1_isAhead_44 rfl rfl rfl ?_
    refine z_get 48 0 0 hC hinX1 L10 dX1_isAhead_45 rfl rfl rfl (by decide) rfl ?_
    refine z_iloadn 49 hC 2 dX1_isAhead_48 rfl rfl rfl ?_
    refine z_calli (wr := [(x, .inr (1, [.ref h, .ref tr, .ref (b 0), .ref (b 1), .ref (b 2), .ref (b 3), .int (iI tm), .int (iI hr), .int (iI en)])), ((b 0), ar g 12 td), ((b 1), ar g 4 bu), ((b 2), ar g 4 sr), ((b 3), ar g 4 lg)]) (w2 := fun _ => (wLe g x b h tr td bu sr lg tm hr en) ++ ((wSh g h a (ssS S) (ssF S) (ssW S) (ssO S) (ssP S) (ssT S) (ssLo S) (ssSl S) (ssFa S)))) 52 hC [5, 6, 7, 8, 9, 10, 11] [0, 1, 2, 3, 4] [0, 1, 2, 3, 4, 5, 6, 7, 8, 9, 10, 11] (z_runV (nA := 1) hC hN (c_X0_pointsOf l D g h a (ssS S) (ssF S) (ssW S) (ssO S) (ssP S) (ssT S) (ssLo S) (ssSl S) (ssFa S) k (by omega)) [5, 6, 7, 8, 9, 10, 11] rfl (by decide) gX1_isAhead_X0_pointsOf (by decide +kernel) rfl rfl rfl ⟨by decide, by decide⟩ rfl rfl (nle rfl) dX1_isAhead_49 ⟨by decide, by decide⟩ 5 rfl rfl) rfl rfl (by decide) (by decide) (fun _ => rfl) (by decide) rfl (k2 := 0) (n2 := 0) rfl rfl (fun z_6 _ p_7 => ?_)
    subst p_7
    refine z_icmp_eq 80 55 hC dX1_isAhead_52 (by decide) rfl (by omega) (by omega) (fun c_8 => ?_) (fun c_8 => ?_)
    · skip
      refine z_iloadn 81 hC 1 dX1_isAhead_80 rfl rfl rfl ?_
      refine z_iloadn 82 hC 2 dX1_isAhead_81 rfl rfl rfl ?_
      refine z_icmp_ge 89 85 hC dX1_isAhead_82 (by decide) rfl (by omega) (by omega) (fun c_9 => ?_) (fun c_9 => ?_)
      · skip
        refine z_iconst 90 hC dX1_isAhead_89 rfl ?_
        exact hret () dX1_isAhead_90 (by decide) (by unfold ahI; omega)
      · skip
        refine z_iconst 86 hC dX1_isAhead_85 rfl ?_
        refine z_goto 90 hC dX1_isAhead_86 (by decide) ?_
        exact hret () dX1_isAhead_90 (by decide) (by unfold ahI; omega)
    · skip
      refine z_aloadn 56 hC 0 dX1_isAhead_55 rfl rfl rfl ?_
      refine z_get 59 0 0 hC hinX1 L10 dX1_isAhead_56 rfl rfl rfl (by decide) rfl ?_
      refine z_iloadn 60 hC 1 dX1_isAhead_59 rfl rfl rfl ?_
      refine z_calli (wr := [(x, .inr (1, [.ref h, .ref tr, .ref (b 0), .ref (b 1), .ref (b 2), .ref (b 3), .int (iI tm), .int (iI hr), .int (iI en)])), ((b 0), ar g 12 td), ((b 1), ar g 4 bu), ((b 2), ar g 4 sr), ((b 3), ar g 4 lg)]) (w2 := fun _ => (wLe g x b h tr td bu sr lg tm hr en) ++ ((wSh g h a (ssS S) (ssF S) (ssW S) (ssO S) (ssP S) (ssT S) (ssLo S) (ssSl S) (ssFa S)))) 63 hC [5, 6, 7, 8, 9, 10, 11] [0, 1, 2, 3, 4] [0, 1, 2, 3, 4, 5, 6, 7, 8, 9, 10, 11] (z_runV (nA := 1) hC hN (c_X0_pointsOf l D g h a (ssS S) (ssF S) (ssW S) (ssO S) (ssP S) (ssT S) (ssLo S) (ssSl S) (ssFa S) i (by omega)) [5, 6, 7, 8, 9, 10, 11] rfl (by decide) gX1_isAhead_X0_pointsOf (by decide +kernel) rfl rfl rfl ⟨by decide, by decide⟩ rfl rfl (nle rfl) dX1_isAhead_60 ⟨by decide, by decide⟩ 5 rfl rfl) rfl rfl (by decide) (by decide) (fun _ => rfl) (by decide) rfl (k2 := 0) (n2 := 0) rfl rfl (fun z_10 _ p_11 => ?_)
      subst p_11
      refine z_aloadn 64 hC 0 dX1_isAhead_63 rfl rfl rfl ?_
      refine z_get 67 0 0 hC hinX1 L10 dX1_isAhead_64 rfl rfl rfl (by decide) rfl ?_
      refine z_iloadn 68 hC 2 dX1_isAhead_67 rfl rfl rfl ?_
      refine z_calli (wr := [(x, .inr (1, [.ref h, .ref tr, .ref (b 0), .ref (b 1), .ref (b 2), .ref (b 3), .int (iI tm), .int (iI hr), .int (iI en)])), ((b 0), ar g 12 td), ((b 1), ar g 4 bu), ((b 2), ar g 4 sr), ((b 3), ar g 4 lg)]) (w2 := fun _ => (wLe g x b h tr td bu sr lg tm hr en) ++ ((wSh g h a (ssS S) (ssF S) (ssW S) (ssO S) (ssP S) (ssT S) (ssLo S) (ssSl S) (ssFa S)))) 71 hC [5, 6, 7, 8, 9, 10, 11] [0, 1, 2, 3, 4] [0, 1, 2, 3, 4, 5, 6, 7, 8, 9, 10, 11] (z_runV (nA := 1) hC hN (c_X0_pointsOf l D g h a (ssS S) (ssF S) (ssW S) (ssO S) (ssP S) (ssT S) (ssLo S) (ssSl S) (ssFa S) k (by omega)) [5, 6, 7, 8, 9, 10, 11] rfl (by decide) gX1_isAhead_X0_pointsOf (by decide +kernel) rfl rfl rfl ⟨by decide, by decide⟩ rfl rfl (nle rfl) dX1_isAhead_68 ⟨by decide, by decide⟩ 5 rfl rfl) rfl rfl (by decide) (by decide) (fun _ => rfl) (by decide) rfl (k2 := 0) (n2 := 0) rfl rfl (fun z_12 _ p_13 => ?_)
      subst p_13
      refine z_icmp_le 78 74 hC dX1_isAhead_71 (by decide) rfl (by omega) (by omega) (fun c_14 => ?_) (fun c_14 => ?_)
      · skip
        refine z_iconst 79 hC dX1_isAhead_78 rfl ?_
        exact hret () dX1_isAhead_79 (by decide) (by unfold ahI; omega)
      · skip
        refine z_iconst 75 hC dX1_isAhead_74 rfl ?_
        refine z_goto 79 hC dX1_isAhead_75 (by decide) ?_
        exact hret () dX1_isAhead_79 (by decide) (by unfold ahI; omega)
  · skip
    refine z_aloadn 16 hC 0 dX1_isAhead_15 rfl rfl rfl ?_
    refine z_get 19 0 5 hC hinX1 L37 dX1_isAhead_16 rfl rfl rfl (by decide) rfl ?_
    refine z_iloadn 20 hC 1 dX1_isAhead_19 rfl rfl rfl ?_
    refine z_iald 21 4 hC dX1_isAhead_20 rfl rfl (by decide) (by omega) ?_
    have b_15 := hlg i (by omega) (by omega)
    refine z_aloadn 22 hC 0 dX1_isAhead_21 rfl rfl rfl ?_
    refine z_get 25 0 5 hC hinX1 L37 dX1_isAhead_22 rfl rfl rfl (by decide) rfl ?_
    refine z_iloadn 26 hC 2 dX1_isAhead_25 rfl rfl rfl ?_
    refine z_iald 27 4 hC dX1_isAhead_26 rfl rfl (by decide) (by omega) ?_
    have b_16 := hlg k (by omega) (by omega)
    refine z_icmp_le 34 30 hC dX1_isAhead_27 (by decide) rfl (by omega) (by omega) (fun c_17 => ?_) (fun c_17 => ?_)
    · skip
      refine z_iconst 35 hC dX1_isAhead_34 rfl ?_
      exact hret () dX1_isAhead_35 (by decide) (by unfold ahI; omega)
    · skip
      refine z_iconst 31 hC dX1_isAhead_30 rfl ?_
      refine z_goto 35 hC dX1_isAhead_31 (by decide) ?_
      exact hret () dX1_isAhead_35 (by decide) (by unfold ahI; omega)
set_option maxHeartbeats 4000000 in
set_option maxRecDepth 100000 in
theorem c_X1_teamsAheadOf (l : Launch) (D : va_G) (g : Nat → ClassId) (x : Nat) (b : Nat → Nat) (h tr : Nat) (a : Nat → Nat) (td bu sr lg : Int → Int) (tm hr en : Int) (S : SS) (k : Int) (hlg : Bd lg 4 0 2000000) (htm : 0 ≤ tm ∧ tm ≤ 4) (hT : Bd (ssT S) 120 0 1000000000) (hk : 0 ≤ k ∧ k < tm) : ZMi (S := Unit) l yX1_teamsAheadOf wsX1_teamsAheadOf ({ frames := 2, cells := 0, slots := 0, locals := 120 }) D g [.ref x, .int (iI k)] ((wLe g x b h tr td bu sr lg tm hr en) ++ ((wSh g h a (ssS S) (ssF S) (ssW S) (ssO S) (ssP S) (ssT S) (ssLo S) (ssSl S) (ssFa S)))) (fun z _ => z = ahN lg (ssT S) k tm) (fun _ => (wLe g x b h tr td bu sr lg tm hr en) ++ ((wSh g h a (ssS S) (ssF S) (ssW S) (ssO S) (ssP S) (ssT S) (ssLo S) (ssSl S) (ssFa S)))) 0 0 := by
  have hinX1 : ∀ w ∈ u_ws RX1 TX1 9, w ∈ wsX1_teamsAheadOf := by decide +kernel
  have L43 : Cond.fieldLink RX1 43 "SandcastleLeague" "teams" "I" ∈ wsX1_teamsAheadOf := by decide +kernel
  refine ZMi.of (own := RX1) cX1_teamsAheadOf 4 [(0, .ref x), (1, .int (iI k))] (by decide +kernel) rfl (nle rfl) rfl rfl ?_
  intro E hC hN hret
  refine z_iconst 1 hC dX1_teamsAheadOf_0 rfl ?_
  refine z_istoren (lv' := [(2, .int (iI 0)), (0, .ref x), (1, .int (iI k))]) 2 hC dX1_teamsAheadOf_1 rfl rfl (by decide) rfl ?_
  refine z_iconst 3 hC dX1_teamsAheadOf_2 rfl ?_
  refine z_istoren (lv' := [(3, .int (iI 0)), (2, .int (iI 0)), (0, .ref x), (1, .int (iI k))]) 4 hC dX1_teamsAheadOf_3 rfl rfl (by decide) rfl ?_
  have loop4 : ∀ (N4 : Nat) (i : Int), 0 ≤ i ∧ i ≤ tm → (tm - i : Int) < N4 → Z E ((wLe g x b h tr td bu sr lg tm hr en) ++ ((wSh g h a (ssS S) (ssF S) (ssW S) (ssO S) (ssP S) (ssT S) (ssLo S) (ssSl S) (ssFa S)))) [(0, .ref x), (1, .int (iI k)), (2, .int (iI (sumI (fun j => ahI lg (ssT S) j k) i))), (3, .int (iI i))] 0 0 4 [] := by
    intro N4
    induction N4 with
    | zero => intro i hi hm4; exact absurd hm4 (by omega)
    | succ N4 ih4 =>
      intro i hi hm4
      refine z_iloadn 5 hC 3 dX1_teamsAheadOf_4 rfl rfl rfl ?_
      refine z_aloadn 6 hC 0 dX1_teamsAheadOf_5 rfl rfl rfl ?_
      refine z_get 9 0 6 hC hinX1 L43 dX1_teamsAheadOf_6 rfl rfl rfl (by decide) rfl ?_
      refine z_icmp_ge 30 12 hC dX1_teamsAheadOf_9 (by decide) rfl (by omega) (by omega) (fun c_1 => ?_) (fun c_1 => ?_)
      · skip
        obtain rfl : tm = i := by omega
        refine z_iloadn 31 hC 2 dX1_teamsAheadOf_30 rfl rfl rfl ?_
        exact hret () dX1_teamsAheadOf_31 rfl (by rfl)
      · skip
        refine z_aloadn 13 hC 0 dX1_teamsAheadOf_12 rfl rfl rfl ?_
        refine z_iloadn 14 hC 3 dX1_teamsAheadOf_13 rfl rfl rfl ?_
        refine z_iloadn 15 hC 1 dX1_teamsAheadOf_14 rfl rfl rfl ?_
        refine z_calli (wr := []) (w2 := fun _ => (wLe g x b h tr td bu sr lg tm hr en) ++ ((wSh g h a (ssS S) (ssF S) (ssW S) (ssO S) (ssP S) (ssT S) (ssLo S) (ssSl S) (ssFa S)))) 18 hC [0, 1, 2, 3, 4, 5, 6, 7, 8, 9, 10, 11] [] [0, 1, 2, 3, 4, 5, 6, 7, 8, 9, 10, 11] (z_runV (nA := 2) hC hN (c_X1_isAhead l D g x b h tr a td bu sr lg tm hr en S i k hlg htm hT (by omega) (by omega)) [0, 1, 2, 3, 4, 5, 6, 7, 8, 9, 10, 11] rfl (by decide) gX1_teamsAheadOf_X1_isAhead (by decide +kernel) rfl rfl rfl ⟨by decide, by decide⟩ rfl rfl (nle rfl) dX1_teamsAheadOf_15 ⟨by decide, by decide⟩ 0 rfl rfl) rfl rfl (by decide) (by decide) (fun _ => rfl) (by decide) rfl (k2 := 0) (n2 := 0) rfl rfl (fun z_3 _ p_4 => ?_)
        subst p_4
        have q_2 : ahI lg (ssT S) i k = 0 ∨ ahI lg (ssT S) i k = 1 := by unfold ahI; omega
        refine z_if_eq 24 21 hC dX1_teamsAheadOf_18 (by decide) rfl (by omega) (fun c_5 => ?_) (fun c_5 => ?_)
        · skip
          refine z_iinc (lv' := [(3, .int (iI (i + 1))), (0, .ref x), (1, .int (iI k)), (2, .int (iI (sumI (fun j => ahI lg (ssT S) j k) i)))]) 27 3 hC dX1_teamsAheadOf_24 rfl rfl (by decide) rfl ?_
          refine z_goto 4 hC dX1_teamsAheadOf_27 (by decide) ?_
          refine z_lv (lv' := [(0, .ref x), (1, .int (iI k)), (2, .int (iI (sumI (fun j => ahI lg (ssT S) j k) i))), (3, .int (iI (i + 1)))]) [1, 2, 3, 0] rfl ?_
          refine z_lveq (lv' := [(0, .ref x), (1, .int (iI k)), (2, .int (iI (sumI (fun j => ahI lg (ssT S) j k) (i + 1)))), (3, .int (iI (i + 1)))]) (zfk (zfk (zlc (by first | exact sumI_n (by omega) (by omega) | exact sumI_y (by omega) (by omega)) (zfk rfl)))) ?_
          exact ih4 (i + 1) (by omega) (by omega)
        · skip
          refine z_iinc (lv' := [(2, .int (iI ((sumI (fun j => ahI lg (ssT S) j k) i) + 1))), (0, .ref x), (1, .int (iI k)), (3, .int (iI i))]) 24 2 hC dX1_teamsAheadOf_21 rfl rfl (by decide) rfl ?_
          refine z_iinc (lv' := [(3, .int (iI (i + 1))), (2, .int (iI ((sumI (fun j => ahI lg (ssT S) j k) i) + 1))), (0, .ref x), (1, .int (iI k))]) 27 3 hC dX1_teamsAheadOf_24 rfl rfl (by decide) rfl ?_
          refine z_goto 4 hC dX1_teamsAheadOf_27 (by decide) ?_
          refine z_lv (lv' := [(0, .ref x), (1, .int (iI k)), (2, .int (iI ((sumI (fun j => ahI lg (ssT S) j k) i) + 1))), (3, .int (iI (i + 1)))]) [2, 3, 1, 0] rfl ?_
          refine z_lveq (lv' := [(0, .ref x), (1, .int (iI k)), (2, .int (iI (sumI (fun j => ahI lg (ssT S) j k) (i + 1)))), (3, .int (iI (i + 1)))]) (zfk (zfk (zlc (by first | exact sumI_n (by omega) (by omega) | exact sumI_y (by omega) (by omega)) (zfk rfl)))) ?_
          exact ih4 (i + 1) (by omega) (by omega)
  refine z_lv (lv' := [(0, .ref x), (1, .int (iI k)), (2, .int (iI 0)), (3, .int (iI 0))]) [2, 3, 1, 0] rfl ?_
  refine z_lveq (lv' := [(0, .ref x), (1, .int (iI k)), (2, .int (iI (sumI (fun j => ahI lg (ssT S) j k) 0))), (3, .int (iI 0))]) (zfk (zfk (zlc (by rfl) (zfk rfl)))) ?_
  exact loop4 ((tm - 0 + 1 : Int).toNat) 0 (by omega) (by omega)
