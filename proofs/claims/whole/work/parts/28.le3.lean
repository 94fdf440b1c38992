theorem hgs_bd {s : Int → Int} (hs : Bd s 120 0 20) : 0 ≤ sumI (hg s) 120 ∧ sumI (hg s) 120 ≤ 4560 := by
  have := sumI_bd (f := hg s) (N := 120) (a := 0) (b := 38) (i := 120) (fun j a b => hg_bd hs ⟨a, b⟩) (by omega) (by omega)
  omega
set_option maxHeartbeats 4000000 in
set_option maxRecDepth 100000 in
theorem c_X1_mean (l : Launch) (D : va_G) (g : Nat → ClassId) (x : Nat) (b : Nat → Nat) (h h2 : Nat) (a a2 : Nat → Nat) (td bu sr lg : Int → Int) (tm hr en : Int) (S T : SS)  (hI : LI td bu sr lg tm hr S)  : ZMd (S := Unit) l yX1_mean wsX1_mean ({ frames := 3, cells := 0, slots := 0, locals := 90 }) D g [.ref x] ((wLe g x b h h2 td bu sr lg tm hr en) ++ ((wSh g h a (ssS S) (ssF S) (ssW S) (ssO S) (ssP S) (ssT S) (ssLo S) (ssSl S) (ssFa S)) ++ ((wSh g h2 a2 (ssS T) (ssF T) (ssW T) (ssO T) (ssP T) (ssT T) (ssLo T) (ssSl T) (ssFa T))))) (fun z _ => z = FP.ddiv (FP.i2d (iI (sumI (hg (ssS S)) 120))) 4638144666238189568) (fun _ => (wLe g x b h h2 td bu sr lg tm hr en) ++ ((wSh g h a (ssS S) (ssF S) (ssW S) (ssO S) (ssP S) (ssT S) (ssLo S) (ssSl S) (ssFa S)) ++ ((wSh g h2 a2 (ssS T) (ssF T) (ssW T) (ssO T) (ssP T) (ssT T) (ssLo T) (ssSl T) (ssFa T))))) 0 0 := by
  have hinX1 : ∀ w ∈ u_ws RX1 TX1 9, w ∈ wsX1_mean := by decide +kernel
  have L10 : Cond.fieldLink RX1 10 "SandcastleLeague" "shore" "LSandcastleLeague$Shore;" ∈ wsX1_mean := by decide +kernel
  obtain ⟨htd, hbu, hsr, hlg, htm, hhr, hSB, hT⟩ := id hI
  obtain ⟨hs, hf, hw, ho, hp⟩ := id hSB
  have hne := vfb_ok (z := sumI (hg (ssS S)) 120) (hgs_bd hs)
  refine ZMd.of (ty := .int) (own := RX1) cX1_mean 1 [(0, .ref x)] (by decide +kernel) rfl (nle rfl) rfl rfl ?_
  intro E hC hN hret
  refine z_aloadn 1 hC 0 dX1_mean_0 rfl rfl rfl ?_
  refine z_get 4 0 0 hC hinX1 L10 dX1_mean_1 rfl rfl rfl (by decide) rfl ?_
  refine z_calli (wr := [(x, .inr (1, [.ref h, .ref h2, .ref (b 0), .ref (b 1), .ref (b 2), .ref (b 3), .int (iI tm), .int (iI hr), .int (iI en)])), ((b 0), ar g 12 td), ((b 1), ar g 4 bu), ((b 2), ar g 4 sr), ((b 3), ar g 4 lg), (h2, .inr (0, [.ref (a2 0), .ref (a2 1), .ref (a2 2), .ref (a2 3), .ref (a2 4), .ref (a2 5), .int (iI (ssLo T)), .int (iI (ssSl T)), .int (iI (ssFa T))])), ((a2 0), ar g 120 (ssS T)), ((a2 1), ar g 120 (ssF T)), ((a2 2), ar g 120 (ssW T)), ((a2 3), ar g 120 (ssO T)), ((a2 4), ar g 120 (ssP T)), ((a2 5), ar g 120 (ssT T))]) (w2 := fun _ => (wLe g x b h h2 td bu sr lg tm hr en) ++ ((wSh g h a (ssS S) (ssF S) (ssW S) (ssO S) (ssP S) (ssT S) (ssLo S) (ssSl S) (ssFa S)) ++ ((wSh g h2 a2 (ssS T) (ssF T) (ssW T) (ssO T) (ssP T) (ssT T) (ssLo T) (ssSl T) (ssFa T))))) 7 hC [5, 6, 7, 8, 9, 10, 11] [0, 1, 2, 3, 4, 12, 13, 14, 15, 16, 17, 18] [0, 1, 2, 3, 4, 12, 13, 14, 15, 16, 17, 18, 5, 6, 7, 8, 9, 10, 11] (z_runV (nA := 0) hC hN (c_X0_allHeights l D g h a (ssS S) (ssF S) (ssW S) (ssO S) (ssP S) (ssT S) (ssLo S) (ssSl S) (ssFa S)  hs) [5, 6, 7, 8, 9, 10, 11] rfl (by decide) gX1_mean_X0_allHeights (by decide +kernel) rfl rfl rfl ⟨by decide, by decide⟩ rfl rfl (nle rfl) dX1_mean_4 ⟨by decide, by decide⟩ 5 rfl rfl) rfl rfl (by decide) (by decide) (fun _ => rfl) (by decide) rfl (k2 := 0) (n2 := 0) rfl rfl (fun z_1 _ p_2 => ?_)
  subst p_2
  refine z_i2d 8 hC dX1_mean_7 rfl ?_
  refine z_ldc2d (v := 4638144666238189568) 11 hC (by decide +kernel) dX1_mean_8 rfl ?_
  refine z_ddiv 12 hC hne dX1_mean_11 rfl ?_
  exact hret () dX1_mean_12 (by rfl)
set_option maxHeartbeats 4000000 in
set_option maxRecDepth 100000 in
theorem c_X1_requireWhat_ok (l : Launch) (D : va_G) (g : Nat → ClassId) (v : Int) (M : Int) (hv : 0 ≤ v ∧ v < M) (hM : M ≤ 100) : ZMv (S := Unit) l yX1_requireWhat wsX1_requireWhat ({ frames := 0, cells := 0, slots := 0, locals := 0 }) D g [.int (iI v), .int (iI M)] ([]) (fun _ => True) (fun _ => []) 0 0 := by
  refine ZMv.of (ty := .int) (own := RX1) cX1_requireWhat 2 [(0, .int (iI v)), (1, .int (iI M))] (by decide +kernel) rfl (nle rfl) rfl rfl ?_
  intro E hC hN hret
  refine z_iloadn 1 hC 0 dX1_requireWhat_0 rfl rfl rfl ?_
  refine z_if_lt 9 4 hC dX1_requireWhat_1 (by decide) rfl (by omega) (fun c_1 => ?_) (fun c_1 => ?_)
  · skip
    exfalso; omega
  · skip
    refine z_iloadn 5 hC 0 dX1_requireWhat_4 rfl rfl rfl ?_
    refine z_iloadn 6 hC 1 dX1_requireWhat_5 rfl rfl rfl ?_
    refine z_icmp_lt 19 9 hC dX1_requireWhat_6 (by decide) rfl (by omega) (by omega) (fun c_2 => ?_) (fun c_2 => ?_)
    · skip
      exact hret () dX1_requireWhat_19 (by trivial)
    · skip
      exfalso; omega
set_option maxHeartbeats 4000000 in
set_option maxRecDepth 100000 in
theorem c_X1_requireTeam_ok (l : Launch) (D : va_G) (g : Nat → ClassId) (x : Nat) (b : Nat → Nat) (sh tr : Nat) (td bu sr lg : Int → Int) (tm hr en : Int) (k : Int) (hk : 0 ≤ k ∧ k < tm) (htm : 0 ≤ tm ∧ tm ≤ 4) : ZMv (S := Unit) l yX1_requireTeam wsX1_requireTeam ({ frames := 0, cells := 0, slots := 0, locals := 0 }) D g [.ref x, .int (iI k)] (wLe g x b sh tr td bu sr lg tm hr en) (fun _ => True) (fun _ => wLe g x b sh tr td bu sr lg tm hr en) 0 0 := by
  have hinX1 : ∀ w ∈ u_ws RX1 TX1 9, w ∈ wsX1_requireTeam := by decide +kernel
  have L43 : Cond.fieldLink RX1 43 "SandcastleLeague" "teams" "I" ∈ wsX1_requireTeam := by decide +kernel
  refine ZMv.of (ty := .int) (own := RX1) cX1_requireTeam 2 [(0, .ref x), (1, .int (iI k))] (by decide +kernel) rfl (nle rfl) rfl rfl ?_
  intro E hC hN hret
  refine z_iloadn 1 hC 1 dX1_requireTeam_0 rfl rfl rfl ?_
  refine z_if_lt 12 4 hC dX1_requireTeam_1 (by decide) rfl (by omega) (fun c_1 => ?_) (fun c_1 => ?_)
  · skip
    exfalso; omega
  · skip
    refine z_iloadn 5 hC 1 dX1_requireTeam_4 rfl rfl rfl ?_
    refine z_aloadn 6 hC 0 dX1_requireTeam_5 rfl rfl rfl ?_
    refine z_get 9 0 6 hC hinX1 L43 dX1_requireTeam_6 rfl rfl rfl (by decide) rfl ?_
    refine z_icmp_lt 22 12 hC dX1_requireTeam_9 (by decide) rfl (by omega) (by omega) (fun c_2 => ?_) (fun c_2 => ?_)
    · skip
      exact hret () dX1_requireTeam_22 (by trivial)
    · skip
      exfalso; omega
set_option maxHeartbeats 4000000 in
set_option maxRecDepth 100000 in
theorem c_X1_count_ok (l : Launch) (D : va_G) (g : Nat → ClassId) (x : Nat) (b : Nat → Nat) (h h2 : Nat) (a a2 : Nat → Nat) (td bu sr lg : Int → Int) (tm hr en : Int) (S T : SS) (v : Int) (hI : LI td bu sr lg tm hr S) (hv : 0 ≤ v ∧ v < 9) : ZMi (S := Unit) l yX1_count wsX1_count ({ frames := 4, cells := 0, slots := 0, locals := 130 }) D g [.ref x, .int (iI v)] ((wLe g x b h h2 td bu sr lg tm hr en) ++ ((wSh g h a (ssS S) (ssF S) (ssW S) (ssO S) (ssP S) (ssT S) (ssLo S) (ssSl S) (ssFa S)) ++ ((wSh g h2 a2 (ssS T) (ssF T) (ssW T) (ssO T) (ssP T) (ssT T) (ssLo T) (ssSl T) (ssFa T))))) (fun z _ => z = cV S tm hr en v) (fun _ => (wLe g x b h h2 td bu sr lg tm hr en) ++ ((wSh g h a (ssS S) (ssF S) (ssW S) (ssO S) (ssP S) (ssT S) (ssLo S) (ssSl S) (ssFa S)) ++ ((wSh g h2 a2 (ssS T) (ssF T) (ssW T) (ssO T) (ssP T) (ssT T) (ssLo T) (ssSl T) (ssFa T))))) 0 0 := by
  have hinX0 : ∀ w ∈ u_ws RX0 TX0 9, w ∈ wsX1_count := by decide +kernel
  have hinX1 : ∀ w ∈ u_ws RX1 TX1 9, w ∈ wsX1_count := by decide +kernel
  have L10 : Cond.fieldLink RX1 10 "SandcastleLeague" "shore" "LSandcastleLeague$Shore;" ∈ wsX1_count := by decide +kernel
  have L43 : Cond.fieldLink RX1 43 "SandcastleLeague" "teams" "I" ∈ wsX1_count := by decide +kernel
  have L131 : Cond.fieldLink RX1 131 "SandcastleLeague" "hour" "I" ∈ wsX1_count := by decide +kernel
  have L153 : Cond.fieldLink RX1 153 "SandcastleLeague" "endedRounds" "I" ∈ wsX1_count := by decide +kernel
  obtain ⟨htd, hbu, hsr, hlg, htm, hhr, hSB, hT⟩ := id hI
  obtain ⟨hs, hf, hw, ho, hp⟩ := id hSB
  refine ZMi.of (own := RX1) cX1_count 2 [(0, .ref x), (1, .int (iI v))] (by decide +kernel) rfl (nle rfl) rfl rfl ?_
  intro E hC hN hret
  refine z_iloadn 1 hC 1 dX1_count_0 rfl rfl rfl ?_
  refine z_bipush 3 hC dX1_count_1 (by decide) rfl ?_
  refine z_callv (wr := [(x, .inr (1, [.ref h, .ref h2, .ref (b 0), .ref (b 1), .ref (b 2), .ref (b 3), .int (iI tm), .int (iI hr), .int (iI en)])), ((b 0), ar g 12 td), ((b 1), ar g 4 bu), ((b 2), ar g 4 sr), ((b 3), ar g 4 lg), (h, .inr (0, [.ref (a 0), .ref (a 1), .ref (a 2), .ref (a 3), .ref (a 4), .ref (a 5), .int (iI (ssLo S)), .int (iI (ssSl S)), .int (iI (ssFa S))])), ((a 0), ar g 120 (ssS S)), ((a 1), ar g 120 (ssF S)), ((a 2), ar g 120 (ssW S)), ((a 3), ar g 120 (ssO S)), ((a 4), ar g 120 (ssP S)), ((a 5), ar g 120 (ssT S)), (h2, .inr (0, [.ref (a2 0), .ref (a2 1), .ref (a2 2), .ref (a2 3), .ref (a2 4), .ref (a2 5), .int (iI (ssLo T)), .int (iI (ssSl T)), .int (iI (ssFa T))])), ((a2 0), ar g 120 (ssS T)), ((a2 1), ar g 120 (ssF T)), ((a2 2), ar g 120 (ssW T)), ((a2 3), ar g 120 (ssO T)), ((a2 4), ar g 120 (ssP T)), ((a2 5), ar g 120 (ssT T))]) (w2 := fun _ => (wLe g x b h h2 td bu sr lg tm hr en) ++ ((wSh g h a (ssS S) (ssF S) (ssW S) (ssO S) (ssP S) (ssT S) (ssLo S) (ssSl S) (ssFa S)) ++ ((wSh g h2 a2 (ssS T) (ssF T) (ssW T) (ssO T) (ssP T) (ssT T) (ssLo T) (ssSl T) (ssFa T))))) 6 hC [] [0, 1, 2, 3, 4, 5, 6, 7, 8, 9, 10, 11, 12, 13, 14, 15, 16, 17, 18] [0, 1, 2, 3, 4, 5, 6, 7, 8, 9, 10, 11, 12, 13, 14, 15, 16, 17, 18] (z_runS (nA := 2) hC hN (c_X1_requireWhat_ok l D g v 9 (by omega) (by omega)) [] rfl (by decide) gX1_count_X1_requireWhat (by decide +kernel) rfl rfl rfl ⟨by decide, by decide⟩ rfl rfl (nle rfl) dX1_count_3 ⟨by decide, by decide⟩) rfl rfl (by decide) (by decide) (fun _ => rfl) (by decide) rfl (k2 := 0) (n2 := 0) rfl rfl (fun _ p_1 => ?_)
  refine z_iloadn 7 hC 1 dX1_count_6 rfl rfl rfl ?_
  by_cases e_2 : v = 0
  · refine z_tabIn 52 0 hC dX1_count_7 e_2 (by decide) rfl rfl (by decide) ?_
    refine z_aloadn 53 hC 0 dX1_count_52 rfl rfl rfl ?_
    refine z_get 56 0 7 hC hinX1 L131 dX1_count_53 rfl rfl rfl (by decide) rfl ?_
    exact hret () dX1_count_56 rfl (by unfold cV; omega)
  by_cases e_3 : v = 1
  · refine z_tabIn 57 1 hC dX1_count_7 e_3 (by decide) rfl rfl (by decide) ?_
    refine z_aloadn 58 hC 0 dX1_count_57 rfl rfl rfl ?_
    refine z_get 61 0 6 hC hinX1 L43 dX1_count_58 rfl rfl rfl (by decide) rfl ?_
    exact hret () dX1_count_61 rfl (by unfold cV; omega)
  by_cases e_4 : v = 2
  · refine z_tabIn 62 2 hC dX1_count_7 e_4 (by decide) rfl rfl (by decide) ?_
    refine z_aloadn 63 hC 0 dX1_count_62 rfl rfl rfl ?_
    refine z_get 66 0 0 hC hinX1 L10 dX1_count_63 rfl rfl rfl (by decide) rfl ?_
    refine z_calli (wr := [(x, .inr (1, [.ref h, .ref h2, .ref (b 0), .ref (b 1), .ref (b 2), .ref (b 3), .int (iI tm), .int (iI hr), .int (iI en)])), ((b 0), ar g 12 td), ((b 1), ar g 4 bu), ((b 2), ar g 4 sr), ((b 3), ar g 4 lg), (h2, .inr (0, [.ref (a2 0), .ref (a2 1), .ref (a2 2), .ref (a2 3), .ref (a2 4), .ref (a2 5), .int (iI (ssLo T)), .int (iI (ssSl T)), .int (iI (ssFa T))])), ((a2 0), ar g 120 (ssS T)), ((a2 1), ar g 120 (ssF T)), ((a2 2), ar g 120 (ssW T)), ((a2 3), ar g 120 (ssO T)), ((a2 4), ar g 120 (ssP T)), ((a2 5), ar g 120 (ssT T))]) (w2 := fun _ => (wLe g x b h h2 td bu sr lg tm hr en) ++ ((wSh g h a (ssS S) (ssF S) (ssW S) (ssO S) (ssP S) (ssT S) (ssLo S) (ssSl S) (ssFa S)) ++ ((wSh g h2 a2 (ssS T) (ssF T) (ssW T) (ssO T) (ssP T) (ssT T) (ssLo T) (ssSl T) (ssFa T))))) 69 hC [5, 6, 7, 8, 9, 10, 11] [0, 1, 2, 3, 4, 12, 13, 14, 15, 16, 17, 18] [0, 1, 2, 3, 4, 12, 13, 14, 15, 16, 17, 18, 5, 6, 7, 8, 9, 10, 11] (z_runV (nA := 0) hC hN (c_X0_allWater l D g h a (ssS S) (ssF S) (ssW S) (ssO S) (ssP S) (ssT S) (ssLo S) (ssSl S) (ssFa S)  ) [5, 6, 7, 8, 9, 10, 11] rfl (by decide) gX1_count_X0_allWater (by decide +kernel) rfl rfl rfl ⟨by decide, by decide⟩ rfl rfl (nle rfl) dX1_count_66 ⟨by decide, by decide⟩ 5 rfl rfl) rfl rfl (by decide) (by decide) (fun _ => rfl) (by decide) rfl (k2 := 0) (n2 := 0) rfl rfl (fun z_5 _ p_6 => ?_)
    subst p_6
    exact hret () dX1_count_69 rfl (by unfold cV; omega)
  by_cases e_7 : v = 3
  · refine z_tabIn 70 3 hC dX1_count_7 e_7 (by decide) rfl rfl (by decide) ?_
    refine z_aloadn 71 hC 0 dX1_count_70 rfl rfl rfl ?_
    refine z_get 74 0 0 hC hinX1 L10 dX1_count_71 rfl rfl rfl (by decide) rfl ?_
    refine z_calli (wr := [(x, .inr (1, [.ref h, .ref h2, .ref (b 0), .ref (b 1), .ref (b 2), .ref (b 3), .int (iI tm), .int (iI hr), .int (iI en)])), ((b 0), ar g 12 td), ((b 1), ar g 4 bu), ((b 2), ar g 4 sr), ((b 3), ar g 4 lg), (h2, .inr (0, [.ref (a2 0), .ref (a2 1), .ref (a2 2), .ref (a2 3), .ref (a2 4), .ref (a2 5), .int (iI (ssLo T)), .int (iI (ssSl T)), .int (iI (ssFa T))])), ((a2 0), ar g 120 (ssS T)), ((a2 1), ar g 120 (ssF T)), ((a2 2), ar g 120 (ssW T)), ((a2 3), ar g 120 (ssO T)), ((a2 4), ar g 120 (ssP T)), ((a2 5), ar g 120 (ssT T))]) (w2 := fun _ => (wLe g x b h h2 td bu sr lg tm hr en) ++ ((wSh g h a (ssS S) (ssF S) (ssW S) (ssO S) (ssP S) (ssT S) (ssLo S) (ssSl S) (ssFa S)) ++ ((wSh g h2 a2 (ssS T) (ssF T) (ssW T) (ssO T) (ssP T) (ssT T) (ssLo T) (ssSl T) (ssFa T))))) 77 hC [5, 6, 7, 8, 9, 10, 11] [0, 1, 2, 3, 4, 12, 13, 14, 15, 16, 17, 18] [0, 1, 2, 3, 4, 12, 13, 14, 15, 16, 17, 18, 5, 6, 7, 8, 9, 10, 11] (z_runV (nA := 0) hC hN (c_X0_allSand l D g h a (ssS S) (ssF S) (ssW S) (ssO S) (ssP S) (ssT S) (ssLo S) (ssSl S) (ssFa S)  ) [5, 6, 7, 8, 9, 10, 11] rfl (by decide) gX1_count_X0_allSand (by decide +kernel) rfl rfl rfl ⟨by decide, by decide⟩ rfl rfl (nle rfl) dX1_count_74 ⟨by decide, by decide⟩ 5 rfl rfl) rfl rfl (by decide) (by decide) (fun _ => rfl) (by decide) rfl (k2 := 0) (n2 := 0) rfl rfl (fun z_8 _ p_9 => ?_)
    subst p_9
    exact hret () dX1_count_77 rfl (by unfold cV; omega)
  by_cases e_10 : v = 4
  · refine z_tabIn 78 4 hC dX1_count_7 e_10 (by decide) rfl rfl (by decide) ?_
    refine z_aloadn 79 hC 0 dX1_count_78 rfl rfl rfl ?_
    refine z_get 82 0 0 hC hinX1 L10 dX1_count_79 rfl rfl rfl (by decide) rfl ?_
    refine z_getN (host := RX1) 85 5 6 hC hN hinX0 (by decide +kernel) dX1_count_82 rfl rfl rfl (by decide) rfl ?_
    exact hret () dX1_count_85 rfl (by unfold cV; omega)
  by_cases e_11 : v = 5
  · refine z_tabIn 86 5 hC dX1_count_7 e_11 (by decide) rfl rfl (by decide) ?_
    refine z_aloadn 87 hC 0 dX1_count_86 rfl rfl rfl ?_
    refine z_get 90 0 0 hC hinX1 L10 dX1_count_87 rfl rfl rfl (by decide) rfl ?_
    refine z_getN (host := RX1) 93 5 7 hC hN hinX0 (by decide +kernel) dX1_count_90 rfl rfl rfl (by decide) rfl ?_
    exact hret () dX1_count_93 rfl (by unfold cV; omega)
  by_cases e_12 : v = 6
  · refine z_tabIn 94 6 hC dX1_count_7 e_12 (by decide) rfl rfl (by decide) ?_
    refine z_aloadn 95 hC 0 dX1_count_94 rfl rfl rfl ?_
    refine z_get 98 0 0 hC hinX1 L10 dX1_count_95 rfl rfl rfl (by decide) rfl ?_
    refine z_calli (wr := [(x, .inr (1, [.ref h, .ref h2, .ref (b 0), .ref (b 1), .ref (b 2), .ref (b 3), .int (iI tm), .int (iI hr), .int (iI en)])), ((b 0), ar g 12 td), ((b 1), ar g 4 bu), ((b 2), ar g 4 sr), ((b 3), ar g 4 lg), (h2, .inr (0, [.ref (a2 0), .ref (a2 1), .ref (a2 2), .ref (a2 3), .ref (a2 4), .ref (a2 5), .int (iI (ssLo T)), .int (iI (ssSl T)), .int (iI (ssFa T))])), ((a2 0), ar g 120 (ssS T)), ((a2 1), ar g 120 (ssF T)), ((a2 2), ar g 120 (ssW T)), ((a2 3), ar g 120 (ssO T)), ((a2 4), ar g 120 (ssP T)), ((a2 5), ar g 120 (ssT T))]) (w2 := fun _ => (wLe g x b h h2 td bu sr lg tm hr en) ++ ((wSh g h a (ssS S) (ssF S) (ssW S) (ssO S) (ssP S) (ssT S) (ssLo S) (ssSl S) (ssFa S)) ++ ((wSh g h2 a2 (ssS T) (ssF T) (ssW T) (ssO T) (ssP T) (ssT T) (ssLo T) (ssSl T) (ssFa T))))) 101 hC [5, 6, 7, 8, 9, 10, 11] [0, 1, 2, 3, 4, 12, 13, 14, 15, 16, 17, 18] [0, 1, 2, 3, 4, 12, 13, 14, 15, 16, 17, 18, 5, 6, 7, 8, 9, 10, 11] (z_runV (nA := 0) hC hN (c_X0_allSticks l D g h a (ssS S) (ssF S) (ssW S) (ssO S) (ssP S) (ssT S) (ssLo S) (ssSl S) (ssFa S)  ho) [5, 6, 7, 8, 9, 10, 11] rfl (by decide) gX1_count_X0_allSticks (by decide +kernel) rfl rfl rfl ⟨by decide, by decide⟩ rfl rfl (nle rfl) dX1_count_98 ⟨by decide, by decide⟩ 5 rfl rfl) rfl rfl (by decide) (by decide) (fun _ => rfl) (by decide) rfl (k2 := 0) (n2 := 0) rfl rfl (fun z_13 _ p_14 => ?_)
    subst p_14
    exact hret () dX1_count_101 rfl (by unfold cV; omega)
  by_cases e_15 : v = 7
  · refine z_tabIn 102 7 hC dX1_count_7 e_15 (by decide) rfl rfl (by decide) ?_
    refine z_aloadn 103 hC 0 dX1_count_102 rfl rfl rfl ?_
    refine z_get 106 0 0 hC hinX1 L10 dX1_count_103 rfl rfl rfl (by decide) rfl ?_
    refine z_getN (host := RX1) 109 5 8 hC hN hinX0 (by decide +kernel) dX1_count_106 rfl rfl rfl (by decide) rfl ?_
    exact hret () dX1_count_109 rfl (by unfold cV; omega)
  refine z_tabOut 110 hC dX1_count_7 (by omega) (by omega) (by decide) ?_
  refine z_aloadn 111 hC 0 dX1_count_110 rfl rfl rfl ?_
  refine z_get 114 0 8 hC hinX1 L153 dX1_count_111 rfl rfl rfl (by decide) rfl ?_
  exact hret () dX1_count_114 rfl (by unfold cV; omega)
set_option maxHeartbeats 4000000 in
set_option maxRecDepth 100000 in
theorem c_X1_team_ok (l : Launch) (D : va_G) (g : Nat → ClassId) (x : Nat) (b : Nat → Nat) (h h2 : Nat) (a a2 : Nat → Nat) (td bu sr lg : Int → Int) (tm hr en : Int) (S T : SS) (k : Int) (v : Int) (hI : LI td bu sr lg tm hr S) (hk : 0 ≤ k ∧ k < tm) (hv : 0 ≤ v ∧ v < 8) : ZMi (S := Unit) l yX1_team wsX1_team ({ frames := 4, cells := 0, slots := 0, locals := 150 }) D g [.ref x, .int (iI k), .int (iI v)] ((wLe g x b h h2 td bu sr lg tm hr en) ++ ((wSh g h a (ssS S) (ssF S) (ssW S) (ssO S) (ssP S) (ssT S) (ssLo S) (ssSl S) (ssFa S)) ++ ((wSh g h2 a2 (ssS T) (ssF T) (ssW T) (ssO T) (ssP T) (ssT T) (ssLo T) (ssSl T) (ssFa T))))) (fun z _ => z = tV bu sr lg S k v) (fun _ => (wLe g x b h h2 td bu sr lg tm hr en) ++ ((wSh g h a (ssS S) (ssF S) (ssW S) (ssO S) (ssP S) (ssT S) (ssLo S) (ssSl S) (ssFa S)) ++ ((wSh g h2 a2 (ssS T) (ssF T) (ssW T) (ssO T) (ssP T) (ssT T) (ssLo T) (ssSl T) (ssFa T))))) 0 0 := by
  have hinX1 : ∀ w ∈ u_ws RX1 TX1 9, w ∈ wsX1_team := by decide +kernel
  have L10 : Cond.fieldLink RX1 10 "SandcastleLeague" "shore" "LSandcastleLeague$Shore;" ∈ wsX1_team := by decide +kernel
  have L31 : Cond.fieldLink RX1 31 "SandcastleLeague" "bucket" "[I" ∈ wsX1_team := by decide +kernel
  have L34 : Cond.fieldLink RX1 34 "SandcastleLeague" "strength" "[I" ∈ wsX1_team := by decide +kernel
  have L37 : Cond.fieldLink RX1 37 "SandcastleLeague" "leaguePoints" "[I" ∈ wsX1_team := by decide +kernel
  obtain ⟨htd, hbu, hsr, hlg, htm, hhr, hSB, hT⟩ := id hI
  obtain ⟨hs, hf, hw, ho, hp⟩ := id hSB
  refine ZMi.of (own := RX1) cX1_team 3 [(0, .ref x), (1, .int (iI k)), (2, .int (iI v))] (by decide +kernel) rfl (nle rfl) rfl rfl ?_
  intro E hC hN hret
  refine z_aloadn 1 hC 0 dX1_team_0 rfl rfl rfl ?_
  refine z_iloadn 2 hC 1 dX1_team_1 rfl rfl rfl ?_
  refine z_callv (wr := [(h, .inr (0, [.ref (a 0), .ref (a 1), .ref (a 2), .ref (a 3), .ref (a 4), .ref (a 5), .int (iI (ssLo S)), .int (iI (ssSl S)), .int (iI (ssFa S))])), ((a 0), ar g 120 (ssS S)), ((a 1), ar g 120 (ssF S)), ((a 2), ar g 120 (ssW S)), ((a 3), ar g 120 (ssO S)), ((a 4), ar g 120 (ssP S)), ((a 5), ar g 120 (ssT S)), (h2, .inr (0, [.ref (a2 0), .ref (a2 1), .ref (a2 2), .ref (a2 3), .ref (a2 4), .ref (a2 5), .int (iI (ssLo T)), .int (iI (ssSl T)), .int (iI (ssFa T))])), ((a2 0), ar g 120 (ssS T)), ((a2 1), ar g 120 (ssF T)), ((a2 2), ar g 120 (ssW T)), ((a2 3), ar g 120 (ssO T)), ((a2 4), ar g 120 (ssP T)), ((a2 5), ar g 120 (ssT T))]) (w2 := fun _ => (wLe g x b h h2 td bu sr lg tm hr en) ++ ((wSh g h a (ssS S) (ssF S) (ssW S) (ssO S) (ssP S) (ssT S) (ssLo S) (ssSl S) (ssFa S)) ++ ((wSh g h2 a2 (ssS T) (ssF T) (ssW T) (ssO T) (ssP T) (ssT T) (ssLo T) (ssSl T) (ssFa T))))) 5 hC [0, 1, 2, 3, 4] [5, 6, 7, 8, 9, 10, 11, 12, 13, 14, 15, 16, 17, 18] [14, 15, 16, 17, 18, 0, 1, 2, 3, 4, 5, 6, 7, 8, 9, 10, 11, 12, 13] (z_runV (nA := 1) hC hN (c_X1_requireTeam_ok l D g x b h h2 td bu sr lg tm hr en k (by omega) (by omega)) [0, 1, 2, 3, 4] rfl (by decide) gX1_team_X1_requireTeam (by decide +kernel) rfl rfl rfl ⟨by decide, by decide⟩ rfl rfl (nle rfl) dX1_team_2 ⟨by decide, by decide⟩ 0 rfl rfl) rfl rfl (by decide) (by decide) (fun _ => rfl) (by decide) rfl (k2 := 0) (n2 := 0) rfl rfl (fun _ p_1 => ?_)
  refine z_iloadn 6 hC 2 dX1_team_5 rfl rfl rfl ?_
  refine z_bipush 8 hC dX1_team_6 (by decide) rfl ?_
  refine z_callv (wr := [(x, .inr (1, [.ref h, .ref h2, .ref (b 0), .ref (b 1), .ref (b 2), .ref (b 3), .int (iI tm), .int (iI hr), .int (iI en)])), ((b 0), ar g 12 td), ((b 1), ar g 4 bu), ((b 2), ar g 4 sr), ((b 3), ar g 4 lg), (h, .inr (0, [.ref (a 0), .ref (a 1), .ref (a 2), .ref (a 3), .ref (a 4), .ref (a 5), .int (iI (ssLo S)), .int (iI (ssSl S)), .int (iI (ssFa S))])), ((a 0), ar g 120 (ssS S)), ((a 1), ar g 120 (ssF S)), ((a 2), ar g 120 (ssW S)), ((a 3), ar g 120 (ssO S)), ((a 4), ar g 120 (ssP S)), ((a 5), ar g 120 (ssT S)), (h2, .inr (0, [.ref (a2 0), .ref (a2 1), .ref (a2 2), .ref (a2 3), .ref (a2 4), .ref (a2 5), .int (iI (ssLo T)), .int (iI (ssSl T)), .int (iI (ssFa T))])), ((a2 0), ar g 120 (ssS T)), ((a2 1), ar g 120 (ssF T)), ((a2 2), ar g 120 (ssW T)), ((a2 3), ar g 120 (ssO T)), ((a2 4), ar g 120 (ssP T)), ((a2 5), ar g 120 (ssT T))]) (w2 := fun _ => (wLe g x b h h2 td bu sr lg tm hr en) ++ ((wSh g h a (ssS S) (ssF S) (ssW S) (ssO S) (ssP S) (ssT S) (ssLo S) (ssSl S) (ssFa S)) ++ ((wSh g h2 a2 (ssS T) (ssF T) (ssW T) (ssO T) (ssP T) (ssT T) (ssLo T) (ssSl T) (ssFa T))))) 11 hC [] [0, 1, 2, 3, 4, 5, 6, 7, 8, 9, 10, 11, 12, 13, 14, 15, 16, 17, 18] [0, 1, 2, 3, 4, 5, 6, 7, 8, 9, 10, 11, 12, 13, 14, 15, 16, 17, 18] (z_runS (nA := 2) hC hN (c_X1_requireWhat_ok l D g v 8 (by omega) (by omega)) [] rfl (by decide) gX1_team_X1_requireWhat (by decide +kernel) rfl rfl rfl ⟨by decide, by decide⟩ rfl rfl (nle rfl) dX1_team_8 ⟨by decide, by decide⟩) rfl rfl (by decide) (by decide) (fun _ => rfl) (by decide) rfl (k2 := 0) (n2 := 0) rfl rfl (fun _ p_2 => ?_)
  refine z_iloadn 12 hC 2 dX1_team_11 rfl rfl rfl ?_
  by_cases e_3 : v = 0
  · refine z_tabIn 56 0 hC dX1_team_12 e_3 (by decide) rfl rfl (by decide) ?_
    refine z_aloadn 57 hC 0 dX1_team_56 rfl rfl rfl ?_
    refine z_get 60 0 3 hC hinX1 L31 dX1_team_57 rfl rfl rfl (by decide) rfl ?_
    refine z_iloadn 61 hC 1 dX1_team_60 rfl rfl rfl ?_
    refine z_iald 62 2 hC dX1_team_61 rfl rfl (by decide) (by omega) ?_
    have b_4 := hbu k (by omega) (by omega)
    exact hret () dX1_team_62 rfl (by unfold tV asum; omega)
  by_cases e_5 : v = 1
  · refine z_tabIn 63 1 hC dX1_team_12 e_5 (by decide) rfl rfl (by decide) ?_
    refine z_aloadn 64 hC 0 dX1_team_63 rfl rfl rfl ?_
    refine z_get 67 0 4 hC hinX1 L34 dX1_team_64 rfl rfl rfl (by decide) rfl ?_
    refine z_iloadn 68 hC 1 dX1_team_67 rfl rfl rfl ?_
    refine z_iald 69 3 hC dX1_team_68 rfl rfl (by decide) (by omega) ?_
    have b_6 := hsr k (by omega) (by omega)
    exact hret () dX1_team_69 rfl (by unfold tV asum; omega)
  by_cases e_7 : v = 2
  · refine z_tabIn 70 2 hC dX1_team_12 e_7 (by decide) rfl rfl (by decide) ?_
    refine z_aloadn 71 hC 0 dX1_team_70 rfl rfl rfl ?_
    refine z_get 74 0 0 hC hinX1 L10 dX1_team_71 rfl rfl rfl (by decide) rfl ?_
    refine z_iloadn 75 hC 1 dX1_team_74 rfl rfl rfl ?_
    refine z_calli (wr := [(x, .inr (1, [.ref h, .ref h2, .ref (b 0), .ref (b 1), .ref (b 2), .ref (b 3), .int (iI tm), .int (iI hr), .int (iI en)])), ((b 0), ar g 12 td), ((b 1), ar g 4 bu), ((b 2), ar g 4 sr), ((b 3), ar g 4 lg), (h2, .inr (0, [.ref (a2 0), .ref (a2 1), .ref (a2 2), .ref (a2 3), .ref (a2 4), .ref (a2 5), .int (iI (ssLo T)), .int (iI (ssSl T)), .int (iI (ssFa T))])), ((a2 0), ar g 120 (ssS T)), ((a2 1), ar g 120 (ssF T)), ((a2 2), ar g 120 (ssW T)), ((a2 3), ar g 120 (ssO T)), ((a2 4), ar g 120 (ssP T)), ((a2 5), ar g 120 (ssT T))]) (w2 := fun _ => (wLe g x b h h2 td bu sr lg tm hr en) ++ ((wSh g h a (ssS S) (ssF S) (ssW S) (ssO S) (ssP S) (ssT S) (ssLo S) (ssSl S) (ssFa S)) ++ ((wSh g h2 a2 (ssS T) (ssF T) (ssW T) (ssO T) (ssP T) (ssT T) (ssLo T) (ssSl T) (ssFa T))))) 78 hC [5, 6, 7, 8, 9, 10, 11] [0, 1, 2, 3, 4, 12, 13, 14, 15, 16, 17, 18] [0, 1, 2, 3, 4, 12, 13, 14, 15, 16, 17, 18, 5, 6, 7, 8, 9, 10, 11] (z_runV (nA := 1) hC hN (c_X0_pointsOf l D g h a (ssS S) (ssF S) (ssW S) (ssO S) (ssP S) (ssT S) (ssLo S) (ssSl S) (ssFa S) k (by omega)) [5, 6, 7, 8, 9, 10, 11] rfl (by decide) gX1_team_X0_pointsOf (by decide +kernel) rfl rfl rfl ⟨by decide, by decide⟩ rfl rfl (nle rfl) dX1_team_75 ⟨by decide, by decide⟩ 5 rfl rfl) rfl rfl (by decide) (by decide) (fun _ => rfl) (by decide) rfl (k2 := 0) (n2 := 0) rfl rfl (fun z_8 _ p_9 => ?_)
    subst p_9
    exact hret () dX1_team_78 rfl (by unfold tV asum; omega)
  by_cases e_10 : v = 3
  · refine z_tabIn 79 3 hC dX1_team_12 e_10 (by decide) rfl rfl (by decide) ?_
    refine z_aloadn 80 hC 0 dX1_team_79 rfl rfl rfl ?_
    refine z_get 83 0 0 hC hinX1 L10 dX1_team_80 rfl rfl rfl (by decide) rfl ?_
    refine z_iloadn 84 hC 1 dX1_team_83 rfl rfl rfl ?_
    refine z_calli (wr := [(x, .inr (1, [.ref h, .ref h2, .ref (b 0), .ref (b 1), .ref (b 2), .ref (b 3), .int (iI tm), .int (iI hr), .int (iI en)])), ((b 0), ar g 12 td), ((b 1), ar g 4 bu), ((b 2), ar g 4 sr), ((b 3), ar g 4 lg), (h2, .inr (0, [.ref (a2 0), .ref (a2 1), .ref (a2 2), .ref (a2 3), .ref (a2 4), .ref (a2 5), .int (iI (ssLo T)), .int (iI (ssSl T)), .int (iI (ssFa T))])), ((a2 0), ar g 120 (ssS T)), ((a2 1), ar g 120 (ssF T)), ((a2 2), ar g 120 (ssW T)), ((a2 3), ar g 120 (ssO T)), ((a2 4), ar g 120 (ssP T)), ((a2 5), ar g 120 (ssT T))]) (w2 := fun _ => (wLe g x b h h2 td bu sr lg tm hr en) ++ ((wSh g h a (ssS S) (ssF S) (ssW S) (ssO S) (ssP S) (ssT S) (ssLo S) (ssSl S) (ssFa S)) ++ ((wSh g h2 a2 (ssS T) (ssF T) (ssW T) (ssO T) (ssP T) (ssT T) (ssLo T) (ssSl T) (ssFa T))))) 87 hC [5, 6, 7, 8, 9, 10, 11] [0, 1, 2, 3, 4, 12, 13, 14, 15, 16, 17, 18] [0, 1, 2, 3, 4, 12, 13, 14, 15, 16, 17, 18, 5, 6, 7, 8, 9, 10, 11] (z_runV (nA := 1) hC hN (c_X0_sticksOf l D g h a (ssS S) (ssF S) (ssW S) (ssO S) (ssP S) (ssT S) (ssLo S) (ssSl S) (ssFa S) k ho (by omega)) [5, 6, 7, 8, 9, 10, 11] rfl (by decide) gX1_team_X0_sticksOf (by decide +kernel) rfl rfl rfl ⟨by decide, by decide⟩ rfl rfl (nle rfl) dX1_team_84 ⟨by decide, by decide⟩ 5 rfl rfl) rfl rfl (by decide) (by decide) (fun _ => rfl) (by decide) rfl (k2 := 0) (n2 := 0) rfl rfl (fun z_11 _ p_12 => ?_)
    subst p_12
    exact hret () dX1_team_87 rfl (by unfold tV asum; omega)
  by_cases e_13 : v = 4
  · refine z_tabIn 88 4 hC dX1_team_12 e_13 (by decide) rfl rfl (by decide) ?_
    refine z_aloadn 89 hC 0 dX1_team_88 rfl rfl rfl ?_
    refine z_get 92 0 0 hC hinX1 L10 dX1_team_89 rfl rfl rfl (by decide) rfl ?_
    refine z_iloadn 93 hC 1 dX1_team_92 rfl rfl rfl ?_
    refine z_calli (wr := [(x, .inr (1, [.ref h, .ref h2, .ref (b 0), .ref (b 1), .ref (b 2), .ref (b 3), .int (iI tm), .int (iI hr), .int (iI en)])), ((b 0), ar g 12 td), ((b 1), ar g 4 bu), ((b 2), ar g 4 sr), ((b 3), ar g 4 lg), (h2, .inr (0, [.ref (a2 0), .ref (a2 1), .ref (a2 2), .ref (a2 3), .ref (a2 4), .ref (a2 5), .int (iI (ssLo T)), .int (iI (ssSl T)), .int (iI (ssFa T))])), ((a2 0), ar g 120 (ssS T)), ((a2 1), ar g 120 (ssF T)), ((a2 2), ar g 120 (ssW T)), ((a2 3), ar g 120 (ssO T)), ((a2 4), ar g 120 (ssP T)), ((a2 5), ar g 120 (ssT T))]) (w2 := fun _ => (wLe g x b h h2 td bu sr lg tm hr en) ++ ((wSh g h a (ssS S) (ssF S) (ssW S) (ssO S) (ssP S) (ssT S) (ssLo S) (ssSl S) (ssFa S)) ++ ((wSh g h2 a2 (ssS T) (ssF T) (ssW T) (ssO T) (ssP T) (ssT T) (ssLo T) (ssSl T) (ssFa T))))) 96 hC [5, 6, 7, 8, 9, 10, 11] [0, 1, 2, 3, 4, 12, 13, 14, 15, 16, 17, 18] [0, 1, 2, 3, 4, 12, 13, 14, 15, 16, 17, 18, 5, 6, 7, 8, 9, 10, 11] (z_runV (nA := 1) hC hN (c_X0_sandOfArea l D g h a (ssS S) (ssF S) (ssW S) (ssO S) (ssP S) (ssT S) (ssLo S) (ssSl S) (ssFa S) k (by omega)) [5, 6, 7, 8, 9, 10, 11] rfl (by decide) gX1_team_X0_sandOfArea (by decide +kernel) rfl rfl rfl ⟨by decide, by decide⟩ rfl rfl (nle rfl) dX1_team_93 ⟨by decide, by decide⟩ 5 rfl rfl) rfl rfl (by decide) (by decide) (fun _ => rfl) (by decide) rfl (k2 := 0) (n2 := 0) rfl rfl (fun z_14 _ p_15 => ?_)
    subst p_15
    exact hret () dX1_team_96 rfl (by unfold tV asum; omega)
  by_cases e_16 : v = 5
  · refine z_tabIn 97 5 hC dX1_team_12 e_16 (by decide) rfl rfl (by decide) ?_
    refine z_aloadn 98 hC 0 dX1_team_97 rfl rfl rfl ?_
    refine z_get 101 0 0 hC hinX1 L10 dX1_team_98 rfl rfl rfl (by decide) rfl ?_
    refine z_iloadn 102 hC 1 dX1_team_101 rfl rfl rfl ?_
    refine z_calli (wr := [(x, .inr (1, [.ref h, .ref h2, .ref (b 0), .ref (b 1), .ref (b 2), .ref (b 3), .int (iI tm), .int (iI hr), .int (iI en)])), ((b 0), ar g 12 td), ((b 1), ar g 4 bu), ((b 2), ar g 4 sr), ((b 3), ar g 4 lg), (h2, .inr (0, [.ref (a2 0), .ref (a2 1), .ref (a2 2), .ref (a2 3), .ref (a2 4), .ref (a2 5), .int (iI (ssLo T)), .int (iI (ssSl T)), .int (iI (ssFa T))])), ((a2 0), ar g 120 (ssS T)), ((a2 1), ar g 120 (ssF T)), ((a2 2), ar g 120 (ssW T)), ((a2 3), ar g 120 (ssO T)), ((a2 4), ar g 120 (ssP T)), ((a2 5), ar g 120 (ssT T))]) (w2 := fun _ => (wLe g x b h h2 td bu sr lg tm hr en) ++ ((wSh g h a (ssS S) (ssF S) (ssW S) (ssO S) (ssP S) (ssT S) (ssLo S) (ssSl S) (ssFa S)) ++ ((wSh g h2 a2 (ssS T) (ssF T) (ssW T) (ssO T) (ssP T) (ssT T) (ssLo T) (ssSl T) (ssFa T))))) 105 hC [5, 6, 7, 8, 9, 10, 11] [0, 1, 2, 3, 4, 12, 13, 14, 15, 16, 17, 18] [0, 1, 2, 3, 4, 12, 13, 14, 15, 16, 17, 18, 5, 6, 7, 8, 9, 10, 11] (z_runV (nA := 1) hC hN (c_X0_greatestHeightOfArea l D g h a (ssS S) (ssF S) (ssW S) (ssO S) (ssP S) (ssT S) (ssLo S) (ssSl S) (ssFa S) k hs (by omega)) [5, 6, 7, 8, 9, 10, 11] rfl (by decide) gX1_team_X0_greatestHeightOfArea (by decide +kernel) rfl rfl rfl ⟨by decide, by decide⟩ rfl rfl (nle rfl) dX1_team_102 ⟨by decide, by decide⟩ 5 rfl rfl) rfl rfl (by decide) (by decide) (fun _ => rfl) (by decide) rfl (k2 := 0) (n2 := 0) rfl rfl (fun z_17 _ p_18 => ?_)
    subst p_18
    exact hret () dX1_team_105 rfl (by unfold tV asum; omega)
  by_cases e_19 : v = 6
  · refine z_tabIn 106 6 hC dX1_team_12 e_19 (by decide) rfl rfl (by decide) ?_
    refine z_aloadn 107 hC 0 dX1_team_106 rfl rfl rfl ?_
    refine z_get 110 0 0 hC hinX1 L10 dX1_team_107 rfl rfl rfl (by decide) rfl ?_
    refine z_iloadn 111 hC 1 dX1_team_110 rfl rfl rfl ?_
    refine z_calli (wr := [(x, .inr (1, [.ref h, .ref h2, .ref (b 0), .ref (b 1), .ref (b 2), .ref (b 3), .int (iI tm), .int (iI hr), .int (iI en)])), ((b 0), ar g 12 td), ((b 1), ar g 4 bu), ((b 2), ar g 4 sr), ((b 3), ar g 4 lg), (h2, .inr (0, [.ref (a2 0), .ref (a2 1), .ref (a2 2), .ref (a2 3), .ref (a2 4), .ref (a2 5), .int (iI (ssLo T)), .int (iI (ssSl T)), .int (iI (ssFa T))])), ((a2 0), ar g 120 (ssS T)), ((a2 1), ar g 120 (ssF T)), ((a2 2), ar g 120 (ssW T)), ((a2 3), ar g 120 (ssO T)), ((a2 4), ar g 120 (ssP T)), ((a2 5), ar g 120 (ssT T))]) (w2 := fun _ => (wLe g x b h h2 td bu sr lg tm hr en) ++ ((wSh g h a (ssS S) (ssF S) (ssW S) (ssO S) (ssP S) (ssT S) (ssLo S) (ssSl S) (ssFa S)) ++ ((wSh g h2 a2 (ssS T) (ssF T) (ssW T) (ssO T) (ssP T) (ssT T) (ssLo T) (ssSl T) (ssFa T))))) 114 hC [5, 6, 7, 8, 9, 10, 11] [0, 1, 2, 3, 4, 12, 13, 14, 15, 16, 17, 18] [0, 1, 2, 3, 4, 12, 13, 14, 15, 16, 17, 18, 5, 6, 7, 8, 9, 10, 11] (z_runV (nA := 1) hC hN (c_X0_waterOfArea l D g h a (ssS S) (ssF S) (ssW S) (ssO S) (ssP S) (ssT S) (ssLo S) (ssSl S) (ssFa S) k (by omega)) [5, 6, 7, 8, 9, 10, 11] rfl (by decide) gX1_team_X0_waterOfArea (by decide +kernel) rfl rfl rfl ⟨by decide, by decide⟩ rfl rfl (nle rfl) dX1_team_111 ⟨by decide, by decide⟩ 5 rfl rfl) rfl rfl (by decide) (by decide) (fun _ => rfl) (by decide) rfl (k2 := 0) (n2 := 0) rfl rfl (fun z_20 _ p_21 => ?_)
    subst p_21
    exact hret () dX1_team_114 rfl (by unfold tV asum; omega)
  refine z_tabOut 115 hC dX1_team_12 (by omega) (by omega) (by decide) ?_
  refine z_aloadn 116 hC 0 dX1_team_115 rfl rfl rfl ?_
  refine z_get 119 0 5 hC hinX1 L37 dX1_team_116 rfl rfl rfl (by decide) rfl ?_
  refine z_iloadn 120 hC 1 dX1_team_119 rfl rfl rfl ?_
  refine z_iald 121 4 hC dX1_team_120 rfl rfl (by decide) (by omega) ?_
  have b_22 := hlg k (by omega) (by omega)
  exact hret () dX1_team_121 rfl (by unfold tV asum; omega)
set_option maxHeartbeats 4000000 in
set_option maxRecDepth 100000 in
theorem c_X1_digest (l : Launch) (D : va_G) (g : Nat → ClassId) (x : Nat) (b : Nat → Nat) (h h2 : Nat) (a a2 : Nat → Nat) (td bu sr lg : Int → Int) (tm hr en : Int) (S T : SS)  (hI : LI td bu sr lg tm hr S)  : ZMl (S := Unit) l yX1_digest wsX1_digest ({ frames := 6, cells := 0, slots := 0, locals := 200 }) D g [.ref x] ((wLe g x b h h2 td bu sr lg tm hr en) ++ ((wSh g h a (ssS S) (ssF S) (ssW S) (ssO S) (ssP S) (ssT S) (ssLo S) (ssSl S) (ssFa S)) ++ ((wSh g h2 a2 (ssS T) (ssF T) (ssW T) (ssO T) (ssP T) (ssT T) (ssLo T) (ssSl T) (ssFa T))))) (fun z _ => z = dgM (tclS (ssS S) (ssF S) (ssW S) (ssO S) (ssP S)) 6 (dgM (tV bu sr lg S) 8 (dgN td (dgN (cV S tm hr en) 503 9) 12) tm) 120) (fun _ => (wLe g x b h h2 td bu sr lg tm hr en) ++ ((wSh g h a (ssS S) (ssF S) (ssW S) (ssO S) (ssP S) (ssT S) (ssLo S) (ssSl S) (ssFa S)) ++ ((wSh g h2 a2 (ssS T) (ssF T) (ssW T) (ssO T) (ssP T) (ssT T) (ssLo T) (ssSl T) (ssFa T))))) 0 0 := by
  have hinX1 : ∀ w ∈ u_ws RX1 TX1 9, w ∈ wsX1_digest := by decide +kernel
  have L10 : Cond.fieldLink RX1 10 "SandcastleLeague" "shore" "LSandcastleLeague$Shore;" ∈ wsX1_digest := by decide +kernel
  have L28 : Cond.fieldLink RX1 28 "SandcastleLeague" "tides" "[I" ∈ wsX1_digest := by decide +kernel
  have L43 : Cond.fieldLink RX1 43 "SandcastleLeague" "teams" "I" ∈ wsX1_digest := by decide +kernel
  obtain ⟨htd, hbu, hsr, hlg, htm, hhr, hSB, hT⟩ := id hI
  obtain ⟨hs, hf, hw, ho, hp⟩ := id hSB
  refine ZMl.of (ty := .int) (own := RX1) cX1_digest 5 [(0, .ref x)] (by decide +kernel) rfl (nle rfl) rfl rfl ?_
  intro E hC hN hret
  refine z_ldc2 (v := 503) 3 hC (by decide +kernel) dX1_digest_0 rfl ?_
  refine z_lstoren (lv' := [(1, .long 503), (0, .ref x)]) 4 hC dX1_digest_3 rfl rfl (by decide) rfl ?_
  refine z_iconst 5 hC dX1_digest_4 rfl ?_
  refine z_istoren (lv' := [(3, .int (iI 0)), (1, .long 503), (0, .ref x)]) 6 hC dX1_digest_5 rfl rfl (by decide) rfl ?_
  have loop6 : ∀ (N6 : Nat) (i : Int), 0 ≤ i ∧ i ≤ 9 → (9 - i : Int) < N6 → Z E ((wLe g x b h h2 td bu sr lg tm hr en) ++ ((wSh g h a (ssS S) (ssF S) (ssW S) (ssO S) (ssP S) (ssT S) (ssLo S) (ssSl S) (ssFa S)) ++ ((wSh g h2 a2 (ssS T) (ssF T) (ssW T) (ssO T) (ssP T) (ssT T) (ssLo T) (ssSl T) (ssFa T))))) [(0, .ref x), (1, .long (dgN (cV S tm hr en) 503 i)), (3, .int (iI i))] 0 0 6 [] := by
    intro N6
    induction N6 with
    | zero => intro i hi hm6; exact absurd hm6 (by omega)
    | succ N6 ih6 =>
      intro i hi hm6
      refine z_iloadn 7 hC 2 dX1_digest_6 rfl rfl rfl ?_
      refine z_bipush 9 hC dX1_digest_7 (by decide) rfl ?_
      refine z_icmp_ge 31 12 hC dX1_digest_9 (by decide) rfl (by omega) (by omega) (fun c_1 => ?_) (fun c_1 => ?_)
      · skip
        obtain rfl : i = 9 := by omega
        obtain ⟨d1, hd1⟩ : ∃ d9 : Int64, d9 = dgN (cV S tm hr en) 503 9 := ⟨_, rfl⟩
        rw [← hd1]
        refine z_iconst 32 hC dX1_digest_31 rfl ?_
        refine z_istoren (lv' := [(3, .int (iI 0)), (0, .ref x), (1, .long d1)]) 33 hC dX1_digest_32 rfl rfl (by decide) rfl ?_
        have loop33 : ∀ (N33 : Nat) (i : Int), 0 ≤ i ∧ i ≤ 12 → (12 - i : Int) < N33 → Z E ((wLe g x b h h2 td bu sr lg tm hr en) ++ ((wSh g h a (ssS S) (ssF S) (ssW S) (ssO S) (ssP S) (ssT S) (ssLo S) (ssSl S) (ssFa S)) ++ ((wSh g h2 a2 (ssS T) (ssF T) (ssW T) (ssO T) (ssP T) (ssT T) (ssLo T) (ssSl T) (ssFa T))))) [(0, .ref x), (1, .long (dgN td d1 i)), (3, .int (iI i))] 0 0 33 [] := by
          intro N33
          induction N33 with
          | zero => intro i hi hm33; exact absurd hm33 (by omega)
          | succ N33 ih33 =>
            intro i hi hm33
            refine z_iloadn 34 hC 2 dX1_digest_33 rfl rfl rfl ?_
            refine z_bipush 36 hC dX1_digest_34 (by decide) rfl ?_
            refine z_icmp_ge 59 39 hC dX1_digest_36 (by decide) rfl (by omega) (by omega) (fun c_2 => ?_) (fun c_2 => ?_)
            · skip
              obtain rfl : i = 12 := by omega
              obtain ⟨d2, hd2⟩ : ∃ d9 : Int64, d9 = dgN td d1 12 := ⟨_, rfl⟩
              rw [← hd2]
              refine z_iconst 60 hC dX1_digest_59 rfl ?_
              refine z_istoren (lv' := [(3, .int (iI 0)), (0, .ref x), (1, .long d2)]) 61 hC dX1_digest_60 rfl rfl (by decide) rfl ?_
              have loop61 : ∀ (N61 : Nat) (i : Int), 0 ≤ i ∧ i ≤ tm → (tm - i : Int) < N61 → Z E ((wLe g x b h h2 td bu sr lg tm hr en) ++ ((wSh g h a (ssS S) (ssF S) (ssW S) (ssO S) (ssP S) (ssT S) (ssLo S) (ssSl S) (ssFa S)) ++ ((wSh g h2 a2 (ssS T) (ssF T) (ssW T) (ssO T) (ssP T) (ssT T) (ssLo T) (ssSl T) (ssFa T))))) [(0, .ref x), (1, .long (dgM (tV bu sr lg S) 8 d2 i)), (3, .int (iI i))] 0 0 61 [] := by
                intro N61
                induction N61 with
                | zero => intro i hi hm61; exact absurd hm61 (by omega)
                | succ N61 ih61 =>
                  intro i hi hm61
                  refine z_iloadn 62 hC 2 dX1_digest_61 rfl rfl rfl ?_
                  refine z_aloadn 63 hC 0 dX1_digest_62 rfl rfl rfl ?_
                  refine z_get 66 0 6 hC hinX1 L43 dX1_digest_63 rfl rfl rfl (by decide) rfl ?_
                  refine z_icmp_ge 106 69 hC dX1_digest_66 (by decide) rfl (by omega) (by omega) (fun c_3 => ?_) (fun c_3 => ?_)
                  · skip
                    obtain rfl : tm = i := by omega
                    obtain ⟨d3, hd3⟩ : ∃ d9 : Int64, d9 = dgM (tV bu sr lg S) 8 d2 tm := ⟨_, rfl⟩
                    rw [← hd3]
                    refine z_iconst 107 hC dX1_digest_106 rfl ?_
                    refine z_istoren (lv' := [(3, .int (iI 0)), (0, .ref x), (1, .long d3)]) 108 hC dX1_digest_107 rfl rfl (by decide) rfl ?_
                    have loop108 : ∀ (N108 : Nat) (i : Int), 0 ≤ i ∧ i ≤ 120 → (120 - i : Int) < N108 → Z E ((wLe g x b h h2 td bu sr lg tm hr en) ++ ((wSh g h a (ssS S) (ssF S) (ssW S) (ssO S) (ssP S) (ssT S) (ssLo S) (ssSl S) (ssFa S)) ++ ((wSh g h2 a2 (ssS T) (ssF T) (ssW T) (ssO T) (ssP T) (ssT T) (ssLo T) (ssSl T) (ssFa T))))) [(0, .ref x), (1, .long (dgM (tclS (ssS S) (ssF S) (ssW S) (ssO S) (ssP S)) 6 d3 i)), (3, .int (iI i))] 0 0 108 [] := by
                      intro N108
                      induction N108 with
                      | zero => intro i hi hm108; exact absurd hm108 (by omega)
                      | succ N108 ih108 =>
                        intro i hi hm108
                        refine z_iloadn 109 hC 2 dX1_digest_108 rfl rfl rfl ?_
                        refine z_bipush 111 hC dX1_digest_109 (by decide) rfl ?_
                        refine z_icmp_ge 154 114 hC dX1_digest_111 (by decide) rfl (by omega) (by omega) (fun c_4 => ?_) (fun c_4 => ?_)
                        · skip
                          obtain rfl : i = 120 := by omega
                          obtain ⟨d4, hd4⟩ : ∃ d9 : Int64, d9 = dgM (tclS (ssS S) (ssF S) (ssW S) (ssO S) (ssP S)) 6 d3 120 := ⟨_, rfl⟩
                          rw [← hd4]
                          refine z_lloadn 155 hC 1 dX1_digest_154 rfl rfl rfl ?_
                          exact hret () dX1_digest_155 (by rw [hd4, hd3, hd2, hd1])
                        · skip
                          refine z_iconst 115 hC dX1_digest_114 rfl ?_
                          refine z_istore (lv' := [(4, .int (iI 0)), (0, .ref x), (1, .long (dgM (tclS (ssS S) (ssF S) (ssW S) (ssO S) (ssP S)) 6 d3 i)), (3, .int (iI i))]) 117 hC dX1_digest_115 rfl (by decide) rfl ?_
                          have loop117 : ∀ (N117 : Nat) (j : Int), 0 ≤ j ∧ j ≤ 6 → (6 - j : Int) < N117 → Z E ((wLe g x b h h2 td bu sr lg tm hr en) ++ ((wSh g h a (ssS S) (ssF S) (ssW S) (ssO S) (ssP S) (ssT S) (ssLo S) (ssSl S) (ssFa S)) ++ ((wSh g h2 a2 (ssS T) (ssF T) (ssW T) (ssO T) (ssP T) (ssT T) (ssLo T) (ssSl T) (ssFa T))))) [(0, .ref x), (1, .long (dgN ((tclS (ssS S) (ssF S) (ssW S) (ssO S) (ssP S)) i) (dgM (tclS (ssS S) (ssF S) (ssW S) (ssO S) (ssP S)) 6 d3 i) j)), (3, .int (iI i)), (4, .int (iI j))] 0 0 117 [] := by
                            intro N117
                            induction N117 with
                            | zero => intro j hj hm117; exact absurd hm117 (by omega)
                            | succ N117 ih117 =>
                              intro j hj hm117
                              refine z_iload 119 hC 3 dX1_digest_117 rfl rfl ?_
                              refine z_bipush 121 hC dX1_digest_119 (by decide) rfl ?_
                              refine z_icmp_ge 148 124 hC dX1_digest_121 (by decide) rfl (by omega) (by omega) (fun c_5 => ?_) (fun c_5 => ?_)
                              · skip
                                obtain rfl : j = 6 := by omega
                                refine z_iinc (lv' := [(3, .int (iI (i + 1))), (0, .ref x), (1, .long (dgN ((tclS (ssS S) (ssF S) (ssW S) (ssO S) (ssP S)) i) (dgM (tclS (ssS S) (ssF S) (ssW S) (ssO S) (ssP S)) 6 d3 i) 6)), (4, .int (iI 6))]) 151 2 hC dX1_digest_148 rfl rfl (by decide) rfl ?_
                                refine z_goto 108 hC dX1_digest_151 (by decide) ?_
                                refine z_lv (lv' := [(0, .ref x), (1, .long (dgN ((tclS (ssS S) (ssF S) (ssW S) (ssO S) (ssP S)) i) (dgM (tclS (ssS S) (ssF S) (ssW S) (ssO S) (ssP S)) 6 d3 i) 6)), (3, .int (iI (i + 1)))]) [1, 2, 0] rfl ?_
                                refine z_lveq (lv' := [(0, .ref x), (1, .long (dgM (tclS (ssS S) (ssF S) (ssW S) (ssO S) (ssP S)) 6 d3 (i + 1))), (3, .int (iI (i + 1)))]) (zfk (zll (by exact dgM_s (tclS (ssS S) (ssF S) (ssW S) (ssO S) (ssP S)) 6 d3 hi.1) (zfk rfl))) ?_
                                exact ih108 (i + 1) (by omega) (by omega)
                              · skip
                                refine z_lloadn 125 hC 1 dX1_digest_124 rfl rfl rfl ?_
                                refine z_ldc2 (v := 31) 128 hC (by decide +kernel) dX1_digest_125 rfl ?_
                                refine z_lmul 129 hC dX1_digest_128 rfl ?_
                                refine z_aloadn 130 hC 0 dX1_digest_129 rfl rfl rfl ?_
                                refine z_get 133 0 0 hC hinX1 L10 dX1_digest_130 rfl rfl rfl (by decide) rfl ?_
                                refine z_iloadn 134 hC 2 dX1_digest_133 rfl rfl rfl ?_
                                refine z_iload 136 hC 3 dX1_digest_134 rfl rfl ?_
                                refine z_calli (wr := [(x, .inr (1, [.ref h, .ref h2, .ref (b 0), .ref (b 1), .ref (b 2), .ref (b 3), .int (iI tm), .int (iI hr), .int (iI en)])), ((b 0), ar g 12 td), ((b 1), ar g 4 bu), ((b 2), ar g 4 sr), ((b 3), ar g 4 lg), (h2, .inr (0, [.ref (a2 0), .ref (a2 1), .ref (a2 2), .ref (a2 3), .ref (a2 4), .ref (a2 5), .int (iI (ssLo T)), .int (iI (ssSl T)), .int (iI (ssFa T))])), ((a2 0), ar g 120 (ssS T)), ((a2 1), ar g 120 (ssF T)), ((a2 2), ar g 120 (ssW T)), ((a2 3), ar g 120 (ssO T)), ((a2 4), ar g 120 (ssP T)), ((a2 5), ar g 120 (ssT T))]) (w2 := fun _ => (wLe g x b h h2 td bu sr lg tm hr en) ++ ((wSh g h a (ssS S) (ssF S) (ssW S) (ssO S) (ssP S) (ssT S) (ssLo S) (ssSl S) (ssFa S)) ++ ((wSh g h2 a2 (ssS T) (ssF T) (ssW T) (ssO T) (ssP T) (ssT T) (ssLo T) (ssSl T) (ssFa T))))) 139 hC [5, 6, 7, 8, 9, 10, 11] [0, 1, 2, 3, 4, 12, 13, 14, 15, 16, 17, 18] [0, 1, 2, 3, 4, 12, 13, 14, 15, 16, 17, 18, 5, 6, 7, 8, 9, 10, 11] (z_runV (nA := 2) hC hN (c_X0_tellCell l D g h a (ssS S) (ssF S) (ssW S) (ssO S) (ssP S) (ssT S) (ssLo S) (ssSl S) (ssFa S) i j (by omega) (by omega) hs ho) [5, 6, 7, 8, 9, 10, 11] rfl (by decide) gX1_digest_X0_tellCell (by decide +kernel) rfl rfl rfl ⟨by decide, by decide⟩ rfl rfl (nle rfl) dX1_digest_136 ⟨by decide, by decide⟩ 5 rfl rfl) rfl rfl (by decide) (by decide) (fun _ => rfl) (by decide) rfl (k2 := 0) (n2 := 0) rfl rfl (fun z_6 _ p_7 => ?_)
                                subst p_7
                                refine z_i2l 140 hC dX1_digest_139 rfl ?_
                                refine z_ladd 141 hC dX1_digest_140 rfl ?_
                                refine z_lstoren (lv' := [(1, .long (((dgN ((tclS (ssS S) (ssF S) (ssW S) (ssO S) (ssP S)) i) (dgM (tclS (ssS S) (ssF S) (ssW S) (ssO S) (ssP S)) 6 d3 i) j) * 31) + (lI (tclS (ssS S) (ssF S) (ssW S) (ssO S) (ssP S) i j)))), (0, .ref x), (3, .int (iI i)), (4, .int (iI j))]) 142 hC dX1_digest_141 rfl rfl (by decide) rfl ?_
                                refine z_iinc (lv' := [(4, .int (iI (j + 1))), (1, .long (((dgN ((tclS (ssS S) (ssF S) (ssW S) (ssO S) (ssP S)) i) (dgM (tclS (ssS S) (ssF S) (ssW S) (ssO S) (ssP S)) 6 d3 i) j) * 31) + (lI (tclS (ssS S) (ssF S) (ssW S) (ssO S) (ssP S) i j)))), (0, .ref x), (3, .int (iI i))]) 145 3 hC dX1_digest_142 rfl rfl (by decide) rfl ?_
                                refine z_goto 117 hC dX1_digest_145 (by decide) ?_
                                refine z_lv (lv' := [(0, .ref x), (1, .long (((dgN ((tclS (ssS S) (ssF S) (ssW S) (ssO S) (ssP S)) i) (dgM (tclS (ssS S) (ssF S) (ssW S) (ssO S) (ssP S)) 6 d3 i) j) * 31) + (lI (tclS (ssS S) (ssF S) (ssW S) (ssO S) (ssP S) i j)))), (3, .int (iI i)), (4, .int (iI (j + 1)))]) [2, 1, 3, 0] rfl ?_
                                refine z_lveq (lv' := [(0, .ref x), (1, .long (dgN ((tclS (ssS S) (ssF S) (ssW S) (ssO S) (ssP S)) i) (dgM (tclS (ssS S) (ssF S) (ssW S) (ssO S) (ssP S)) 6 d3 i) (j + 1))), (3, .int (iI i)), (4, .int (iI (j + 1)))]) (zfk (zll (by exact dgN_s ((tclS (ssS S) (ssF S) (ssW S) (ssO S) (ssP S)) i) (dgM (tclS (ssS S) (ssF S) (ssW S) (ssO S) (ssP S)) 6 d3 i) hj.1) (zfk (zfk rfl)))) ?_
                                exact ih117 (j + 1) (by omega) (by omega)
                          refine z_lv (lv' := [(0, .ref x), (1, .long (dgM (tclS (ssS S) (ssF S) (ssW S) (ssO S) (ssP S)) 6 d3 i)), (3, .int (iI i)), (4, .int (iI 0))]) [1, 2, 3, 0] rfl ?_
                          refine z_lveq (lv' := [(0, .ref x), (1, .long (dgN ((tclS (ssS S) (ssF S) (ssW S) (ssO S) (ssP S)) i) (dgM (tclS (ssS S) (ssF S) (ssW S) (ssO S) (ssP S)) 6 d3 i) 0)), (3, .int (iI i)), (4, .int (iI 0))]) (zfk (zll (by exact (dgN_0 ((tclS (ssS S) (ssF S) (ssW S) (ssO S) (ssP S)) i) (dgM (tclS (ssS S) (ssF S) (ssW S) (ssO S) (ssP S)) 6 d3 i)).symm) (zfk (zfk rfl)))) ?_
                          exact loop117 ((6 - 0 + 1 : Int).toNat) 0 (by omega) (by omega)
                    refine z_lv (lv' := [(0, .ref x), (1, .long d3), (3, .int (iI 0))]) [1, 2, 0] rfl ?_
                    refine z_lveq (lv' := [(0, .ref x), (1, .long (dgM (tclS (ssS S) (ssF S) (ssW S) (ssO S) (ssP S)) 6 d3 0)), (3, .int (iI 0))]) (zfk (zll (by exact (dgM_0 (tclS (ssS S) (ssF S) (ssW S) (ssO S) (ssP S)) 6 d3).symm) (zfk rfl))) ?_
                    exact loop108 ((120 - 0 + 1 : Int).toNat) 0 (by omega) (by omega)
                  · skip
                    refine z_iconst 70 hC dX1_digest_69 rfl ?_
                    refine z_istore (lv' := [(4, .int (iI 0)), (0, .ref x), (1, .long (dgM (tV bu sr lg S) 8 d2 i)), (3, .int (iI i))]) 72 hC dX1_digest_70 rfl (by decide) rfl ?_
                    have loop72 : ∀ (N72 : Nat) (j : Int), 0 ≤ j ∧ j ≤ 8 → (8 - j : Int) < N72 → Z E ((wLe g x b h h2 td bu sr lg tm hr en) ++ ((wSh g h a (ssS S) (ssF S) (ssW S) (ssO S) (ssP S) (ssT S) (ssLo S) (ssSl S) (ssFa S)) ++ ((wSh g h2 a2 (ssS T) (ssF T) (ssW T) (ssO T) (ssP T) (ssT T) (ssLo T) (ssSl T) (ssFa T))))) [(0, .ref x), (1, .long (dgN (tV bu sr lg S i) (dgM (tV bu sr lg S) 8 d2 i) j)), (3, .int (iI i)), (4, .int (iI j))] 0 0 72 [] := by
                      intro N72
                      induction N72 with
                      | zero => intro j hj hm72; exact absurd hm72 (by omega)
                      | succ N72 ih72 =>
                        intro j hj hm72
                        refine z_iload 74 hC 3 dX1_digest_72 rfl rfl ?_
                        refine z_bipush 76 hC dX1_digest_74 (by decide) rfl ?_
                        refine z_icmp_ge 100 79 hC dX1_digest_76 (by decide) rfl (by omega) (by omega) (fun c_8 => ?_) (fun c_8 => ?_)
                        · skip
                          obtain rfl : j = 8 := by omega
                          refine z_iinc (lv' := [(3, .int (iI (i + 1))), (0, .ref x), (1, .long (dgN (tV bu sr lg S i) (dgM (tV bu sr lg S) 8 d2 i) 8)), (4, .int (iI 8))]) 103 2 hC dX1_digest_100 rfl rfl (by decide) rfl ?_
                          refine z_goto 61 hC dX1_digest_103 (by decide) ?_
                          refine z_lv (lv' := [(0, .ref x), (1, .long (dgN (tV bu sr lg S i) (dgM (tV bu sr lg S) 8 d2 i) 8)), (3, .int (iI (i + 1)))]) [1, 2, 0] rfl ?_
                          refine z_lveq (lv' := [(0, .ref x), (1, .long (dgM (tV bu sr lg S) 8 d2 (i + 1))), (3, .int (iI (i + 1)))]) (zfk (zll (by exact dgM_s (tV bu sr lg S) 8 d2 hi.1) (zfk rfl))) ?_
                          exact ih61 (i + 1) (by omega) (by omega)
                        · skip
                          refine z_lloadn 80 hC 1 dX1_digest_79 rfl rfl rfl ?_
                          refine z_ldc2 (v := 31) 83 hC (by decide +kernel) dX1_digest_80 rfl ?_
                          refine z_lmul 84 hC dX1_digest_83 rfl ?_
                          refine z_aloadn 85 hC 0 dX1_digest_84 rfl rfl rfl ?_
                          refine z_iloadn 86 hC 2 dX1_digest_85 rfl rfl rfl ?_
                          refine z_iload 88 hC 3 dX1_digest_86 rfl rfl ?_
                          refine z_calli (wr := []) (w2 := fun _ => (wLe g x b h h2 td bu sr lg tm hr en) ++ ((wSh g h a (ssS S) (ssF S) (ssW S) (ssO S) (ssP S) (ssT S) (ssLo S) (ssSl S) (ssFa S)) ++ ((wSh g h2 a2 (ssS T) (ssF T) (ssW T) (ssO T) (ssP T) (ssT T) (ssLo T) (ssSl T) (ssFa T))))) 91 hC [0, 1, 2, 3, 4, 5, 6, 7, 8, 9, 10, 11, 12, 13, 14, 15, 16, 17, 18] [] [0, 1, 2, 3, 4, 5, 6, 7, 8, 9, 10, 11, 12, 13, 14, 15, 16, 17, 18] (z_runV (nA := 2) hC hN (c_X1_team_ok l D g x b h h2 a a2 td bu sr lg tm hr en S T i j hI (by omega) (by omega)) [0, 1, 2, 3, 4, 5, 6, 7, 8, 9, 10, 11, 12, 13, 14, 15, 16, 17, 18] rfl (by decide) gX1_digest_X1_team (by decide +kernel) rfl rfl rfl ⟨by decide, by decide⟩ rfl rfl (nle rfl) dX1_digest_88 ⟨by decide, by decide⟩ 0 rfl rfl) rfl rfl (by decide) (by decide) (fun _ => rfl) (by decide) rfl (k2 := 0) (n2 := 0) rfl rfl (fun z_9 _ p_10 => ?_)
                          subst p_10
                          refine z_i2l 92 hC dX1_digest_91 rfl ?_
                          refine z_ladd 93 hC dX1_digest_92 rfl ?_
                          refine z_lstoren (lv' := [(1, .long (((dgN (tV bu sr lg S i) (dgM (tV bu sr lg S) 8 d2 i) j) * 31) + (lI (tV bu sr lg S i j)))), (0, .ref x), (3, .int (iI i)), (4, .int (iI j))]) 94 hC dX1_digest_93 rfl rfl (by decide) rfl ?_
                          refine z_iinc (lv' := [(4, .int (iI (j + 1))), (1, .long (((dgN (tV bu sr lg S i) (dgM (tV bu sr lg S) 8 d2 i) j) * 31) + (lI (tV bu sr lg S i j)))), (0, .ref x), (3, .int (iI i))]) 97 3 hC dX1_digest_94 rfl rfl (by decide) rfl ?_
                          refine z_goto 72 hC dX1_digest_97 (by decide) ?_
                          refine z_lv (lv' := [(0, .ref x), (1, .long (((dgN (tV bu sr lg S i) (dgM (tV bu sr lg S) 8 d2 i) j) * 31) + (lI (tV bu sr lg S i j)))), (3, .int (iI i)), (4, .int (iI (j + 1)))]) [2, 1, 3, 0] rfl ?_
                          refine z_lveq (lv' := [(0, .ref x), (1, .long (dgN (tV bu sr lg S i) (dgM (tV bu sr lg S) 8 d2 i) (j + 1))), (3, .int (iI i)), (4, .int (iI (j + 1)))]) (zfk (zll (by exact dgN_s (tV bu sr lg S i) (dgM (tV bu sr lg S) 8 d2 i) hj.1) (zfk (zfk rfl)))) ?_
                          exact ih72 (j + 1) (by omega) (by omega)
                    refine z_lv (lv' := [(0, .ref x), (1, .long (dgM (tV bu sr lg S) 8 d2 i)), (3, .int (iI i)), (4, .int (iI 0))]) [1, 2, 3, 0] rfl ?_
                    refine z_lveq (lv' := [(0, .ref x), (1, .long (dgN (tV bu sr lg S i) (dgM (tV bu sr lg S) 8 d2 i) 0)), (3, .int (iI i)), (4, .int (iI 0))]) (zfk (zll (by exact (dgN_0 (tV bu sr lg S i) (dgM (tV bu sr lg S) 8 d2 i)).symm) (zfk (zfk rfl)))) ?_
                    exact loop72 ((8 - 0 + 1 : Int).toNat) 0 (by omega) (by omega)
              refine z_lv (lv' := [(0, .ref x), (1, .long d2), (3, .int (iI 0))]) [1, 2, 0] rfl ?_
              refine z_lveq (lv' := [(0, .ref x), (1, .long (dgM (tV bu sr lg S) 8 d2 0)), (3, .int (iI 0))]) (zfk (zll (by exact (dgM_0 (tV bu sr lg S) 8 d2).symm) (zfk rfl))) ?_
              exact loop61 ((tm - 0 + 1 : Int).toNat) 0 (by omega) (by omega)
            · skip
              refine z_lloadn 40 hC 1 dX1_digest_39 rfl rfl rfl ?_
              refine z_ldc2 (v := 31) 43 hC (by decide +kernel) dX1_digest_40 rfl ?_
              refine z_lmul 44 hC dX1_digest_43 rfl ?_
              refine z_aloadn 45 hC 0 dX1_digest_44 rfl rfl rfl ?_
              refine z_get 48 0 2 hC hinX1 L28 dX1_digest_45 rfl rfl rfl (by decide) rfl ?_
              refine z_iloadn 49 hC 2 dX1_digest_48 rfl rfl rfl ?_
              refine z_iald 50 1 hC dX1_digest_49 rfl rfl (by decide) (by omega) ?_
              have b_11 := htd i (by omega) (by omega)
              refine z_i2l 51 hC dX1_digest_50 rfl ?_
              refine z_ladd 52 hC dX1_digest_51 rfl ?_
              refine z_lstoren (lv' := [(1, .long (((dgN td d1 i) * 31) + (lI (td i)))), (0, .ref x), (3, .int (iI i))]) 53 hC dX1_digest_52 rfl rfl (by decide) rfl ?_
              refine z_iinc (lv' := [(3, .int (iI (i + 1))), (1, .long (((dgN td d1 i) * 31) + (lI (td i)))), (0, .ref x)]) 56 2 hC dX1_digest_53 rfl rfl (by decide) rfl ?_
              refine z_goto 33 hC dX1_digest_56 (by decide) ?_
              refine z_lv (lv' := [(0, .ref x), (1, .long (((dgN td d1 i) * 31) + (lI (td i)))), (3, .int (iI (i + 1)))]) [2, 1, 0] rfl ?_
              refine z_lveq (lv' := [(0, .ref x), (1, .long (dgN td d1 (i + 1))), (3, .int (iI (i + 1)))]) (zfk (zll (by exact dgN_s td d1 hi.1) (zfk rfl))) ?_
              exact ih33 (i + 1) (by omega) (by omega)
        refine z_lv (lv' := [(0, .ref x), (1, .long d1), (3, .int (iI 0))]) [1, 2, 0] rfl ?_
        refine z_lveq (lv' := [(0, .ref x), (1, .long (dgN td d1 0)), (3, .int (iI 0))]) (zfk (zll (by exact (dgN_0 td d1).symm) (zfk rfl))) ?_
        exact loop33 ((12 - 0 + 1 : Int).toNat) 0 (by omega) (by omega)
      · skip
        refine z_lloadn 13 hC 1 dX1_digest_12 rfl rfl rfl ?_
        refine z_ldc2 (v := 31) 16 hC (by decide +kernel) dX1_digest_13 rfl ?_
        refine z_lmul 17 hC dX1_digest_16 rfl ?_
        refine z_aloadn 18 hC 0 dX1_digest_17 rfl rfl rfl ?_
        refine z_iloadn 19 hC 2 dX1_digest_18 rfl rfl rfl ?_
        refine z_calli (wr := []) (w2 := fun _ => (wLe g x b h h2 td bu sr lg tm hr en) ++ ((wSh g h a (ssS S) (ssF S) (ssW S) (ssO S) (ssP S) (ssT S) (ssLo S) (ssSl S) (ssFa S)) ++ ((wSh g h2 a2 (ssS T) (ssF T) (ssW T) (ssO T) (ssP T) (ssT T) (ssLo T) (ssSl T) (ssFa T))))) 22 hC [0, 1, 2, 3, 4, 5, 6, 7, 8, 9, 10, 11, 12, 13, 14, 15, 16, 17, 18] [] [0, 1, 2, 3, 4, 5, 6, 7, 8, 9, 10, 11, 12, 13, 14, 15, 16, 17, 18] (z_runV (nA := 1) hC hN (c_X1_count_ok l D g x b h h2 a a2 td bu sr lg tm hr en S T i hI (by omega)) [0, 1, 2, 3, 4, 5, 6, 7, 8, 9, 10, 11, 12, 13, 14, 15, 16, 17, 18] rfl (by decide) gX1_digest_X1_count (by decide +kernel) rfl rfl rfl ⟨by decide, by decide⟩ rfl rfl (nle rfl) dX1_digest_19 ⟨by decide, by decide⟩ 0 rfl rfl) rfl rfl (by decide) (by decide) (fun _ => rfl) (by decide) rfl (k2 := 0) (n2 := 0) rfl rfl (fun z_12 _ p_13 => ?_)
        subst p_13
        refine z_i2l 23 hC dX1_digest_22 rfl ?_
        refine z_ladd 24 hC dX1_digest_23 rfl ?_
        refine z_lstoren (lv' := [(1, .long (((dgN (cV S tm hr en) 503 i) * 31) + (lI (cV S tm hr en i)))), (0, .ref x), (3, .int (iI i))]) 25 hC dX1_digest_24 rfl rfl (by decide) rfl ?_
        refine z_iinc (lv' := [(3, .int (iI (i + 1))), (1, .long (((dgN (cV S tm hr en) 503 i) * 31) + (lI (cV S tm hr en i)))), (0, .ref x)]) 28 2 hC dX1_digest_25 rfl rfl (by decide) rfl ?_
        refine z_goto 6 hC dX1_digest_28 (by decide) ?_
        refine z_lv (lv' := [(0, .ref x), (1, .long (((dgN (cV S tm hr en) 503 i) * 31) + (lI (cV S tm hr en i)))), (3, .int (iI (i + 1)))]) [2, 1, 0] rfl ?_
        refine z_lveq (lv' := [(0, .ref x), (1, .long (dgN (cV S tm hr en) 503 (i + 1))), (3, .int (iI (i + 1)))]) (zfk (zll (by exact dgN_s (cV S tm hr en) 503 hi.1) (zfk rfl))) ?_
        exact ih6 (i + 1) (by omega) (by omega)
  refine z_lv (lv' := [(0, .ref x), (1, .long 503), (3, .int (iI 0))]) [2, 1, 0] rfl ?_
  refine z_lveq (lv' := [(0, .ref x), (1, .long (dgN (cV S tm hr en) 503 0)), (3, .int (iI 0))]) (zfk (zll (by exact (dgN_0 (cV S tm hr en) 503).symm) (zfk rfl))) ?_
  exact loop6 ((9 - 0 + 1 : Int).toNat) 0 (by omega) (by omega)
