set_option maxHeartbeats 4000000 in
set_option maxRecDepth 100000 in
theorem c_X1_pass (l : Launch) (hlf : l.stackTraces = false) (D : va_G) (g : Nat → ClassId) (x : Nat) (b : Nat → Nat) (h h2 : Nat) (a a2 : Nat → Nat) (td bu sr lg : Int → Int) (tm hr en : Int) (S T : SS) (v : Int) (hI : LI td bu sr lg tm hr S) (hv : -2147483648 ≤ v ∧ v ≤ 2147483647) : ZXi (S := Unit) l yX1_pass wsX1_pass ({ frames := 7, cells := 1, slots := 6, locals := 290 }) D g [.ref x, .int (iI v)] ((wLe g x b h h2 td bu sr lg tm hr en) ++ ((wSh g h a (ssS S) (ssF S) (ssW S) (ssO S) (ssP S) (ssT S) (ssLo S) (ssSl S) (ssFa S)) ++ ((wSh g h2 a2 (ssS T) (ssF T) (ssW T) (ssO T) (ssP T) (ssT T) (ssLo T) (ssSl T) (ssFa T))))) (fun z _ => (1 ≤ v ∧ v ≤ 48) ∧ z = ssFa (hrs td hr S v) - ssFa S) (fun _ => (wLe g x b h h2 td bu (fun _ => 20) lg tm (hr + v) en) ++ ((wSh g h a (ssS (hrs td hr S v)) (ssF (hrs td hr S v)) (ssW (hrs td hr S v)) (ssO (hrs td hr S v)) (ssP (hrs td hr S v)) (ssT (hrs td hr S v)) (ssLo (hrs td hr S v)) (ssSl (hrs td hr S v)) (ssFa (hrs td hr S v))) ++ ((wSh g h2 a2 (ssS T) (ssF T) (ssW T) (ssO T) (ssP T) (ssT T) (ssLo T) (ssSl T) (ssFa T))))) (fun Ex => Ex = zXa ∧ ¬ (1 ≤ v ∧ v ≤ 48)) 1 6 := by
  have hinX0 : ∀ w ∈ u_ws RX0 TX0 9, w ∈ wsX1_pass := by decide +kernel
  have hinX1 : ∀ w ∈ u_ws RX1 TX1 9, w ∈ wsX1_pass := by decide +kernel
  have L10 : Cond.fieldLink RX1 10 "SandcastleLeague" "shore" "LSandcastleLeague$Shore;" ∈ wsX1_pass := by decide +kernel
  have L34 : Cond.fieldLink RX1 34 "SandcastleLeague" "strength" "[I" ∈ wsX1_pass := by decide +kernel
  have L131 : Cond.fieldLink RX1 131 "SandcastleLeague" "hour" "I" ∈ wsX1_pass := by decide +kernel
  obtain ⟨htd, hbu, hsr, hlg, htm, hhr, hSB, hT⟩ := id hI
  obtain ⟨hs, hf, hw, ho, hp⟩ := id hSB
  refine ZXi.of hlf cX1_pass 3 [(0, .ref x), (1, .int (iI v))] (by decide +kernel) rfl (nle rfl) rfl rfl ?_
  intro E hC hN hX hret hnew hprop
  refine z_iloadn 1 hC 1 dX1_pass_0 rfl rfl rfl ?_
  refine z_bipush 3 hC dX1_pass_1 (by decide) rfl ?_
  refine z_callXv (wr := [(x, .inr (1, [.ref h, .ref h2, .ref (b 0), .ref (b 1), .ref (b 2), .ref (b 3), .int (iI tm), .int (iI hr), .int (iI en)])), ((b 0), ar g 12 td), ((b 1), ar g 4 bu), ((b 2), ar g 4 sr), ((b 3), ar g 4 lg), (h, .inr (0, [.ref (a 0), .ref (a 1), .ref (a 2), .ref (a 3), .ref (a 4), .ref (a 5), .int (iI (ssLo S)), .int (iI (ssSl S)), .int (iI (ssFa S))])), ((a 0), ar g 120 (ssS S)), ((a 1), ar g 120 (ssF S)), ((a 2), ar g 120 (ssW S)), ((a 3), ar g 120 (ssO S)), ((a 4), ar g 120 (ssP S)), ((a 5), ar g 120 (ssT S)), (h2, .inr (0, [.ref (a2 0), .ref (a2 1), .ref (a2 2), .ref (a2 3), .ref (a2 4), .ref (a2 5), .int (iI (ssLo T)), .int (iI (ssSl T)), .int (iI (ssFa T))])), ((a2 0), ar g 120 (ssS T)), ((a2 1), ar g 120 (ssF T)), ((a2 2), ar g 120 (ssW T)), ((a2 3), ar g 120 (ssO T)), ((a2 4), ar g 120 (ssP T)), ((a2 5), ar g 120 (ssT T))]) (w2 := fun _ => (wLe g x b h h2 td bu sr lg tm hr en) ++ ((wSh g h a (ssS S) (ssF S) (ssW S) (ssO S) (ssP S) (ssT S) (ssLo S) (ssSl S) (ssFa S)) ++ ((wSh g h2 a2 (ssS T) (ssF T) (ssW T) (ssO T) (ssP T) (ssT T) (ssLo T) (ssSl T) (ssFa T))))) 6 hC [] [0, 1, 2, 3, 4, 5, 6, 7, 8, 9, 10, 11, 12, 13, 14, 15, 16, 17, 18] [0, 1, 2, 3, 4, 5, 6, 7, 8, 9, 10, 11, 12, 13, 14, 15, 16, 17, 18] [0, 1, 2, 3, 4, 5, 6, 7, 8, 9, 10, 11, 12, 13, 14, 15, 16, 17, 18] (z_runXS (nA := 2) hC hN hX (c_X1_requireHours l hlf D g v 48 (by omega) (by omega)) [] rfl (by decide) gX1_pass_X1_requireHours (by decide +kernel) rfl rfl rfl ⟨by decide, by decide⟩ rfl rfl (nle rfl) dX1_pass_3 ⟨by decide, by decide⟩) rfl rfl (by decide) (by decide) rfl (by decide) (fun _ => rfl) (by decide) rfl (k2 := 1) (n2 := 6) rfl rfl (hprop (by decide) (by decide) (by intro Ex q9; have q8 := q9.2; exact ⟨q9.1, by omega⟩)) (fun _ p_1 => ?_)
  refine z_aloadn 7 hC 0 dX1_pass_6 rfl rfl rfl ?_
  refine z_get 10 0 0 hC hinX1 L10 dX1_pass_7 rfl rfl rfl (by decide) rfl ?_
  refine z_getN (host := RX1) 13 5 8 hC hN hinX0 (by decide +kernel) dX1_pass_10 rfl rfl rfl (by decide) rfl ?_
  refine z_istoren (lv' := [(2, .int (iI (ssFa S))), (0, .ref x), (1, .int (iI v))]) 14 hC dX1_pass_13 rfl rfl (by decide) rfl ?_
  refine z_aloadn 15 hC 1 dX1_pass_14 rfl rfl rfl ?_
  refine z_aloadn 16 hC 1 dX1_pass_15 rfl rfl rfl ?_
  refine z_get 19 0 0 hC hinX1 L10 dX1_pass_16 rfl rfl rfl (by decide) rfl ?_
  refine z_iloadn 20 hC 2 dX1_pass_19 rfl rfl rfl ?_
  refine z_callv (wr := [(h2, .inr (0, [.ref (a2 0), .ref (a2 1), .ref (a2 2), .ref (a2 3), .ref (a2 4), .ref (a2 5), .int (iI (ssLo T)), .int (iI (ssSl T)), .int (iI (ssFa T))])), ((a2 0), ar g 120 (ssS T)), ((a2 1), ar g 120 (ssF T)), ((a2 2), ar g 120 (ssW T)), ((a2 3), ar g 120 (ssO T)), ((a2 4), ar g 120 (ssP T)), ((a2 5), ar g 120 (ssT T))]) (w2 := fun _ => (wLe g x b h h2 td bu sr lg tm hr en) ++ ((wSh g h a (ssS (hrs td hr S v)) (ssF (hrs td hr S v)) (ssW (hrs td hr S v)) (ssO (hrs td hr S v)) (ssP (hrs td hr S v)) (ssT (hrs td hr S v)) (ssLo (hrs td hr S v)) (ssSl (hrs td hr S v)) (ssFa (hrs td hr S v))) ++ ((wSh g h2 a2 (ssS T) (ssF T) (ssW T) (ssO T) (ssP T) (ssT T) (ssLo T) (ssSl T) (ssFa T))))) 23 hC [0, 1, 2, 3, 4, 5, 6, 7, 8, 9, 10, 11] [12, 13, 14, 15, 16, 17, 18] [7, 8, 9, 10, 11, 12, 13, 14, 15, 16, 17, 18, 0, 1, 2, 3, 4, 5, 6] (z_runV (nA := 2) hC hN (c_X1_letHoursGoBy l D g x b h h2 h a td bu sr lg tm hr en S v htd hhr (by omega) hSB) [0, 1, 2, 3, 4, 5, 6, 7, 8, 9, 10, 11] rfl (by decide) gX1_pass_X1_letHoursGoBy (by decide +kernel) rfl rfl rfl ⟨by decide, by decide⟩ rfl rfl (nle rfl) dX1_pass_20 ⟨by decide, by decide⟩ 0 rfl rfl) rfl rfl (by decide) (by decide) (fun _ => rfl) (by decide) rfl (k2 := 1) (n2 := 6) rfl rfl (fun _ p_2 => ?_)
  refine z_aloadn 24 hC 1 dX1_pass_23 rfl rfl rfl ?_
  refine z_dup 25 hC dX1_pass_24 rfl rfl ?_
  refine z_get 28 0 7 hC hinX1 L131 dX1_pass_25 rfl rfl rfl (by decide) rfl ?_
  refine z_iloadn 29 hC 2 dX1_pass_28 rfl rfl rfl ?_
  refine z_iadd 30 hC dX1_pass_29 rfl ?_
  refine z_put (ty := .int) (ws' := (wLe g x b h h2 td bu sr lg tm (hr + v) en) ++ ((wSh g h a (ssS (hrs td hr S v)) (ssF (hrs td hr S v)) (ssW (hrs td hr S v)) (ssO (hrs td hr S v)) (ssP (hrs td hr S v)) (ssT (hrs td hr S v)) (ssLo (hrs td hr S v)) (ssSl (hrs td hr S v)) (ssFa (hrs td hr S v))) ++ ((wSh g h2 a2 (ssS T) (ssF T) (ssW T) (ssO T) (ssP T) (ssT T) (ssLo T) (ssSl T) (ssFa T))))) 33 0 7 hC tyX1 tyX1_ok nmX1 hinX1 L131 dX1_pass_30 rfl rfl rfl (by decide) rfl (by decide +kernel) rfl rfl (nle rfl) rfl ?_
  refine z_aloadn 34 hC 1 dX1_pass_33 rfl rfl rfl ?_
  refine z_get 37 0 4 hC hinX1 L34 dX1_pass_34 rfl rfl rfl (by decide) rfl ?_
  refine z_bipush 39 hC dX1_pass_37 (by decide) rfl ?_
  refine z_callv (wr := [(x, .inr (1, [.ref h, .ref h2, .ref (b 0), .ref (b 1), .ref (b 2), .ref (b 3), .int (iI tm), .int (iI (hr + v)), .int (iI en)])), ((b 0), ar g 12 td), ((b 1), ar g 4 bu), ((b 3), ar g 4 lg), (h, .inr (0, [.ref (a 0), .ref (a 1), .ref (a 2), .ref (a 3), .ref (a 4), .ref (a 5), .int (iI (ssLo (hrs td hr S v))), .int (iI (ssSl (hrs td hr S v))), .int (iI (ssFa (hrs td hr S v)))])), ((a 0), ar g 120 (ssS (hrs td hr S v))), ((a 1), ar g 120 (ssF (hrs td hr S v))), ((a 2), ar g 120 (ssW (hrs td hr S v))), ((a 3), ar g 120 (ssO (hrs td hr S v))), ((a 4), ar g 120 (ssP (hrs td hr S v))), ((a 5), ar g 120 (ssT (hrs td hr S v))), (h2, .inr (0, [.ref (a2 0), .ref (a2 1), .ref (a2 2), .ref (a2 3), .ref (a2 4), .ref (a2 5), .int (iI (ssLo T)), .int (iI (ssSl T)), .int (iI (ssFa T))])), ((a2 0), ar g 120 (ssS T)), ((a2 1), ar g 120 (ssF T)), ((a2 2), ar g 120 (ssW T)), ((a2 3), ar g 120 (ssO T)), ((a2 4), ar g 120 (ssP T)), ((a2 5), ar g 120 (ssT T))]) (w2 := fun _ => (wLe g x b h h2 td bu (fun _ => 20) lg tm (hr + v) en) ++ ((wSh g h a (ssS (hrs td hr S v)) (ssF (hrs td hr S v)) (ssW (hrs td hr S v)) (ssO (hrs td hr S v)) (ssP (hrs td hr S v)) (ssT (hrs td hr S v)) (ssLo (hrs td hr S v)) (ssSl (hrs td hr S v)) (ssFa (hrs td hr S v))) ++ ((wSh g h2 a2 (ssS T) (ssF T) (ssW T) (ssO T) (ssP T) (ssT T) (ssLo T) (ssSl T) (ssFa T))))) 42 hC [3] [0, 1, 2, 4, 5, 6, 7, 8, 9, 10, 11, 12, 13, 14, 15, 16, 17, 18] [0, 1, 2, 18, 3, 4, 5, 6, 7, 8, 9, 10, 11, 12, 13, 14, 15, 16, 17] (z_runS (nA := 2) hC hN (c_J7_fill_53178 l D g (b 2) 4 sr 20 (by omega)) [3] rfl (by decide) gX1_pass_J7_fill_53178 (by decide +kernel) rfl rfl rfl ⟨by decide, by decide⟩ rfl rfl (nle rfl) dX1_pass_39 ⟨by decide, by decide⟩) rfl rfl (by decide) (by decide) (fun _ => rfl) (by decide) rfl (k2 := 1) (n2 := 6) rfl rfl (fun _ p_3 => ?_)
  refine z_aloadn 43 hC 1 dX1_pass_42 rfl rfl rfl ?_
  refine z_get 46 0 0 hC hinX1 L10 dX1_pass_43 rfl rfl rfl (by decide) rfl ?_
  refine z_getN (host := RX1) 49 5 8 hC hN hinX0 (by decide +kernel) dX1_pass_46 rfl rfl rfl (by decide) rfl ?_
  refine z_iloadn 50 hC 0 dX1_pass_49 rfl rfl rfl ?_
  refine z_isub 51 hC dX1_pass_50 rfl ?_
  exact hret () dX1_pass_51 rfl (by exact ⟨by omega, rfl⟩)
set_option maxHeartbeats 4000000 in
set_option maxRecDepth 100000 in
theorem c_X1_beginRound (l : Launch) (D : va_G) (g : Nat → ClassId) (x : Nat) (b : Nat → Nat) (h tr : Nat) (a : Nat → Nat) (td bu sr lg : Int → Int) (tm hr en : Int) (s f w o p t : Int → Int) (lo sl fa : Int) : ZMv (S := Unit) l yX1_beginRound wsX1_beginRound ({ frames := 3, cells := 0, slots := 0, locals := 160 }) D g [.ref x] ((wLe g x b h tr td bu sr lg tm hr en) ++ ((wSh g h a s f w o p t lo sl fa))) (fun _ => True) (fun _ => (wLe g x b h tr td (fun _ => 0) (fun _ => 20) lg tm hr en) ++ ((wSh g h a (fun _ => 4) (fun _ => 0) (fun _ => 0) (fun _ => (-1)) (fun _ => 0) (fun _ => 0) 0 0 0))) 0 0 := by
  have hinX1 : ∀ w ∈ u_ws RX1 TX1 9, w ∈ wsX1_beginRound := by decide +kernel
  have L10 : Cond.fieldLink RX1 10 "SandcastleLeague" "shore" "LSandcastleLeague$Shore;" ∈ wsX1_beginRound := by decide +kernel
  have L31 : Cond.fieldLink RX1 31 "SandcastleLeague" "bucket" "[I" ∈ wsX1_beginRound := by decide +kernel
  have L34 : Cond.fieldLink RX1 34 "SandcastleLeague" "strength" "[I" ∈ wsX1_beginRound := by decide +kernel
  refine ZMv.of (ty := .int) (own := RX1) cX1_beginRound 1 [(0, .ref x)] (by decide +kernel) rfl (nle rfl) rfl rfl ?_
  intro E hC hN hret
  refine z_aloadn 1 hC 0 dX1_beginRound_0 rfl rfl rfl ?_
  refine z_get 4 0 0 hC hinX1 L10 dX1_beginRound_1 rfl rfl rfl (by decide) rfl ?_
  refine z_callv (wr := [(x, .inr (1, [.ref h, .ref tr, .ref (b 0), .ref (b 1), .ref (b 2), .ref (b 3), .int (iI tm), .int (iI hr), .int (iI en)])), ((b 0), ar g 12 td), ((b 1), ar g 4 bu), ((b 2), ar g 4 sr), ((b 3), ar g 4 lg)]) (w2 := fun _ => (wLe g x b h tr td bu sr lg tm hr en) ++ ((wSh g h a (fun _ => 4) (fun _ => 0) (fun _ => 0) (fun _ => (-1)) (fun _ => 0) (fun _ => 0) 0 0 0))) 7 hC [5, 6, 7, 8, 9, 10, 11] [0, 1, 2, 3, 4] [0, 1, 2, 3, 4, 5, 6, 7, 8, 9, 10, 11] (z_runV (nA := 0) hC hN (c_X0_begin l D g h a s f w o p t lo sl fa  ) [5, 6, 7, 8, 9, 10, 11] rfl (by decide) gX1_beginRound_X0_begin (by decide +kernel) rfl rfl rfl ⟨by decide, by decide⟩ rfl rfl (nle rfl) dX1_beginRound_4 ⟨by decide, by decide⟩ 5 rfl rfl) rfl rfl (by decide) (by decide) (fun _ => rfl) (by decide) rfl (k2 := 0) (n2 := 0) rfl rfl (fun _ p_1 => ?_)
  refine z_aloadn 8 hC 0 dX1_beginRound_7 rfl rfl rfl ?_
  refine z_get 11 0 3 hC hinX1 L31 dX1_beginRound_8 rfl rfl rfl (by decide) rfl ?_
  refine z_iconst 12 hC dX1_beginRound_11 rfl ?_
  refine z_callv (wr := [(x, .inr (1, [.ref h, .ref tr, .ref (b 0), .ref (b 1), .ref (b 2), .ref (b 3), .int (iI tm), .int (iI hr), .int (iI en)])), ((b 0), ar g 12 td), ((b 2), ar g 4 sr), ((b 3), ar g 4 lg), (h, .inr (0, [.ref (a 0), .ref (a 1), .ref (a 2), .ref (a 3), .ref (a 4), .ref (a 5), .int (iI 0), .int (iI 0), .int (iI 0)])), ((a 0), ar g 120 (fun _ => 4)), ((a 1), ar g 120 (fun _ => 0)), ((a 2), ar g 120 (fun _ => 0)), ((a 3), ar g 120 (fun _ => (-1))), ((a 4), ar g 120 (fun _ => 0)), ((a 5), ar g 120 (fun _ => 0))]) (w2 := fun _ => (wLe g x b h tr td (fun _ => 0) sr lg tm hr en) ++ ((wSh g h a (fun _ => 4) (fun _ => 0) (fun _ => 0) (fun _ => (-1)) (fun _ => 0) (fun _ => 0) 0 0 0))) 15 hC [2] [0, 1, 3, 4, 5, 6, 7, 8, 9, 10, 11] [0, 1, 11, 2, 3, 4, 5, 6, 7, 8, 9, 10] (z_runS (nA := 2) hC hN (c_J7_fill_53178 l D g (b 1) 4 bu 0 (by omega)) [2] rfl (by decide) gX1_beginRound_J7_fill_53178 (by decide +kernel) rfl rfl rfl ⟨by decide, by decide⟩ rfl rfl (nle rfl) dX1_beginRound_12 ⟨by decide, by decide⟩) rfl rfl (by decide) (by decide) (fun _ => rfl) (by decide) rfl (k2 := 0) (n2 := 0) rfl rfl (fun _ p_2 => ?_)
  refine z_aloadn 16 hC 0 dX1_beginRound_15 rfl rfl rfl ?_
  refine z_get 19 0 4 hC hinX1 L34 dX1_beginRound_16 rfl rfl rfl (by decide) rfl ?_
  refine z_bipush 21 hC dX1_beginRound_19 (by decide) rfl ?_
  refine z_callv (wr := [(x, .inr (1, [.ref h, .ref tr, .ref (b 0), .ref (b 1), .ref (b 2), .ref (b 3), .int (iI tm), .int (iI hr), .int (iI en)])), ((b 0), ar g 12 td), ((b 1), ar g 4 (fun _ => 0)), ((b 3), ar g 4 lg), (h, .inr (0, [.ref (a 0), .ref (a 1), .ref (a 2), .ref (a 3), .ref (a 4), .ref (a 5), .int (iI 0), .int (iI 0), .int (iI 0)])), ((a 0), ar g 120 (fun _ => 4)), ((a 1), ar g 120 (fun _ => 0)), ((a 2), ar g 120 (fun _ => 0)), ((a 3), ar g 120 (fun _ => (-1))), ((a 4), ar g 120 (fun _ => 0)), ((a 5), ar g 120 (fun _ => 0))]) (w2 := fun _ => (wLe g x b h tr td (fun _ => 0) (fun _ => 20) lg tm hr en) ++ ((wSh g h a (fun _ => 4) (fun _ => 0) (fun _ => 0) (fun _ => (-1)) (fun _ => 0) (fun _ => 0) 0 0 0))) 24 hC [3] [0, 1, 2, 4, 5, 6, 7, 8, 9, 10, 11] [0, 1, 2, 11, 3, 4, 5, 6, 7, 8, 9, 10] (z_runS (nA := 2) hC hN (c_J7_fill_53178 l D g (b 2) 4 sr 20 (by omega)) [3] rfl (by decide) gX1_beginRound_J7_fill_53178 (by decide +kernel) rfl rfl rfl ⟨by decide, by decide⟩ rfl rfl (nle rfl) dX1_beginRound_21 ⟨by decide, by decide⟩) rfl rfl (by decide) (by decide) (fun _ => rfl) (by decide) rfl (k2 := 0) (n2 := 0) rfl rfl (fun _ p_3 => ?_)
  exact hret () dX1_beginRound_24 (by trivial)
set_option maxHeartbeats 4000000 in
set_option maxRecDepth 100000 in
theorem c_X1_endRound (l : Launch) (D : va_G) (g : Nat → ClassId) (x : Nat) (b : Nat → Nat) (h h2 : Nat) (a a2 : Nat → Nat) (td bu sr lg : Int → Int) (tm hr en : Int) (S T : SS)  (hI : LI td bu sr lg tm hr S)  : ZMi (S := Unit) l yX1_endRound wsX1_endRound ({ frames := 4, cells := 0, slots := 0, locals := 220 }) D g [.ref x] ((wLe g x b h h2 td bu sr lg tm hr en) ++ ((wSh g h a (ssS S) (ssF S) (ssW S) (ssO S) (ssP S) (ssT S) (ssLo S) (ssSl S) (ssFa S)) ++ ((wSh g h2 a2 (ssS T) (ssF T) (ssW T) (ssO T) (ssP T) (ssT T) (ssLo T) (ssSl T) (ssFa T))))) (fun z _ => z = en + 1) (fun _ => (wLe g x b h h2 td (fun _ => 0) (fun _ => 20) (lgE lg (ssT S) tm tm) tm hr (en + 1)) ++ ((wSh g h a (fun _ => 4) (fun _ => 0) (fun _ => 0) (fun _ => (-1)) (fun _ => 0) (fun _ => 0) 0 0 0) ++ ((wSh g h2 a2 (ssS T) (ssF T) (ssW T) (ssO T) (ssP T) (ssT T) (ssLo T) (ssSl T) (ssFa T))))) 0 0 := by
  have hinX1 : ∀ w ∈ u_ws RX1 TX1 9, w ∈ wsX1_endRound := by decide +kernel
  have L37 : Cond.fieldLink RX1 37 "SandcastleLeague" "leaguePoints" "[I" ∈ wsX1_endRound := by decide +kernel
  have L43 : Cond.fieldLink RX1 43 "SandcastleLeague" "teams" "I" ∈ wsX1_endRound := by decide +kernel
  have L153 : Cond.fieldLink RX1 153 "SandcastleLeague" "endedRounds" "I" ∈ wsX1_endRound := by decide +kernel
  obtain ⟨htd, hbu, hsr, hlg, htm, hhr, hSB, hT⟩ := id hI
  obtain ⟨hs, hf, hw, ho, hp⟩ := id hSB
  refine ZMi.of (own := RX1) cX1_endRound 2 [(0, .ref x)] (by decide +kernel) rfl (nle rfl) rfl rfl ?_
  intro E hC hN hret
  refine z_iconst 1 hC dX1_endRound_0 rfl ?_
  refine z_istoren (lv' := [(1, .int (iI 0)), (0, .ref x)]) 2 hC dX1_endRound_1 rfl rfl (by decide) rfl ?_
  have loop2 : ∀ (N2 : Nat) (i : Int), 0 ≤ i ∧ i ≤ tm → (tm - i : Int) < N2 → Z E ((wLe g x b h h2 td bu sr (lgE lg (ssT S) tm i) tm hr en) ++ ((wSh g h a (ssS S) (ssF S) (ssW S) (ssO S) (ssP S) (ssT S) (ssLo S) (ssSl S) (ssFa S)) ++ ((wSh g h2 a2 (ssS T) (ssF T) (ssW T) (ssO T) (ssP T) (ssT T) (ssLo T) (ssSl T) (ssFa T))))) [(0, .ref x), (1, .int (iI i))] 0 0 2 [] := by
    intro N2
    induction N2 with
    | zero => intro i hi hm2; exact absurd hm2 (by omega)
    | succ N2 ih2 =>
      intro i hi hm2
      have hlE := lgE_bd (ssT S) i htm hlg
      refine z_iloadn 3 hC 1 dX1_endRound_2 rfl rfl rfl ?_
      refine z_aloadn 4 hC 0 dX1_endRound_3 rfl rfl rfl ?_
      refine z_get 7 0 6 hC hinX1 L43 dX1_endRound_4 rfl rfl rfl (by decide) rfl ?_
      refine z_icmp_ge 30 10 hC dX1_endRound_7 (by decide) rfl (by omega) (by omega) (fun c_1 => ?_) (fun c_1 => ?_)
      · skip
        obtain rfl : tm = i := by omega
        refine z_aloadn 31 hC 0 dX1_endRound_30 rfl rfl rfl ?_
        refine z_callv (wr := [(h2, .inr (0, [.ref (a2 0), .ref (a2 1), .ref (a2 2), .ref (a2 3), .ref (a2 4), .ref (a2 5), .int (iI (ssLo T)), .int (iI (ssSl T)), .int (iI (ssFa T))])), ((a2 0), ar g 120 (ssS T)), ((a2 1), ar g 120 (ssF T)), ((a2 2), ar g 120 (ssW T)), ((a2 3), ar g 120 (ssO T)), ((a2 4), ar g 120 (ssP T)), ((a2 5), ar g 120 (ssT T))]) (w2 := fun _ => (wLe g x b h h2 td (fun _ => 0) (fun _ => 20) (lgE lg (ssT S) tm tm) tm hr en) ++ ((wSh g h a (fun _ => 4) (fun _ => 0) (fun _ => 0) (fun _ => (-1)) (fun _ => 0) (fun _ => 0) 0 0 0) ++ ((wSh g h2 a2 (ssS T) (ssF T) (ssW T) (ssO T) (ssP T) (ssT T) (ssLo T) (ssSl T) (ssFa T))))) 34 hC [0, 1, 2, 3, 4, 5, 6, 7, 8, 9, 10, 11] [12, 13, 14, 15, 16, 17, 18] [7, 8, 9, 10, 11, 12, 13, 14, 15, 16, 17, 18, 0, 1, 2, 3, 4, 5, 6] (z_runV (nA := 0) hC hN (c_X1_beginRound l D g x b h h2 a td bu sr (lgE lg (ssT S) tm tm) tm hr en (ssS S) (ssF S) (ssW S) (ssO S) (ssP S) (ssT S) (ssLo S) (ssSl S) (ssFa S)) [0, 1, 2, 3, 4, 5, 6, 7, 8, 9, 10, 11] rfl (by decide) gX1_endRound_X1_beginRound (by decide +kernel) rfl rfl rfl ⟨by decide, by decide⟩ rfl rfl (nle rfl) dX1_endRound_31 ⟨by decide, by decide⟩ 0 rfl rfl) rfl rfl (by decide) (by decide) (fun _ => rfl) (by decide) rfl (k2 := 0) (n2 := 0) rfl rfl (fun _ p_2 => ?_)
        refine z_aloadn 35 hC 0 dX1_endRound_34 rfl rfl rfl ?_
        refine z_dup 36 hC dX1_endRound_35 rfl rfl ?_
        refine z_get 39 0 8 hC hinX1 L153 dX1_endRound_36 rfl rfl rfl (by decide) rfl ?_
        refine z_iconst 40 hC dX1_endRound_39 rfl ?_
        refine z_iadd 41 hC dX1_endRound_40 rfl ?_
        refine z_put (ty := .int) (ws' := (wLe g x b h h2 td (fun _ => 0) (fun _ => 20) (lgE lg (ssT S) tm tm) tm hr (en + 1)) ++ ((wSh g h a (fun _ => 4) (fun _ => 0) (fun _ => 0) (fun _ => (-1)) (fun _ => 0) (fun _ => 0) 0 0 0) ++ ((wSh g h2 a2 (ssS T) (ssF T) (ssW T) (ssO T) (ssP T) (ssT T) (ssLo T) (ssSl T) (ssFa T))))) 44 0 8 hC tyX1 tyX1_ok nmX1 hinX1 L153 dX1_endRound_41 rfl rfl rfl (by decide) rfl (by decide +kernel) rfl rfl (nle rfl) rfl ?_
        refine z_aloadn 45 hC 0 dX1_endRound_44 rfl rfl rfl ?_
        refine z_get 48 0 8 hC hinX1 L153 dX1_endRound_45 rfl rfl rfl (by decide) rfl ?_
        exact hret () dX1_endRound_48 rfl (by rfl)
      · skip
        refine z_aloadn 11 hC 0 dX1_endRound_10 rfl rfl rfl ?_
        refine z_get 14 0 5 hC hinX1 L37 dX1_endRound_11 rfl rfl rfl (by decide) rfl ?_
        refine z_iloadn 15 hC 1 dX1_endRound_14 rfl rfl rfl ?_
        refine z_dup2 16 hC dX1_endRound_15 rfl rfl rfl ?_
        refine z_iald 17 4 hC dX1_endRound_16 rfl rfl (by decide) (by omega) ?_
        have b_3 := hlE i (by omega) (by omega)
        refine z_aloadn 18 hC 0 dX1_endRound_17 rfl rfl rfl ?_
        refine z_iloadn 19 hC 1 dX1_endRound_18 rfl rfl rfl ?_
        refine z_calli (wr := [(h2, .inr (0, [.ref (a2 0), .ref (a2 1), .ref (a2 2), .ref (a2 3), .ref (a2 4), .ref (a2 5), .int (iI (ssLo T)), .int (iI (ssSl T)), .int (iI (ssFa T))])), ((a2 0), ar g 120 (ssS T)), ((a2 1), ar g 120 (ssF T)), ((a2 2), ar g 120 (ssW T)), ((a2 3), ar g 120 (ssO T)), ((a2 4), ar g 120 (ssP T)), ((a2 5), ar g 120 (ssT T))]) (w2 := fun _ => (wLe g x b h h2 td bu sr (lgE lg (ssT S) tm i) tm hr en) ++ ((wSh g h a (ssS S) (ssF S) (ssW S) (ssO S) (ssP S) (ssT S) (ssLo S) (ssSl S) (ssFa S)) ++ ((wSh g h2 a2 (ssS T) (ssF T) (ssW T) (ssO T) (ssP T) (ssT T) (ssLo T) (ssSl T) (ssFa T))))) 22 hC [0, 1, 2, 3, 4, 5, 6, 7, 8, 9, 10, 11] [12, 13, 14, 15, 16, 17, 18] [7, 8, 9, 10, 11, 12, 13, 14, 15, 16, 17, 18, 0, 1, 2, 3, 4, 5, 6] (z_runV (nA := 1) hC hN (c_X1_teamsWithFewerPoints l D g x b h h2 a td bu sr (lgE lg (ssT S) tm i) tm hr en S i hlE htm hT (by omega)) [0, 1, 2, 3, 4, 5, 6, 7, 8, 9, 10, 11] rfl (by decide) gX1_endRound_X1_teamsWithFewerPoints (by decide +kernel) rfl rfl rfl ⟨by decide, by decide⟩ rfl rfl (nle rfl) dX1_endRound_19 ⟨by decide, by decide⟩ 0 rfl rfl) rfl rfl (by decide) (by decide) (fun _ => rfl) (by decide) rfl (k2 := 0) (n2 := 0) rfl rfl (fun z_4 _ p_5 => ?_)
        subst p_5
        refine z_iadd 23 hC dX1_endRound_22 rfl ?_
        refine z_iast (ws' := (wLe g x b h h2 td bu sr (up (lgE lg (ssT S) tm i) i (((lgE lg (ssT S) tm i) i) + (fwI' (ssT S) i tm))) tm hr en) ++ ((wSh g h a (ssS S) (ssF S) (ssW S) (ssO S) (ssP S) (ssT S) (ssLo S) (ssSl S) (ssFa S)) ++ ((wSh g h2 a2 (ssS T) (ssF T) (ssW T) (ssO T) (ssP T) (ssT T) (ssLo T) (ssSl T) (ssFa T))))) 24 4 hC dX1_endRound_23 rfl rfl (by decide) (by omega) rfl ?_
        refine z_iinc (lv' := [(1, .int (iI (i + 1))), (0, .ref x)]) 27 1 hC dX1_endRound_24 rfl rfl (by decide) rfl ?_
        refine z_goto 2 hC dX1_endRound_27 (by decide) ?_
        refine z_lv (lv' := [(0, .ref x), (1, .int (iI (i + 1)))]) [1, 0] rfl ?_
        refine z_weq (ws' := (wLe g x b h h2 td bu sr (lgE lg (ssT S) tm (i + 1)) tm hr en) ++ ((wSh g h a (ssS S) (ssF S) (ssW S) (ssO S) (ssP S) (ssT S) (ssLo S) (ssSl S) (ssFa S)) ++ ((wSh g h2 a2 (ssS T) (ssF T) (ssW T) (ssO T) (ssP T) (ssT T) (ssLo T) (ssSl T) (ssFa T))))) (zEq.cons zE1.rf (zEq.cons zE1.rf (zEq.cons zE1.rf (zEq.cons zE1.rf (zEq.cons (zE1.arr (by first | (intro j h0 h1; rfl) | (intro j h0 h1; exact lgE_s lg (ssT S) tm i j))) (zEq.cons zE1.rf (zEq.cons zE1.rf (zEq.cons zE1.rf (zEq.cons zE1.rf (zEq.cons zE1.rf (zEq.cons zE1.rf (zEq.cons zE1.rf (zEq.cons zE1.rf (zEq.cons zE1.rf (zEq.cons zE1.rf (zEq.cons zE1.rf (zEq.cons zE1.rf (zEq.cons zE1.rf (zEq.cons zE1.rf zEq.nil))))))))))))))))))) ?_
        exact ih2 (i + 1) (by omega) (by omega)
  refine z_lv (lv' := [(0, .ref x), (1, .int (iI 0))]) [1, 0] rfl ?_
  refine z_weq (ws' := (wLe g x b h h2 td bu sr (lgE lg (ssT S) tm 0) tm hr en) ++ ((wSh g h a (ssS S) (ssF S) (ssW S) (ssO S) (ssP S) (ssT S) (ssLo S) (ssSl S) (ssFa S)) ++ ((wSh g h2 a2 (ssS T) (ssF T) (ssW T) (ssO T) (ssP T) (ssT T) (ssLo T) (ssSl T) (ssFa T))))) (zEq.cons zE1.rf (zEq.cons zE1.rf (zEq.cons zE1.rf (zEq.cons zE1.rf (zEq.cons (zE1.arr (by first | (intro j h0 h1; rfl) | (intro j h0 h1; exact (if_neg (by omega)).symm))) (zEq.cons zE1.rf (zEq.cons zE1.rf (zEq.cons zE1.rf (zEq.cons zE1.rf (zEq.cons zE1.rf (zEq.cons zE1.rf (zEq.cons zE1.rf (zEq.cons zE1.rf (zEq.cons zE1.rf (zEq.cons zE1.rf (zEq.cons zE1.rf (zEq.cons zE1.rf (zEq.cons zE1.rf (zEq.cons zE1.rf zEq.nil))))))))))))))))))) ?_
  exact loop2 ((tm - 0 + 1 : Int).toNat) 0 (by omega) (by omega)
set_option maxHeartbeats 4000000 in
set_option maxRecDepth 100000 in
theorem c_X1_leader (l : Launch) (hlf : l.stackTraces = false) (D : va_G) (g : Nat → ClassId) (x : Nat) (b : Nat → Nat) (h h2 : Nat) (a a2 : Nat → Nat) (td bu sr lg : Int → Int) (tm hr en : Int) (S T : SS) (v : Int) (hI : LI td bu sr lg tm hr S) (hv : -2147483648 ≤ v ∧ v ≤ 2147483647) : ZXi (S := Unit) l yX1_leader wsX1_leader ({ frames := 6, cells := 1, slots := 6, locals := 180 }) D g [.ref x, .int (iI v)] ((wLe g x b h h2 td bu sr lg tm hr en) ++ ((wSh g h a (ssS S) (ssF S) (ssW S) (ssO S) (ssP S) (ssT S) (ssLo S) (ssSl S) (ssFa S)) ++ ((wSh g h2 a2 (ssS T) (ssF T) (ssW T) (ssO T) (ssP T) (ssT T) (ssLo T) (ssSl T) (ssFa T))))) (fun z _ => (0 ≤ v ∧ v < tm) ∧ z = ldr lg (ssT S) tm v tm) (fun _ => (wLe g x b h h2 td bu sr lg tm hr en) ++ ((wSh g h a (ssS S) (ssF S) (ssW S) (ssO S) (ssP S) (ssT S) (ssLo S) (ssSl S) (ssFa S)) ++ ((wSh g h2 a2 (ssS T) (ssF T) (ssW T) (ssO T) (ssP T) (ssT T) (ssLo T) (ssSl T) (ssFa T))))) (fun Ex => Ex = zXi ∧ ¬ (0 ≤ v ∧ v < tm)) 1 6 := by
  have hinX1 : ∀ w ∈ u_ws RX1 TX1 9, w ∈ wsX1_leader := by decide +kernel
  have L43 : Cond.fieldLink RX1 43 "SandcastleLeague" "teams" "I" ∈ wsX1_leader := by decide +kernel
  obtain ⟨htd, hbu, hsr, hlg, htm, hhr, hSB, hT⟩ := id hI
  obtain ⟨hs, hf, hw, ho, hp⟩ := id hSB
  have hlg2 : Bd lg 4 0 2000000 := Bd_w hlg (by decide)
  refine ZXi.of hlf cX1_leader 4 [(0, .ref x), (1, .int (iI v))] (by decide +kernel) rfl (nle rfl) rfl rfl ?_
  intro E hC hN hX hret hnew hprop
  refine z_iloadn 1 hC 1 dX1_leader_0 rfl rfl rfl ?_
  refine z_if_lt 12 4 hC dX1_leader_1 (by decide) rfl (by omega) (fun c_1 => ?_) (fun c_1 => ?_)
  · skip
    exact hnew (cls := zXi) (text := "there are not so many teams") (by decide +kernel) (by decide +kernel) (by decide +kernel) (by decide +kernel) (by decide +kernel) zn_i zg_i dX1_leader_12 dX1_leader_15 dX1_leader_16 dX1_leader_18 dX1_leader_21 (by decide) (nle rfl) (by decide) (by decide) (by decide) (by decide) (by exact ⟨rfl, by omega⟩)
  · skip
    refine z_iloadn 5 hC 1 dX1_leader_4 rfl rfl rfl ?_
    refine z_aloadn 6 hC 0 dX1_leader_5 rfl rfl rfl ?_
    refine z_get 9 0 6 hC hinX1 L43 dX1_leader_6 rfl rfl rfl (by decide) rfl ?_
    refine z_icmp_lt 22 12 hC dX1_leader_9 (by decide) rfl (by omega) (by omega) (fun c_2 => ?_) (fun c_2 => ?_)
    · skip
      refine z_iconst 23 hC dX1_leader_22 rfl ?_
      refine z_istoren (lv' := [(2, .int (iI 0)), (0, .ref x), (1, .int (iI v))]) 24 hC dX1_leader_23 rfl rfl (by decide) rfl ?_
      refine z_iconst 25 hC dX1_leader_24 rfl ?_
      refine z_istoren (lv' := [(3, .int (iI 0)), (2, .int (iI 0)), (0, .ref x), (1, .int (iI v))]) 26 hC dX1_leader_25 rfl rfl (by decide) rfl ?_
      have loop26 : ∀ (N26 : Nat) (i : Int), 0 ≤ i ∧ i ≤ tm → (tm - i : Int) < N26 → Z E ((wLe g x b h h2 td bu sr lg tm hr en) ++ ((wSh g h a (ssS S) (ssF S) (ssW S) (ssO S) (ssP S) (ssT S) (ssLo S) (ssSl S) (ssFa S)) ++ ((wSh g h2 a2 (ssS T) (ssF T) (ssW T) (ssO T) (ssP T) (ssT T) (ssLo T) (ssSl T) (ssFa T))))) [(0, .ref x), (1, .int (iI v)), (2, .int (iI (ldr lg (ssT S) tm v i))), (3, .int (iI i))] 0 0 26 [] := by
        intro N26
        induction N26 with
        | zero => intro i hi hm26; exact absurd hm26 (by omega)
        | succ N26 ih26 =>
          intro i hi hm26
          have qa := ahN_bd lg (ssT S) i htm
          refine z_iloadn 27 hC 3 dX1_leader_26 rfl rfl rfl ?_
          refine z_aloadn 28 hC 0 dX1_leader_27 rfl rfl rfl ?_
          refine z_get 31 0 6 hC hinX1 L43 dX1_leader_28 rfl rfl rfl (by decide) rfl ?_
          refine z_icmp_ge 51 34 hC dX1_leader_31 (by decide) rfl (by omega) (by omega) (fun c_3 => ?_) (fun c_3 => ?_)
          · skip
            obtain rfl : tm = i := by omega
            refine z_iloadn 52 hC 2 dX1_leader_51 rfl rfl rfl ?_
            refine z_widen (k2 := 1) (n2 := 6) (by omega) (by omega) ?_
            exact hret () dX1_leader_52 rfl (by exact ⟨by omega, rfl⟩)
          · skip
            refine z_aloadn 35 hC 0 dX1_leader_34 rfl rfl rfl ?_
            refine z_iloadn 36 hC 3 dX1_leader_35 rfl rfl rfl ?_
            refine z_calli (wr := [(h2, .inr (0, [.ref (a2 0), .ref (a2 1), .ref (a2 2), .ref (a2 3), .ref (a2 4), .ref (a2 5), .int (iI (ssLo T)), .int (iI (ssSl T)), .int (iI (ssFa T))])), ((a2 0), ar g 120 (ssS T)), ((a2 1), ar g 120 (ssF T)), ((a2 2), ar g 120 (ssW T)), ((a2 3), ar g 120 (ssO T)), ((a2 4), ar g 120 (ssP T)), ((a2 5), ar g 120 (ssT T))]) (w2 := fun _ => (wLe g x b h h2 td bu sr lg tm hr en) ++ ((wSh g h a (ssS S) (ssF S) (ssW S) (ssO S) (ssP S) (ssT S) (ssLo S) (ssSl S) (ssFa S)) ++ ((wSh g h2 a2 (ssS T) (ssF T) (ssW T) (ssO T) (ssP T) (ssT T) (ssLo T) (ssSl T) (ssFa T))))) 39 hC [0, 1, 2, 3, 4, 5, 6, 7, 8, 9, 10, 11] [12, 13, 14, 15, 16, 17, 18] [7, 8, 9, 10, 11, 12, 13, 14, 15, 16, 17, 18, 0, 1, 2, 3, 4, 5, 6] (z_runV (nA := 1) hC hN (c_X1_teamsAheadOf l D g x b h h2 a td bu sr lg tm hr en S i hlg2 htm hT (by omega)) [0, 1, 2, 3, 4, 5, 6, 7, 8, 9, 10, 11] rfl (by decide) gX1_leader_X1_teamsAheadOf (by decide +kernel) rfl rfl rfl ⟨by decide, by decide⟩ rfl rfl (nle rfl) dX1_leader_36 ⟨by decide, by decide⟩ 0 rfl rfl) rfl rfl (by decide) (by decide) (fun _ => rfl) (by decide) rfl (k2 := 0) (n2 := 0) rfl rfl (fun z_4 _ p_5 => ?_)
            subst p_5
            refine z_iloadn 40 hC 1 dX1_leader_39 rfl rfl rfl ?_
            refine z_icmp_ne 45 43 hC dX1_leader_40 (by decide) rfl (by omega) (by omega) (fun c_6 => ?_) (fun c_6 => ?_)
            · skip
              refine z_iinc (lv' := [(3, .int (iI (i + 1))), (0, .ref x), (1, .int (iI v)), (2, .int (iI (ldr lg (ssT S) tm v i)))]) 48 3 hC dX1_leader_45 rfl rfl (by decide) rfl ?_
              refine z_goto 26 hC dX1_leader_48 (by decide) ?_
              refine z_lv (lv' := [(0, .ref x), (1, .int (iI v)), (2, .int (iI (ldr lg (ssT S) tm v i))), (3, .int (iI (i + 1)))]) [1, 2, 3, 0] rfl ?_
              refine z_lveq (lv' := [(0, .ref x), (1, .int (iI v)), (2, .int (iI (ldr lg (ssT S) tm v (i + 1)))), (3, .int (iI (i + 1)))]) (zfk (zfk (zlc (by rw [ldr_s lg (ssT S) tm v hi.1]; first | rw [if_pos (by omega)] | rw [if_neg (by omega)]) (zfk rfl)))) ?_
              exact ih26 (i + 1) (by omega) (by omega)
            · skip
              refine z_iloadn 44 hC 3 dX1_leader_43 rfl rfl rfl ?_
              refine z_istoren (lv' := [(2, .int (iI i)), (0, .ref x), (1, .int (iI v)), (3, .int (iI i))]) 45 hC dX1_leader_44 rfl rfl (by decide) rfl ?_
              refine z_iinc (lv' := [(3, .int (iI (i + 1))), (2, .int (iI i)), (0, .ref x), (1, .int (iI v))]) 48 3 hC dX1_leader_45 rfl rfl (by decide) rfl ?_
              refine z_goto 26 hC dX1_leader_48 (by decide) ?_
              refine z_lv (lv' := [(0, .ref x), (1, .int (iI v)), (2, .int (iI i)), (3, .int (iI (i + 1)))]) [2, 3, 1, 0] rfl ?_
              refine z_lveq (lv' := [(0, .ref x), (1, .int (iI v)), (2, .int (iI (ldr lg (ssT S) tm v (i + 1)))), (3, .int (iI (i + 1)))]) (zfk (zfk (zlc (by rw [ldr_s lg (ssT S) tm v hi.1]; first | rw [if_pos (by omega)] | rw [if_neg (by omega)]) (zfk rfl)))) ?_
              exact ih26 (i + 1) (by omega) (by omega)
      refine z_lv (lv' := [(0, .ref x), (1, .int (iI v)), (2, .int (iI 0)), (3, .int (iI 0))]) [2, 3, 1, 0] rfl ?_
      refine z_lveq (lv' := [(0, .ref x), (1, .int (iI v)), (2, .int (iI (ldr lg (ssT S) tm v 0))), (3, .int (iI 0))]) (zfk (zfk (zlc (by rfl) (zfk rfl)))) ?_
      exact loop26 ((tm - 0 + 1 : Int).toNat) 0 (by omega) (by omega)
    · skip
      exact hnew (cls := zXi) (text := "there are not so many teams") (by decide +kernel) (by decide +kernel) (by decide +kernel) (by decide +kernel) (by decide +kernel) zn_i zg_i dX1_leader_12 dX1_leader_15 dX1_leader_16 dX1_leader_18 dX1_leader_21 (by decide) (nle rfl) (by decide) (by decide) (by decide) (by decide) (by exact ⟨rfl, by omega⟩)
