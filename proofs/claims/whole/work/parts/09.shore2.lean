/-! more of the Shore -/
def tclS (s f w o p : Int → Int) (c x : Int) : Int := if x = 0 then s c else if x = 1 then f c else if x = 2 then hg s c else if x = 3 then w c else if x = 4 then (if o c = -1 then 0 else 1) else p c
def cntS (o : Int → Int) (k : Int) : Int := sumI (fun j => if o j = k then 1 else 0) 120
def stkS (o : Int → Int) : Int := sumI (fun j => if o j = -1 then 0 else 1) 120
theorem sumI_y {f : Int → Int} {i x : Int} (h : 0 ≤ i) (e : x = f i) : sumI f i + x = sumI f (i + 1) := by rw [sumI_s f h, e]
theorem sumI_n {f : Int → Int} {i : Int} (h : 0 ≤ i) (e : f i = 0) : sumI f i = sumI f (i + 1) := by rw [sumI_s f h, e]; omega
set_option maxHeartbeats 4000000 in
set_option maxRecDepth 100000 in
theorem c_X0_clearSticks (l : Launch) (D : va_G) (g : Nat → ClassId) (h : Nat) (a : Nat → Nat) (s f w o p t : Int → Int) (lo sl fa : Int)  : ZMv (S := Unit) l yX0_clearSticks wsX0_clearSticks ({ frames := 1, cells := 0, slots := 0, locals := 60 }) D g [.ref h] (wSh g h a s f w o p t lo sl fa) (fun _ => True) (fun _ => wSh g h a s f w (fun _ => (-1)) (fun _ => 0) (fun _ => 0) lo sl fa) 0 0 := by
  have hinX0 : ∀ w ∈ u_ws RX0 TX0 9, w ∈ wsX0_clearSticks := by decide +kernel
  have L21 : Cond.fieldLink RX0 21 "SandcastleLeague$Shore" "owner" "[I" ∈ wsX0_clearSticks := by decide +kernel
  have L24 : Cond.fieldLink RX0 24 "SandcastleLeague$Shore" "plantedHeight" "[I" ∈ wsX0_clearSticks := by decide +kernel
  have L27 : Cond.fieldLink RX0 27 "SandcastleLeague$Shore" "points" "[I" ∈ wsX0_clearSticks := by decide +kernel
  refine ZMv.of (ty := .int) (own := RX0) cX0_clearSticks 1 [(0, .ref h)] (by decide +kernel) rfl (nle rfl) rfl rfl ?_
  intro E hC hN hret
  refine z_aloadn 1 hC 0 dX0_clearSticks_0 rfl rfl rfl ?_
  refine z_get 4 0 3 hC hinX0 L21 dX0_clearSticks_1 rfl rfl rfl (by decide) rfl ?_
  refine z_iconst 5 hC dX0_clearSticks_4 rfl ?_
  refine z_callv (wr := [(h, .inr (0, [.ref (a 0), .ref (a 1), .ref (a 2), .ref (a 3), .ref (a 4), .ref (a 5), .int (iI lo), .int (iI sl), .int (iI fa)])), ((a 0), ar g 120 s), ((a 1), ar g 120 f), ((a 2), ar g 120 w), ((a 4), ar g 120 p), ((a 5), ar g 120 t)]) (w2 := fun _ => wSh g h a s f w (fun _ => -1) p t lo sl fa) 8 hC [4] [0, 1, 2, 3, 5, 6] [0, 1, 2, 3, 6, 4, 5] (z_runS (nA := 2) hC hN (c_J7_fill_53178 l D g (a 3) 120 o (-1) (by omega)) [4] rfl (by decide) gX0_clearSticks_J7_fill_53178 (by decide +kernel) rfl rfl rfl ⟨by decide, by decide⟩ rfl rfl (nle rfl) dX0_clearSticks_5 ⟨by decide, by decide⟩) rfl rfl (by decide) (by decide) (fun _ => rfl) (by decide) rfl (k2 := 0) (n2 := 0) rfl rfl (fun _ p_1 => ?_)
  refine z_aloadn 9 hC 0 dX0_clearSticks_8 rfl rfl rfl ?_
  refine z_get 12 0 4 hC hinX0 L24 dX0_clearSticks_9 rfl rfl rfl (by decide) rfl ?_
  refine z_iconst 13 hC dX0_clearSticks_12 rfl ?_
  refine z_callv (wr := [(h, .inr (0, [.ref (a 0), .ref (a 1), .ref (a 2), .ref (a 3), .ref (a 4), .ref (a 5), .int (iI lo), .int (iI sl), .int (iI fa)])), ((a 0), ar g 120 s), ((a 1), ar g 120 f), ((a 2), ar g 120 w), ((a 3), ar g 120 (fun _ => -1)), ((a 5), ar g 120 t)]) (w2 := fun _ => wSh g h a s f w (fun _ => -1) (fun _ => 0) t lo sl fa) 16 hC [5] [0, 1, 2, 3, 4, 6] [0, 1, 2, 3, 4, 6, 5] (z_runS (nA := 2) hC hN (c_J7_fill_53178 l D g (a 4) 120 p 0 (by omega)) [5] rfl (by decide) gX0_clearSticks_J7_fill_53178 (by decide +kernel) rfl rfl rfl ⟨by decide, by decide⟩ rfl rfl (nle rfl) dX0_clearSticks_13 ⟨by decide, by decide⟩) rfl rfl (by decide) (by decide) (fun _ => rfl) (by decide) rfl (k2 := 0) (n2 := 0) rfl rfl (fun _ p_2 => ?_)
  refine z_aloadn 17 hC 0 dX0_clearSticks_16 rfl rfl rfl ?_
  refine z_get 20 0 5 hC hinX0 L27 dX0_clearSticks_17 rfl rfl rfl (by decide) rfl ?_
  refine z_iconst 21 hC dX0_clearSticks_20 rfl ?_
  refine z_callv (wr := [(h, .inr (0, [.ref (a 0), .ref (a 1), .ref (a 2), .ref (a 3), .ref (a 4), .ref (a 5), .int (iI lo), .int (iI sl), .int (iI fa)])), ((a 0), ar g 120 s), ((a 1), ar g 120 f), ((a 2), ar g 120 w), ((a 3), ar g 120 (fun _ => -1)), ((a 4), ar g 120 (fun _ => 0))]) (w2 := fun _ => wSh g h a s f w (fun _ => -1) (fun _ => 0) (fun _ => 0) lo sl fa) 24 hC [6] [0, 1, 2, 3, 4, 5] [0, 1, 2, 3, 4, 5, 6] (z_runS (nA := 2) hC hN (c_J7_fill_53178 l D g (a 5) 120 t 0 (by omega)) [6] rfl (by decide) gX0_clearSticks_J7_fill_53178 (by decide +kernel) rfl rfl rfl ⟨by decide, by decide⟩ rfl rfl (nle rfl) dX0_clearSticks_21 ⟨by decide, by decide⟩) rfl rfl (by decide) (by decide) (fun _ => rfl) (by decide) rfl (k2 := 0) (n2 := 0) rfl rfl (fun _ p_3 => ?_)
  refine z_weq (ws' := wSh g h a s f w (fun _ => (-1)) (fun _ => 0) (fun _ => 0) lo sl fa) (zEq.cons zE1.rf (zEq.cons zE1.rf (zEq.cons zE1.rf (zEq.cons zE1.rf (zEq.cons (zE1.arr (by first | (intro j h0 h1; rfl) | (intro j h0 h1; first | rfl | omega))) (zEq.cons zE1.rf (zEq.cons zE1.rf zEq.nil))))))) ?_
  exact hret () dX0_clearSticks_24 (by trivial)
set_option maxHeartbeats 4000000 in
set_option maxRecDepth 100000 in
theorem c_X0_begin (l : Launch) (D : va_G) (g : Nat → ClassId) (h : Nat) (a : Nat → Nat) (s f w o p t : Int → Int) (lo sl fa : Int)  : ZMv (S := Unit) l yX0_begin wsX0_begin ({ frames := 2, cells := 0, slots := 0, locals := 120 }) D g [.ref h] (wSh g h a s f w o p t lo sl fa) (fun _ => True) (fun _ => wSh g h a (fun _ => 4) (fun _ => 0) (fun _ => 0) (fun _ => (-1)) (fun _ => 0) (fun _ => 0) 0 0 0) 0 0 := by
  have hinX0 : ∀ w ∈ u_ws RX0 TX0 9, w ∈ wsX0_begin := by decide +kernel
  have L9 : Cond.fieldLink RX0 9 "SandcastleLeague$Shore" "sand" "[I" ∈ wsX0_begin := by decide +kernel
  have L15 : Cond.fieldLink RX0 15 "SandcastleLeague$Shore" "firmness" "[I" ∈ wsX0_begin := by decide +kernel
  have L18 : Cond.fieldLink RX0 18 "SandcastleLeague$Shore" "water" "[I" ∈ wsX0_begin := by decide +kernel
  have L39 : Cond.fieldLink RX0 39 "SandcastleLeague$Shore" "lostSand" "I" ∈ wsX0_begin := by decide +kernel
  have L43 : Cond.fieldLink RX0 43 "SandcastleLeague$Shore" "slides" "I" ∈ wsX0_begin := by decide +kernel
  have L46 : Cond.fieldLink RX0 46 "SandcastleLeague$Shore" "fallenSticks" "I" ∈ wsX0_begin := by decide +kernel
  refine ZMv.of (ty := .int) (own := RX0) cX0_begin 1 [(0, .ref h)] (by decide +kernel) rfl (nle rfl) rfl rfl ?_
  intro E hC hN hret
  refine z_aloadn 1 hC 0 dX0_begin_0 rfl rfl rfl ?_
  refine z_get 4 0 0 hC hinX0 L9 dX0_begin_1 rfl rfl rfl (by decide) rfl ?_
  refine z_iconst 5 hC dX0_begin_4 rfl ?_
  refine z_callv (wr := [(h, .inr (0, [.ref (a 0), .ref (a 1), .ref (a 2), .ref (a 3), .ref (a 4), .ref (a 5), .int (iI lo), .int (iI sl), .int (iI fa)])), ((a 1), ar g 120 f), ((a 2), ar g 120 w), ((a 3), ar g 120 o), ((a 4), ar g 120 p), ((a 5), ar g 120 t)]) (w2 := fun _ => wSh g h a (fun _ => 4) f w o p t lo sl fa) 8 hC [1] [0, 2, 3, 4, 5, 6] [0, 6, 1, 2, 3, 4, 5] (z_runS (nA := 2) hC hN (c_J7_fill_53178 l D g (a 0) 120 s 4 (by omega)) [1] rfl (by decide) gX0_begin_J7_fill_53178 (by decide +kernel) rfl rfl rfl ⟨by decide, by decide⟩ rfl rfl (nle rfl) dX0_begin_5 ⟨by decide, by decide⟩) rfl rfl (by decide) (by decide) (fun _ => rfl) (by decide) rfl (k2 := 0) (n2 := 0) rfl rfl (fun _ p_1 => ?_)
  refine z_aloadn 9 hC 0 dX0_begin_8 rfl rfl rfl ?_
  refine z_get 12 0 1 hC hinX0 L15 dX0_begin_9 rfl rfl rfl (by decide) rfl ?_
  refine z_iconst 13 hC dX0_begin_12 rfl ?_
  refine z_callv (wr := [(h, .inr (0, [.ref (a 0), .ref (a 1), .ref (a 2), .ref (a 3), .ref (a 4), .ref (a 5), .int (iI lo), .int (iI sl), .int (iI fa)])), ((a 0), ar g 120 (fun _ => 4)), ((a 2), ar g 120 w), ((a 3), ar g 120 o), ((a 4), ar g 120 p), ((a 5), ar g 120 t)]) (w2 := fun _ => wSh g h a (fun _ => 4) (fun _ => 0) w o p t lo sl fa) 16 hC [2] [0, 1, 3, 4, 5, 6] [0, 1, 6, 2, 3, 4, 5] (z_runS (nA := 2) hC hN (c_J7_fill_53178 l D g (a 1) 120 f 0 (by omega)) [2] rfl (by decide) gX0_begin_J7_fill_53178 (by decide +kernel) rfl rfl rfl ⟨by decide, by decide⟩ rfl rfl (nle rfl) dX0_begin_13 ⟨by decide, by decide⟩) rfl rfl (by decide) (by decide) (fun _ => rfl) (by decide) rfl (k2 := 0) (n2 := 0) rfl rfl (fun _ p_2 => ?_)
  refine z_aloadn 17 hC 0 dX0_begin_16 rfl rfl rfl ?_
  refine z_get 20 0 2 hC hinX0 L18 dX0_begin_17 rfl rfl rfl (by decide) rfl ?_
  refine z_iconst 21 hC dX0_begin_20 rfl ?_
  refine z_callv (wr := [(h, .inr (0, [.ref (a 0), .ref (a 1), .ref (a 2), .ref (a 3), .ref (a 4), .ref (a 5), .int (iI lo), .int (iI sl), .int (iI fa)])), ((a 0), ar g 120 (fun _ => 4)), ((a 1), ar g 120 (fun _ => 0)), ((a 3), ar g 120 o), ((a 4), ar g 120 p), ((a 5), ar g 120 t)]) (w2 := fun _ => wSh g h a (fun _ => 4) (fun _ => 0) (fun _ => 0) o p t lo sl fa) 24 hC [3] [0, 1, 2, 4, 5, 6] [0, 1, 2, 6, 3, 4, 5] (z_runS (nA := 2) hC hN (c_J7_fill_53178 l D g (a 2) 120 w 0 (by omega)) [3] rfl (by decide) gX0_begin_J7_fill_53178 (by decide +kernel) rfl rfl rfl ⟨by decide, by decide⟩ rfl rfl (nle rfl) dX0_begin_21 ⟨by decide, by decide⟩) rfl rfl (by decide) (by decide) (fun _ => rfl) (by decide) rfl (k2 := 0) (n2 := 0) rfl rfl (fun _ p_3 => ?_)
  refine z_aloadn 25 hC 0 dX0_begin_24 rfl rfl rfl ?_
  refine z_callv (wr := []) (w2 := fun _ => wSh g h a (fun _ => 4) (fun _ => 0) (fun _ => 0) (fun _ => (-1)) (fun _ => 0) (fun _ => 0) lo sl fa) 28 hC [0, 1, 2, 3, 4, 5, 6] [] [0, 1, 2, 3, 4, 5, 6] (z_runV (nA := 0) hC hN (c_X0_clearSticks l D g h a (fun _ => 4) (fun _ => 0) (fun _ => 0) o p t lo sl fa  ) [0, 1, 2, 3, 4, 5, 6] rfl (by decide) gX0_begin_X0_clearSticks (by decide +kernel) rfl rfl rfl ⟨by decide, by decide⟩ rfl rfl (nle rfl) dX0_begin_25 ⟨by decide, by decide⟩ 0 rfl rfl) rfl rfl (by decide) (by decide) (fun _ => rfl) (by decide) rfl (k2 := 0) (n2 := 0) rfl rfl (fun _ p_4 => ?_)
  refine z_aloadn 29 hC 0 dX0_begin_28 rfl rfl rfl ?_
  refine z_iconst 30 hC dX0_begin_29 rfl ?_
  refine z_put (ty := .int) (ws' := wSh g h a (fun _ => 4) (fun _ => 0) (fun _ => 0) (fun _ => (-1)) (fun _ => 0) (fun _ => 0) 0 sl fa) 33 0 6 hC tyX0 tyX0_ok nmX0 hinX0 L39 dX0_begin_30 rfl rfl rfl (by decide) rfl (by decide +kernel) rfl rfl (nle rfl) rfl ?_
  refine z_aloadn 34 hC 0 dX0_begin_33 rfl rfl rfl ?_
  refine z_iconst 35 hC dX0_begin_34 rfl ?_
  refine z_put (ty := .int) (ws' := wSh g h a (fun _ => 4) (fun _ => 0) (fun _ => 0) (fun _ => (-1)) (fun _ => 0) (fun _ => 0) 0 0 fa) 38 0 7 hC tyX0 tyX0_ok nmX0 hinX0 L43 dX0_begin_35 rfl rfl rfl (by decide) rfl (by decide +kernel) rfl rfl (nle rfl) rfl ?_
  refine z_aloadn 39 hC 0 dX0_begin_38 rfl rfl rfl ?_
  refine z_iconst 40 hC dX0_begin_39 rfl ?_
  refine z_put (ty := .int) (ws' := wSh g h a (fun _ => 4) (fun _ => 0) (fun _ => 0) (fun _ => (-1)) (fun _ => 0) (fun _ => 0) 0 0 0) 43 0 8 hC tyX0 tyX0_ok nmX0 hinX0 L46 dX0_begin_40 rfl rfl rfl (by decide) rfl (by decide +kernel) rfl rfl (nle rfl) rfl ?_
  exact hret () dX0_begin_43 (by trivial)
set_option maxHeartbeats 4000000 in
set_option maxRecDepth 100000 in
theorem c_X0_tellCell (l : Launch) (D : va_G) (g : Nat → ClassId) (h : Nat) (a : Nat → Nat) (s f w o p t : Int → Int) (lo sl fa : Int) (c : Int) (x : Int) (hc : 0 ≤ c ∧ c < 120) (hx : 0 ≤ x ∧ x ≤ 5) (hs : Bd s 120 0 20) (ho : Bd o 120 (-1) 119) : ZMi (S := Unit) l yX0_tellCell wsX0_tellCell ({ frames := 1, cells := 0, slots := 0, locals := 40 }) D g [.ref h, .int (iI c), .int (iI x)] (wSh g h a s f w o p t lo sl fa) (fun z _ => z = tclS s f w o p c x) (fun _ => wSh g h a s f w o p t lo sl fa) 0 0 := by
  have hinX0 : ∀ w ∈ u_ws RX0 TX0 9, w ∈ wsX0_tellCell := by decide +kernel
  have L9 : Cond.fieldLink RX0 9 "SandcastleLeague$Shore" "sand" "[I" ∈ wsX0_tellCell := by decide +kernel
  have L15 : Cond.fieldLink RX0 15 "SandcastleLeague$Shore" "firmness" "[I" ∈ wsX0_tellCell := by decide +kernel
  have L18 : Cond.fieldLink RX0 18 "SandcastleLeague$Shore" "water" "[I" ∈ wsX0_tellCell := by decide +kernel
  have L24 : Cond.fieldLink RX0 24 "SandcastleLeague$Shore" "plantedHeight" "[I" ∈ wsX0_tellCell := by decide +kernel
  refine ZMi.of (own := RX0) cX0_tellCell 3 [(0, .ref h), (1, .int (iI c)), (2, .int (iI x))] (by decide +kernel) rfl (nle rfl) rfl rfl ?_
  intro E hC hN hret
  refine z_iloadn 1 hC 2 dX0_tellCell_0 rfl rfl rfl ?_
  by_cases e_1 : x = 0
  · refine z_tabIn 36 0 hC dX0_tellCell_1 e_1 (by decide) rfl rfl (by decide) ?_
    refine z_aloadn 37 hC 0 dX0_tellCell_36 rfl rfl rfl ?_
    refine z_get 40 0 0 hC hinX0 L9 dX0_tellCell_37 rfl rfl rfl (by decide) rfl ?_
    refine z_iloadn 41 hC 1 dX0_tellCell_40 rfl rfl rfl ?_
    refine z_iald 42 1 hC dX0_tellCell_41 rfl rfl (by decide) (by omega) ?_
    have b_2 := hs c (by omega) (by omega)
    exact hret () dX0_tellCell_42 rfl (by unfold tclS; omega)
  by_cases e_3 : x = 1
  · refine z_tabIn 43 1 hC dX0_tellCell_1 e_3 (by decide) rfl rfl (by decide) ?_
    refine z_aloadn 44 hC 0 dX0_tellCell_43 rfl rfl rfl ?_
    refine z_get 47 0 1 hC hinX0 L15 dX0_tellCell_44 rfl rfl rfl (by decide) rfl ?_
    refine z_iloadn 48 hC 1 dX0_tellCell_47 rfl rfl rfl ?_
    refine z_iald 49 2 hC dX0_tellCell_48 rfl rfl (by decide) (by omega) ?_
    exact hret () dX0_tellCell_49 rfl (by unfold tclS; omega)
  by_cases e_4 : x = 2
  · refine z_tabIn 50 2 hC dX0_tellCell_1 e_4 (by decide) rfl rfl (by decide) ?_
    refine z_aloadn 51 hC 0 dX0_tellCell_50 rfl rfl rfl ?_
    refine z_iloadn 52 hC 1 dX0_tellCell_51 rfl rfl rfl ?_
    refine z_calli (wr := []) (w2 := fun _ => wSh g h a s f w o p t lo sl fa) 55 hC [0, 1, 2, 3, 4, 5, 6] [] [0, 1, 2, 3, 4, 5, 6] (z_runV (nA := 1) hC hN (c_X0_height l D g h a s f w o p t lo sl fa c (by omega)) [0, 1, 2, 3, 4, 5, 6] rfl (by decide) gX0_tellCell_X0_height (by decide +kernel) rfl rfl rfl ⟨by decide, by decide⟩ rfl rfl (nle rfl) dX0_tellCell_52 ⟨by decide, by decide⟩ 0 rfl rfl) rfl rfl (by decide) (by decide) (fun _ => rfl) (by decide) rfl (k2 := 0) (n2 := 0) rfl rfl (fun z_6 _ p_7 => ?_)
    subst p_7
    have y_5 := hg_bd hs (c := c) (by omega)
    exact hret () dX0_tellCell_55 rfl (by unfold tclS; omega)
  by_cases e_8 : x = 3
  · refine z_tabIn 56 3 hC dX0_tellCell_1 e_8 (by decide) rfl rfl (by decide) ?_
    refine z_aloadn 57 hC 0 dX0_tellCell_56 rfl rfl rfl ?_
    refine z_get 60 0 2 hC hinX0 L18 dX0_tellCell_57 rfl rfl rfl (by decide) rfl ?_
    refine z_iloadn 61 hC 1 dX0_tellCell_60 rfl rfl rfl ?_
    refine z_iald 62 3 hC dX0_tellCell_61 rfl rfl (by decide) (by omega) ?_
    exact hret () dX0_tellCell_62 rfl (by unfold tclS; omega)
  by_cases e_9 : x = 4
  · refine z_tabIn 63 4 hC dX0_tellCell_1 e_9 (by decide) rfl rfl (by decide) ?_
    refine z_aloadn 64 hC 0 dX0_tellCell_63 rfl rfl rfl ?_
    refine z_iloadn 65 hC 1 dX0_tellCell_64 rfl rfl rfl ?_
    refine z_calli (wr := []) (w2 := fun _ => wSh g h a s f w o p t lo sl fa) 68 hC [0, 1, 2, 3, 4, 5, 6] [] [0, 1, 2, 3, 4, 5, 6] (z_runV (nA := 1) hC hN (c_X0_hasStick l D g h a s f w o p t lo sl fa c (by omega) ho) [0, 1, 2, 3, 4, 5, 6] rfl (by decide) gX0_tellCell_X0_hasStick (by decide +kernel) rfl rfl rfl ⟨by decide, by decide⟩ rfl rfl (nle rfl) dX0_tellCell_65 ⟨by decide, by decide⟩ 0 rfl rfl) rfl rfl (by decide) (by decide) (fun _ => rfl) (by decide) rfl (k2 := 0) (n2 := 0) rfl rfl (fun z_10 _ p_11 => ?_)
    refine z_if_eq 75 71 hC dX0_tellCell_68 (by decide) rfl (by omega) (fun c_12 => ?_) (fun c_12 => ?_)
    · skip
      refine z_iconst 76 hC dX0_tellCell_75 rfl ?_
      exact hret () dX0_tellCell_76 rfl (by unfold tclS; omega)
    · skip
      refine z_iconst 72 hC dX0_tellCell_71 rfl ?_
      refine z_goto 76 hC dX0_tellCell_72 (by decide) ?_
      exact hret () dX0_tellCell_76 rfl (by unfold tclS; omega)
  refine z_tabOut 77 hC dX0_tellCell_1 (by omega) (by omega) (by decide) ?_
  refine z_aloadn 78 hC 0 dX0_tellCell_77 rfl rfl rfl ?_
  refine z_get 81 0 4 hC hinX0 L24 dX0_tellCell_78 rfl rfl rfl (by decide) rfl ?_
  refine z_iloadn 82 hC 1 dX0_tellCell_81 rfl rfl rfl ?_
  refine z_iald 83 5 hC dX0_tellCell_82 rfl rfl (by decide) (by omega) ?_
  exact hret () dX0_tellCell_83 rfl (by unfold tclS; omega)
set_option maxHeartbeats 4000000 in
set_option maxRecDepth 100000 in
theorem c_X0_sticksOf (l : Launch) (D : va_G) (g : Nat → ClassId) (h : Nat) (a : Nat → Nat) (s f w o p t : Int → Int) (lo sl fa : Int) (k : Int) (ho : Bd o 120 (-1) 119) (hk : -1000000 ≤ k ∧ k ≤ 1000000) : ZMi (S := Unit) l yX0_sticksOf wsX0_sticksOf ({ frames := 1, cells := 0, slots := 0, locals := 40 }) D g [.ref h, .int (iI k)] (wSh g h a s f w o p t lo sl fa) (fun z _ => z = cntS o k) (fun _ => wSh g h a s f w o p t lo sl fa) 0 0 := by
  have hinX0 : ∀ w ∈ u_ws RX0 TX0 9, w ∈ wsX0_sticksOf := by decide +kernel
  have L21 : Cond.fieldLink RX0 21 "SandcastleLeague$Shore" "owner" "[I" ∈ wsX0_sticksOf := by decide +kernel
  refine ZMi.of (own := RX0) cX0_sticksOf 4 [(0, .ref h), (1, .int (iI k))] (by decide +kernel) rfl (nle rfl) rfl rfl ?_
  intro E hC hN hret
  refine z_iconst 1 hC dX0_sticksOf_0 rfl ?_
  refine z_istoren (lv' := [(2, .int (iI 0)), (0, .ref h), (1, .int (iI k))]) 2 hC dX0_sticksOf_1 rfl rfl (by decide) rfl ?_
  refine z_iconst 3 hC dX0_sticksOf_2 rfl ?_
  refine z_istoren (lv' := [(3, .int (iI 0)), (2, .int (iI 0)), (0, .ref h), (1, .int (iI k))]) 4 hC dX0_sticksOf_3 rfl rfl (by decide) rfl ?_
  have loop4 : ∀ (N4 : Nat) (i : Int), 0 ≤ i ∧ i ≤ 120 → (120 - i : Int) < N4 → Z E (wSh g h a s f w o p t lo sl fa) [(0, .ref h), (1, .int (iI k)), (2, .int (iI (sumI (fun j => if o j = k then 1 else 0) i))), (3, .int (iI i))] 0 0 4 [] := by
    intro N4
    induction N4 with
    | zero => intro i hi hm4; exact absurd hm4 (by omega)
    | succ N4 ih4 =>
      intro i hi hm4
      refine z_iloadn 5 hC 3 dX0_sticksOf_4 rfl rfl rfl ?_
      refine z_bipush 7 hC dX0_sticksOf_5 (by decide) rfl ?_
      refine z_icmp_ge 29 10 hC dX0_sticksOf_7 (by decide) rfl (by omega) (by omega) (fun c_1 => ?_) (fun c_1 => ?_)
      · skip
        obtain rfl : i = 120 := by omega
        refine z_iloadn 30 hC 2 dX0_sticksOf_29 rfl rfl rfl ?_
        exact hret () dX0_sticksOf_30 rfl (by rfl)
      · skip
        refine z_aloadn 11 hC 0 dX0_sticksOf_10 rfl rfl rfl ?_
        refine z_get 14 0 3 hC hinX0 L21 dX0_sticksOf_11 rfl rfl rfl (by decide) rfl ?_
        refine z_iloadn 15 hC 3 dX0_sticksOf_14 rfl rfl rfl ?_
        refine z_iald 16 4 hC dX0_sticksOf_15 rfl rfl (by decide) (by omega) ?_
        have b_2 := ho i (by omega) (by omega)
        refine z_iloadn 17 hC 1 dX0_sticksOf_16 rfl rfl rfl ?_
        refine z_icmp_ne 23 20 hC dX0_sticksOf_17 (by decide) rfl (by omega) (by omega) (fun c_3 => ?_) (fun c_3 => ?_)
        · skip
          refine z_iinc (lv' := [(3, .int (iI (i + 1))), (0, .ref h), (1, .int (iI k)), (2, .int (iI (sumI (fun j => if o j = k then 1 else 0) i)))]) 26 3 hC dX0_sticksOf_23 rfl rfl (by decide) rfl ?_
          refine z_goto 4 hC dX0_sticksOf_26 (by decide) ?_
          refine z_lv (lv' := [(0, .ref h), (1, .int (iI k)), (2, .int (iI (sumI (fun j => if o j = k then 1 else 0) i))), (3, .int (iI (i + 1)))]) [1, 2, 3, 0] rfl ?_
          refine z_lveq (lv' := [(0, .ref h), (1, .int (iI k)), (2, .int (iI (sumI (fun j => if o j = k then 1 else 0) (i + 1)))), (3, .int (iI (i + 1)))]) (zfk (zfk (zlc (by first | exact sumI_y (by omega) (by omega) | exact sumI_n (by omega) (by omega)) (zfk rfl)))) ?_
          exact ih4 (i + 1) (by omega) (by omega)
        · skip
          refine z_iinc (lv' := [(2, .int (iI ((sumI (fun j => if o j = k then 1 else 0) i) + 1))), (0, .ref h), (1, .int (iI k)), (3, .int (iI i))]) 23 2 hC dX0_sticksOf_20 rfl rfl (by decide) rfl ?_
          refine z_iinc (lv' := [(3, .int (iI (i + 1))), (2, .int (iI ((sumI (fun j => if o j = k then 1 else 0) i) + 1))), (0, .ref h), (1, .int (iI k))]) 26 3 hC dX0_sticksOf_23 rfl rfl (by decide) rfl ?_
          refine z_goto 4 hC dX0_sticksOf_26 (by decide) ?_
          refine z_lv (lv' := [(0, .ref h), (1, .int (iI k)), (2, .int (iI ((sumI (fun j => if o j = k then 1 else 0) i) + 1))), (3, .int (iI (i + 1)))]) [2, 3, 1, 0] rfl ?_
          refine z_lveq (lv' := [(0, .ref h), (1, .int (iI k)), (2, .int (iI (sumI (fun j => if o j = k then 1 else 0) (i + 1)))), (3, .int (iI (i + 1)))]) (zfk (zfk (zlc (by first | exact sumI_y (by omega) (by omega) | exact sumI_n (by omega) (by omega)) (zfk rfl)))) ?_
          exact ih4 (i + 1) (by omega) (by omega)
  refine z_lv (lv' := [(0, .ref h), (1, .int (iI k)), (2, .int (iI 0)), (3, .int (iI 0))]) [2, 3, 1, 0] rfl ?_
  refine z_lveq (lv' := [(0, .ref h), (1, .int (iI k)), (2, .int (iI (sumI (fun j => if o j = k then 1 else 0) 0))), (3, .int (iI 0))]) (zfk (zfk (zlc (by rfl) (zfk rfl)))) ?_
  exact loop4 ((120 - 0 + 1 : Int).toNat) 0 (by omega) (by omega)
set_option maxHeartbeats 4000000 in
set_option maxRecDepth 100000 in
theorem c_X0_allHeights (l : Launch) (D : va_G) (g : Nat → ClassId) (h : Nat) (a : Nat → Nat) (s f w o p t : Int → Int) (lo sl fa : Int)  (hs : Bd s 120 0 20) : ZMi (S := Unit) l yX0_allHeights wsX0_allHeights ({ frames := 1, cells := 0, slots := 0, locals := 40 }) D g [.ref h] (wSh g h a s f w o p t lo sl fa) (fun z _ => z = sumI (hg s) 120) (fun _ => wSh g h a s f w o p t lo sl fa) 0 0 := by
  refine ZMi.of (own := RX0) cX0_allHeights 3 [(0, .ref h)] (by decide +kernel) rfl (nle rfl) rfl rfl ?_
  intro E hC hN hret
  refine z_iconst 1 hC dX0_allHeights_0 rfl ?_
  refine z_istoren (lv' := [(1, .int (iI 0)), (0, .ref h)]) 2 hC dX0_allHeights_1 rfl rfl (by decide) rfl ?_
  refine z_iconst 3 hC dX0_allHeights_2 rfl ?_
  refine z_istoren (lv' := [(2, .int (iI 0)), (1, .int (iI 0)), (0, .ref h)]) 4 hC dX0_allHeights_3 rfl rfl (by decide) rfl ?_
  have loop4 : ∀ (N4 : Nat) (i : Int), 0 ≤ i ∧ i ≤ 120 → (120 - i : Int) < N4 → Z E (wSh g h a s f w o p t lo sl fa) [(0, .ref h), (1, .int (iI (sumI (hg s) i))), (2, .int (iI i))] 0 0 4 [] := by
    intro N4
    induction N4 with
    | zero => intro i hi hm4; exact absurd hm4 (by omega)
    | succ N4 ih4 =>
      intro i hi hm4
      refine z_iloadn 5 hC 2 dX0_allHeights_4 rfl rfl rfl ?_
      refine z_bipush 7 hC dX0_allHeights_5 (by decide) rfl ?_
      refine z_icmp_ge 24 10 hC dX0_allHeights_7 (by decide) rfl (by omega) (by omega) (fun c_1 => ?_) (fun c_1 => ?_)
      · skip
        obtain rfl : i = 120 := by omega
        refine z_iloadn 25 hC 1 dX0_allHeights_24 rfl rfl rfl ?_
        exact hret () dX0_allHeights_25 rfl (by rfl)
      · skip
        refine z_iloadn 11 hC 1 dX0_allHeights_10 rfl rfl rfl ?_
        refine z_aloadn 12 hC 0 dX0_allHeights_11 rfl rfl rfl ?_
        refine z_iloadn 13 hC 2 dX0_allHeights_12 rfl rfl rfl ?_
        refine z_calli (wr := []) (w2 := fun _ => wSh g h a s f w o p t lo sl fa) 16 hC [0, 1, 2, 3, 4, 5, 6] [] [0, 1, 2, 3, 4, 5, 6] (z_runV (nA := 1) hC hN (c_X0_height l D g h a s f w o p t lo sl fa i (by omega)) [0, 1, 2, 3, 4, 5, 6] rfl (by decide) gX0_allHeights_X0_height (by decide +kernel) rfl rfl rfl ⟨by decide, by decide⟩ rfl rfl (nle rfl) dX0_allHeights_13 ⟨by decide, by decide⟩ 0 rfl rfl) rfl rfl (by decide) (by decide) (fun _ => rfl) (by decide) rfl (k2 := 0) (n2 := 0) rfl rfl (fun z_3 _ p_4 => ?_)
        subst p_4
        have y_2 := hg_bd hs (c := i) (by omega)
        refine z_iadd 17 hC dX0_allHeights_16 rfl ?_
        refine z_istoren (lv' := [(1, .int (iI ((sumI (hg s) i) + (hg s i)))), (0, .ref h), (2, .int (iI i))]) 18 hC dX0_allHeights_17 rfl rfl (by decide) rfl ?_
        refine z_iinc (lv' := [(2, .int (iI (i + 1))), (1, .int (iI ((sumI (hg s) i) + (hg s i)))), (0, .ref h)]) 21 2 hC dX0_allHeights_18 rfl rfl (by decide) rfl ?_
        refine z_goto 4 hC dX0_allHeights_21 (by decide) ?_
        refine z_lv (lv' := [(0, .ref h), (1, .int (iI ((sumI (hg s) i) + (hg s i)))), (2, .int (iI (i + 1)))]) [2, 1, 0] rfl ?_
        refine z_lveq (lv' := [(0, .ref h), (1, .int (iI (sumI (hg s) (i + 1)))), (2, .int (iI (i + 1)))]) (zfk (zlc (by exact sumI_y (by omega) rfl) (zfk rfl))) ?_
        exact ih4 (i + 1) (by omega) (by omega)
  refine z_lv (lv' := [(0, .ref h), (1, .int (iI 0)), (2, .int (iI 0))]) [2, 1, 0] rfl ?_
  refine z_lveq (lv' := [(0, .ref h), (1, .int (iI (sumI (hg s) 0))), (2, .int (iI 0))]) (zfk (zlc (by rfl) (zfk rfl))) ?_
  exact loop4 ((120 - 0 + 1 : Int).toNat) 0 (by omega) (by omega)
set_option maxHeartbeats 4000000 in
set_option maxRecDepth 100000 in
theorem c_X0_allSticks (l : Launch) (D : va_G) (g : Nat → ClassId) (h : Nat) (a : Nat → Nat) (s f w o p t : Int → Int) (lo sl fa : Int)  (ho : Bd o 120 (-1) 119) : ZMi (S := Unit) l yX0_allSticks wsX0_allSticks ({ frames := 1, cells := 0, slots := 0, locals := 40 }) D g [.ref h] (wSh g h a s f w o p t lo sl fa) (fun z _ => z = stkS o) (fun _ => wSh g h a s f w o p t lo sl fa) 0 0 := by
  refine ZMi.of (own := RX0) cX0_allSticks 3 [(0, .ref h)] (by decide +kernel) rfl (nle rfl) rfl rfl ?_
  intro E hC hN hret
  refine z_iconst 1 hC dX0_allSticks_0 rfl ?_
  refine z_istoren (lv' := [(1, .int (iI 0)), (0, .ref h)]) 2 hC dX0_allSticks_1 rfl rfl (by decide) rfl ?_
  refine z_iconst 3 hC dX0_allSticks_2 rfl ?_
  refine z_istoren (lv' := [(2, .int (iI 0)), (1, .int (iI 0)), (0, .ref h)]) 4 hC dX0_allSticks_3 rfl rfl (by decide) rfl ?_
  have loop4 : ∀ (N4 : Nat) (i : Int), 0 ≤ i ∧ i ≤ 120 → (120 - i : Int) < N4 → Z E (wSh g h a s f w o p t lo sl fa) [(0, .ref h), (1, .int (iI (sumI (fun j => if o j = -1 then 0 else 1) i))), (2, .int (iI i))] 0 0 4 [] := by
    intro N4
    induction N4 with
    | zero => intro i hi hm4; exact absurd hm4 (by omega)
    | succ N4 ih4 =>
      intro i hi hm4
      refine z_iloadn 5 hC 2 dX0_allSticks_4 rfl rfl rfl ?_
      refine z_bipush 7 hC dX0_allSticks_5 (by decide) rfl ?_
      refine z_icmp_ge 27 10 hC dX0_allSticks_7 (by decide) rfl (by omega) (by omega) (fun c_1 => ?_) (fun c_1 => ?_)
      · skip
        obtain rfl : i = 120 := by omega
        refine z_iloadn 28 hC 1 dX0_allSticks_27 rfl rfl rfl ?_
        exact hret () dX0_allSticks_28 rfl (by rfl)
      · skip
        refine z_aloadn 11 hC 0 dX0_allSticks_10 rfl rfl rfl ?_
        refine z_iloadn 12 hC 2 dX0_allSticks_11 rfl rfl rfl ?_
        refine z_calli (wr := []) (w2 := fun _ => wSh g h a s f w o p t lo sl fa) 15 hC [0, 1, 2, 3, 4, 5, 6] [] [0, 1, 2, 3, 4, 5, 6] (z_runV (nA := 1) hC hN (c_X0_hasStick l D g h a s f w o p t lo sl fa i (by omega) ho) [0, 1, 2, 3, 4, 5, 6] rfl (by decide) gX0_allSticks_X0_hasStick (by decide +kernel) rfl rfl rfl ⟨by decide, by decide⟩ rfl rfl (nle rfl) dX0_allSticks_12 ⟨by decide, by decide⟩ 0 rfl rfl) rfl rfl (by decide) (by decide) (fun _ => rfl) (by decide) rfl (k2 := 0) (n2 := 0) rfl rfl (fun z_2 _ p_3 => ?_)
        refine z_if_eq 21 18 hC dX0_allSticks_15 (by decide) rfl (by omega) (fun c_4 => ?_) (fun c_4 => ?_)
        · skip
          refine z_iinc (lv' := [(2, .int (iI (i + 1))), (0, .ref h), (1, .int (iI (sumI (fun j => if o j = -1 then 0 else 1) i)))]) 24 2 hC dX0_allSticks_21 rfl rfl (by decide) rfl ?_
          refine z_goto 4 hC dX0_allSticks_24 (by decide) ?_
          refine z_lv (lv' := [(0, .ref h), (1, .int (iI (sumI (fun j => if o j = -1 then 0 else 1) i))), (2, .int (iI (i + 1)))]) [1, 2, 0] rfl ?_
          refine z_lveq (lv' := [(0, .ref h), (1, .int (iI (sumI (fun j => if o j = -1 then 0 else 1) (i + 1)))), (2, .int (iI (i + 1)))]) (zfk (zlc (by first | exact sumI_y (by omega) (by omega) | exact sumI_n (by omega) (by omega)) (zfk rfl))) ?_
          exact ih4 (i + 1) (by omega) (by omega)
        · skip
          refine z_iinc (lv' := [(1, .int (iI ((sumI (fun j => if o j = -1 then 0 else 1) i) + 1))), (0, .ref h), (2, .int (iI i))]) 21 1 hC dX0_allSticks_18 rfl rfl (by decide) rfl ?_
          refine z_iinc (lv' := [(2, .int (iI (i + 1))), (1, .int (iI ((sumI (fun j => if o j = -1 then 0 else 1) i) + 1))), (0, .ref h)]) 24 2 hC dX0_allSticks_21 rfl rfl (by decide) rfl ?_
          refine z_goto 4 hC dX0_allSticks_24 (by decide) ?_
          refine z_lv (lv' := [(0, .ref h), (1, .int (iI ((sumI (fun j => if o j = -1 then 0 else 1) i) + 1))), (2, .int (iI (i + 1)))]) [2, 1, 0] rfl ?_
          refine z_lveq (lv' := [(0, .ref h), (1, .int (iI (sumI (fun j => if o j = -1 then 0 else 1) (i + 1)))), (2, .int (iI (i + 1)))]) (zfk (zlc (by first | exact sumI_y (by omega) (by omega) | exact sumI_n (by omega) (by omega)) (zfk rfl))) ?_
          exact ih4 (i + 1) (by omega) (by omega)
  refine z_lv (lv' := [(0, .ref h), (1, .int (iI 0)), (2, .int (iI 0))]) [2, 1, 0] rfl ?_
  refine z_lveq (lv' := [(0, .ref h), (1, .int (iI (sumI (fun j => if o j = -1 then 0 else 1) 0))), (2, .int (iI 0))]) (zfk (zlc (by rfl) (zfk rfl))) ?_
  exact loop4 ((120 - 0 + 1 : Int).toNat) 0 (by omega) (by omega)
set_option maxHeartbeats 4000000 in
set_option maxRecDepth 100000 in
theorem c_X0_sum (l : Launch) (D : va_G) (g : Nat → ClassId) (x : Nat) (f : Int → Int) : ZMi (S := Unit) l yX0_sum wsX0_sum ({ frames := 0, cells := 0, slots := 0, locals := 0 }) D g [.ref x] ([(x, ar g 120 f)]) (fun z _ => z = sumI f 120) (fun _ => [(x, ar g 120 f)]) 0 0 := by
  refine ZMi.of (own := RX0) cX0_sum 6 [(0, .ref x)] (by decide +kernel) rfl (nle rfl) rfl rfl ?_
  intro E hC hN hret
  refine z_iconst 1 hC dX0_sum_0 rfl ?_
  refine z_istoren (lv' := [(1, .int (iI 0)), (0, .ref x)]) 2 hC dX0_sum_1 rfl rfl (by decide) rfl ?_
  refine z_aloadn 3 hC 1 dX0_sum_2 rfl rfl rfl ?_
  refine z_astoren (lv' := [(2, .ref x), (1, .int (iI 0)), (0, .ref x)]) 4 hC dX0_sum_3 rfl rfl (by decide) rfl ?_
  refine z_aloadn 5 hC 0 dX0_sum_4 rfl rfl rfl ?_
  refine z_alen 6 0 hC dX0_sum_5 rfl rfl rfl ?_
  refine z_istoren (lv' := [(3, .int (iI ((120 : Nat) : Int))), (2, .ref x), (1, .int (iI 0)), (0, .ref x)]) 7 hC dX0_sum_6 rfl rfl (by decide) rfl ?_
  refine z_iconst 8 hC dX0_sum_7 rfl ?_
  refine z_istore (lv' := [(4, .int (iI 0)), (3, .int (iI ((120 : Nat) : Int))), (2, .ref x), (1, .int (iI 0)), (0, .ref x)]) 10 hC dX0_sum_8 rfl (by decide) rfl ?_
  have loop10 : ∀ (N10 : Nat) (i : Int), 0 ≤ i ∧ i ≤ 120 → (120 - i : Int) < N10 → Z E ([(x, ar g 120 f)]) [(0, .ref x), (1, .int (iI (sumI f i))), (2, .ref x), (3, .int (iI ((120 : Nat) : Int))), (4, .int (iI i))] 0 0 10 [] := by
    intro N10
    induction N10 with
    | zero => intro i hi hm10; exact absurd hm10 (by omega)
    | succ N10 ih10 =>
      intro i hi hm10
      refine z_iload 12 hC 4 dX0_sum_10 rfl rfl ?_
      refine z_iloadn 13 hC 3 dX0_sum_12 rfl rfl rfl ?_
      refine z_icmp_ge 33 16 hC dX0_sum_13 (by decide) rfl (by omega) (by omega) (fun c_1 => ?_) (fun c_1 => ?_)
      · skip
        obtain rfl : i = 120 := by omega
        refine z_iloadn 34 hC 1 dX0_sum_33 rfl rfl rfl ?_
        exact hret () dX0_sum_34 rfl (by rfl)
      · skip
        refine z_aloadn 17 hC 2 dX0_sum_16 rfl rfl rfl ?_
        refine z_iload 19 hC 4 dX0_sum_17 rfl rfl ?_
        refine z_iald 20 0 hC dX0_sum_19 rfl rfl (by decide) (by omega) ?_
        refine z_istore (lv' := [(5, .int (iI (f i))), (0, .ref x), (1, .int (iI (sumI f i))), (2, .ref x), (3, .int (iI ((120 : Nat) : Int))), (4, .int (iI i))]) 22 hC dX0_sum_20 rfl (by decide) rfl ?_
        refine z_iloadn 23 hC 2 dX0_sum_22 rfl rfl rfl ?_
        refine z_iload 25 hC 0 dX0_sum_23 rfl rfl ?_
        refine z_iadd 26 hC dX0_sum_25 rfl ?_
        refine z_istoren (lv' := [(1, .int (iI ((sumI f i) + (f i)))), (5, .int (iI (f i))), (0, .ref x), (2, .ref x), (3, .int (iI ((120 : Nat) : Int))), (4, .int (iI i))]) 27 hC dX0_sum_26 rfl rfl (by decide) rfl ?_
        refine z_iinc (lv' := [(4, .int (iI (i + 1))), (1, .int (iI ((sumI f i) + (f i)))), (5, .int (iI (f i))), (0, .ref x), (2, .ref x), (3, .int (iI ((120 : Nat) : Int)))]) 30 5 hC dX0_sum_27 rfl rfl (by decide) rfl ?_
        refine z_goto 10 hC dX0_sum_30 (by decide) ?_
        refine z_lv (lv' := [(0, .ref x), (1, .int (iI ((sumI f i) + (f i)))), (2, .ref x), (3, .int (iI ((120 : Nat) : Int))), (4, .int (iI (i + 1)))]) [3, 1, 4, 5, 0] rfl ?_
        refine z_lveq (lv' := [(0, .ref x), (1, .int (iI (sumI f (i + 1)))), (2, .ref x), (3, .int (iI ((120 : Nat) : Int))), (4, .int (iI (i + 1)))]) (zfk (zlc (by exact sumI_y (by omega) rfl) (zfk (zfk (zfk rfl))))) ?_
        exact ih10 (i + 1) (by omega) (by omega)
  refine z_lv (lv' := [(0, .ref x), (1, .int (iI 0)), (2, .ref x), (3, .int (iI ((120 : Nat) : Int))), (4, .int (iI 0))]) [4, 3, 2, 1, 0] rfl ?_
  refine z_lveq (lv' := [(0, .ref x), (1, .int (iI (sumI f 0))), (2, .ref x), (3, .int (iI ((120 : Nat) : Int))), (4, .int (iI 0))]) (zfk (zlc (by rfl) (zfk (zfk (zfk rfl))))) ?_
  exact loop10 ((120 - 0 + 1 : Int).toNat) 0 (by omega) (by omega)
set_option maxHeartbeats 4000000 in
set_option maxRecDepth 100000 in
theorem c_X0_allSand (l : Launch) (D : va_G) (g : Nat → ClassId) (h : Nat) (a : Nat → Nat) (s f w o p t : Int → Int) (lo sl fa : Int)  : ZMi (S := Unit) l yX0_allSand wsX0_allSand ({ frames := 1, cells := 0, slots := 0, locals := 40 }) D g [.ref h] (wSh g h a s f w o p t lo sl fa) (fun z _ => z = sumI s 120) (fun _ => wSh g h a s f w o p t lo sl fa) 0 0 := by
  have hinX0 : ∀ w ∈ u_ws RX0 TX0 9, w ∈ wsX0_allSand := by decide +kernel
  have L9 : Cond.fieldLink RX0 9 "SandcastleLeague$Shore" "sand" "[I" ∈ wsX0_allSand := by decide +kernel
  refine ZMi.of (own := RX0) cX0_allSand 1 [(0, .ref h)] (by decide +kernel) rfl (nle rfl) rfl rfl ?_
  intro E hC hN hret
  refine z_aloadn 1 hC 0 dX0_allSand_0 rfl rfl rfl ?_
  refine z_get 4 0 0 hC hinX0 L9 dX0_allSand_1 rfl rfl rfl (by decide) rfl ?_
  refine z_calli (wr := [(h, .inr (0, [.ref (a 0), .ref (a 1), .ref (a 2), .ref (a 3), .ref (a 4), .ref (a 5), .int (iI lo), .int (iI sl), .int (iI fa)])), ((a 1), ar g 120 f), ((a 2), ar g 120 w), ((a 3), ar g 120 o), ((a 4), ar g 120 p), ((a 5), ar g 120 t)]) (w2 := fun _ => wSh g h a s f w o p t lo sl fa) 7 hC [1] [0, 2, 3, 4, 5, 6] [0, 6, 1, 2, 3, 4, 5] (z_runS (nA := 1) hC hN (c_X0_sum l D g (a 0) s) [1] rfl (by decide) gX0_allSand_X0_sum (by decide +kernel) rfl rfl rfl ⟨by decide, by decide⟩ rfl rfl (nle rfl) dX0_allSand_4 ⟨by decide, by decide⟩) rfl rfl (by decide) (by decide) (fun _ => rfl) (by decide) rfl (k2 := 0) (n2 := 0) rfl rfl (fun z_1 _ p_2 => ?_)
  subst p_2
  exact hret () dX0_allSand_7 rfl (by rfl)
set_option maxHeartbeats 4000000 in
set_option maxRecDepth 100000 in
theorem c_X0_allWater (l : Launch) (D : va_G) (g : Nat → ClassId) (h : Nat) (a : Nat → Nat) (s f w o p t : Int → Int) (lo sl fa : Int)  : ZMi (S := Unit) l yX0_allWater wsX0_allWater ({ frames := 1, cells := 0, slots := 0, locals := 40 }) D g [.ref h] (wSh g h a s f w o p t lo sl fa) (fun z _ => z = sumI w 120) (fun _ => wSh g h a s f w o p t lo sl fa) 0 0 := by
  have hinX0 : ∀ w ∈ u_ws RX0 TX0 9, w ∈ wsX0_allWater := by decide +kernel
  have L18 : Cond.fieldLink RX0 18 "SandcastleLeague$Shore" "water" "[I" ∈ wsX0_allWater := by decide +kernel
  refine ZMi.of (own := RX0) cX0_allWater 1 [(0, .ref h)] (by decide +kernel) rfl (nle rfl) rfl rfl ?_
  intro E hC hN hret
  refine z_aloadn 1 hC 0 dX0_allWater_0 rfl rfl rfl ?_
  refine z_get 4 0 2 hC hinX0 L18 dX0_allWater_1 rfl rfl rfl (by decide) rfl ?_
  refine z_calli (wr := [(h, .inr (0, [.ref (a 0), .ref (a 1), .ref (a 2), .ref (a 3), .ref (a 4), .ref (a 5), .int (iI lo), .int (iI sl), .int (iI fa)])), ((a 0), ar g 120 s), ((a 1), ar g 120 f), ((a 3), ar g 120 o), ((a 4), ar g 120 p), ((a 5), ar g 120 t)]) (w2 := fun _ => wSh g h a s f w o p t lo sl fa) 7 hC [3] [0, 1, 2, 4, 5, 6] [0, 1, 2, 6, 3, 4, 5] (z_runS (nA := 1) hC hN (c_X0_sum l D g (a 2) w) [3] rfl (by decide) gX0_allWater_X0_sum (by decide +kernel) rfl rfl rfl ⟨by decide, by decide⟩ rfl rfl (nle rfl) dX0_allWater_4 ⟨by decide, by decide⟩) rfl rfl (by decide) (by decide) (fun _ => rfl) (by decide) rfl (k2 := 0) (n2 := 0) rfl rfl (fun z_1 _ p_2 => ?_)
  subst p_2
  exact hret () dX0_allWater_7 rfl (by rfl)
set_option maxHeartbeats 4000000 in
set_option maxRecDepth 100000 in
theorem c_X0_become (l : Launch) (D : va_G) (g : Nat → ClassId) (h : Nat) (a : Nat → Nat) (s f w o p t : Int → Int) (lo sl fa : Int) (h2 : Nat) (a2 : Nat → Nat) (s2 f2 w2 o2 p2 t2 : Int → Int) (lo2 sl2 fa2 : Int) : ZMv (S := Unit) l yX0_become wsX0_become ({ frames := 1, cells := 0, slots := 0, locals := 60 }) D g [.ref h, .ref h2] ((wSh g h a s f w o p t lo sl fa) ++ ((wSh g h2 a2 s2 f2 w2 o2 p2 t2 lo2 sl2 fa2))) (fun _ => True) (fun _ => (wSh g h a s2 f2 w2 o2 p2 t2 lo2 sl2 fa2) ++ ((wSh g h2 a2 s2 f2 w2 o2 p2 t2 lo2 sl2 fa2))) 0 0 := by
  have hinX0 : ∀ w ∈ u_ws RX0 TX0 9, w ∈ wsX0_become := by decide +kernel
  have L9 : Cond.fieldLink RX0 9 "SandcastleLeague$Shore" "sand" "[I" ∈ wsX0_become := by decide +kernel
  have L15 : Cond.fieldLink RX0 15 "SandcastleLeague$Shore" "firmness" "[I" ∈ wsX0_become := by decide +kernel
  have L18 : Cond.fieldLink RX0 18 "SandcastleLeague$Shore" "water" "[I" ∈ wsX0_become := by decide +kernel
  have L21 : Cond.fieldLink RX0 21 "SandcastleLeague$Shore" "owner" "[I" ∈ wsX0_become := by decide +kernel
  have L24 : Cond.fieldLink RX0 24 "SandcastleLeague$Shore" "plantedHeight" "[I" ∈ wsX0_become := by decide +kernel
  have L27 : Cond.fieldLink RX0 27 "SandcastleLeague$Shore" "points" "[I" ∈ wsX0_become := by decide +kernel
  have L39 : Cond.fieldLink RX0 39 "SandcastleLeague$Shore" "lostSand" "I" ∈ wsX0_become := by decide +kernel
  have L43 : Cond.fieldLink RX0 43 "SandcastleLeague$Shore" "slides" "I" ∈ wsX0_become := by decide +kernel
  have L46 : Cond.fieldLink RX0 46 "SandcastleLeague$Shore" "fallenSticks" "I" ∈ wsX0_become := by decide +kernel
  refine ZMv.of (ty := .int) (own := RX0) cX0_become 2 [(0, .ref h), (1, .ref h2)] (by decide +kernel) rfl (nle rfl) rfl rfl ?_
  intro E hC hN hret
  refine z_aloadn 1 hC 1 dX0_become_0 rfl rfl rfl ?_
  refine z_get 4 7 0 hC hinX0 L9 dX0_become_1 rfl rfl rfl (by decide) rfl ?_
  refine z_iconst 5 hC dX0_become_4 rfl ?_
  refine z_aloadn 6 hC 0 dX0_become_5 rfl rfl rfl ?_
  refine z_get 9 0 0 hC hinX0 L9 dX0_become_6 rfl rfl rfl (by decide) rfl ?_
  refine z_iconst 10 hC dX0_become_9 rfl ?_
  refine z_bipush 12 hC dX0_become_10 (by decide) rfl ?_
  refine z_copy (ws' := (wSh g h a s2 f w o p t lo sl fa) ++ ((wSh g h2 a2 s2 f2 w2 o2 p2 t2 lo2 sl2 fa2))) 15 8 1 hC (by decide +kernel) (by decide +kernel) (by decide +kernel) (by decide +kernel) (by decide) (by decide) dX0_become_12 rfl rfl rfl (by decide) rfl ?_
  refine z_aloadn 16 hC 1 dX0_become_15 rfl rfl rfl ?_
  refine z_get 19 7 1 hC hinX0 L15 dX0_become_16 rfl rfl rfl (by decide) rfl ?_
  refine z_iconst 20 hC dX0_become_19 rfl ?_
  refine z_aloadn 21 hC 0 dX0_become_20 rfl rfl rfl ?_
  refine z_get 24 0 1 hC hinX0 L15 dX0_become_21 rfl rfl rfl (by decide) rfl ?_
  refine z_iconst 25 hC dX0_become_24 rfl ?_
  refine z_bipush 27 hC dX0_become_25 (by decide) rfl ?_
  refine z_copy (ws' := (wSh g h a s2 f2 w o p t lo sl fa) ++ ((wSh g h2 a2 s2 f2 w2 o2 p2 t2 lo2 sl2 fa2))) 30 9 2 hC (by decide +kernel) (by decide +kernel) (by decide +kernel) (by decide +kernel) (by decide) (by decide) dX0_become_27 rfl rfl rfl (by decide) rfl ?_
  refine z_aloadn 31 hC 1 dX0_become_30 rfl rfl rfl ?_
  refine z_get 34 7 2 hC hinX0 L18 dX0_become_31 rfl rfl rfl (by decide) rfl ?_
  refine z_iconst 35 hC dX0_become_34 rfl ?_
  refine z_aloadn 36 hC 0 dX0_become_35 rfl rfl rfl ?_
  refine z_get 39 0 2 hC hinX0 L18 dX0_become_36 rfl rfl rfl (by decide) rfl ?_
  refine z_iconst 40 hC dX0_become_39 rfl ?_
  refine z_bipush 42 hC dX0_become_40 (by decide) rfl ?_
  refine z_copy (ws' := (wSh g h a s2 f2 w2 o p t lo sl fa) ++ ((wSh g h2 a2 s2 f2 w2 o2 p2 t2 lo2 sl2 fa2))) 45 10 3 hC (by decide +kernel) (by decide +kernel) (by decide +kernel) (by decide +kernel) (by decide) (by decide) dX0_become_42 rfl rfl rfl (by decide) rfl ?_
  refine z_aloadn 46 hC 1 dX0_become_45 rfl rfl rfl ?_
  refine z_get 49 7 3 hC hinX0 L21 dX0_become_46 rfl rfl rfl (by decide) rfl ?_
  refine z_iconst 50 hC dX0_become_49 rfl ?_
  refine z_aloadn 51 hC 0 dX0_become_50 rfl rfl rfl ?_
  refine z_get 54 0 3 hC hinX0 L21 dX0_become_51 rfl rfl rfl (by decide) rfl ?_
  refine z_iconst 55 hC dX0_become_54 rfl ?_
  refine z_bipush 57 hC dX0_become_55 (by decide) rfl ?_
  refine z_copy (ws' := (wSh g h a s2 f2 w2 o2 p t lo sl fa) ++ ((wSh g h2 a2 s2 f2 w2 o2 p2 t2 lo2 sl2 fa2))) 60 11 4 hC (by decide +kernel) (by decide +kernel) (by decide +kernel) (by decide +kernel) (by decide) (by decide) dX0_become_57 rfl rfl rfl (by decide) rfl ?_
  refine z_aloadn 61 hC 1 dX0_become_60 rfl rfl rfl ?_
  refine z_get 64 7 4 hC hinX0 L24 dX0_become_61 rfl rfl rfl (by decide) rfl ?_
  refine z_iconst 65 hC dX0_become_64 rfl ?_
  refine z_aloadn 66 hC 0 dX0_become_65 rfl rfl rfl ?_
  refine z_get 69 0 4 hC hinX0 L24 dX0_become_66 rfl rfl rfl (by decide) rfl ?_
  refine z_iconst 70 hC dX0_become_69 rfl ?_
  refine z_bipush 72 hC dX0_become_70 (by decide) rfl ?_
  refine z_copy (ws' := (wSh g h a s2 f2 w2 o2 p2 t lo sl fa) ++ ((wSh g h2 a2 s2 f2 w2 o2 p2 t2 lo2 sl2 fa2))) 75 12 5 hC (by decide +kernel) (by decide +kernel) (by decide +kernel) (by decide +kernel) (by decide) (by decide) dX0_become_72 rfl rfl rfl (by decide) rfl ?_
  refine z_aloadn 76 hC 1 dX0_become_75 rfl rfl rfl ?_
  refine z_get 79 7 5 hC hinX0 L27 dX0_become_76 rfl rfl rfl (by decide) rfl ?_
  refine z_iconst 80 hC dX0_become_79 rfl ?_
  refine z_aloadn 81 hC 0 dX0_become_80 rfl rfl rfl ?_
  refine z_get 84 0 5 hC hinX0 L27 dX0_become_81 rfl rfl rfl (by decide) rfl ?_
  refine z_iconst 85 hC dX0_become_84 rfl ?_
  refine z_bipush 87 hC dX0_become_85 (by decide) rfl ?_
  refine z_copy (ws' := (wSh g h a s2 f2 w2 o2 p2 t2 lo sl fa) ++ ((wSh g h2 a2 s2 f2 w2 o2 p2 t2 lo2 sl2 fa2))) 90 13 6 hC (by decide +kernel) (by decide +kernel) (by decide +kernel) (by decide +kernel) (by decide) (by decide) dX0_become_87 rfl rfl rfl (by decide) rfl ?_
  refine z_aloadn 91 hC 0 dX0_become_90 rfl rfl rfl ?_
  refine z_aloadn 92 hC 1 dX0_become_91 rfl rfl rfl ?_
  refine z_get 95 7 6 hC hinX0 L39 dX0_become_92 rfl rfl rfl (by decide) rfl ?_
  refine z_put (ty := .int) (ws' := (wSh g h a s2 f2 w2 o2 p2 t2 lo2 sl fa) ++ ((wSh g h2 a2 s2 f2 w2 o2 p2 t2 lo2 sl2 fa2))) 98 0 6 hC tyX0 tyX0_ok nmX0 hinX0 L39 dX0_become_95 rfl rfl rfl (by decide) rfl (by decide +kernel) rfl rfl (nle rfl) rfl ?_
  refine z_aloadn 99 hC 0 dX0_become_98 rfl rfl rfl ?_
  refine z_aloadn 100 hC 1 dX0_become_99 rfl rfl rfl ?_
  refine z_get 103 7 7 hC hinX0 L43 dX0_become_100 rfl rfl rfl (by decide) rfl ?_
  refine z_put (ty := .int) (ws' := (wSh g h a s2 f2 w2 o2 p2 t2 lo2 sl2 fa) ++ ((wSh g h2 a2 s2 f2 w2 o2 p2 t2 lo2 sl2 fa2))) 106 0 7 hC tyX0 tyX0_ok nmX0 hinX0 L43 dX0_become_103 rfl rfl rfl (by decide) rfl (by decide +kernel) rfl rfl (nle rfl) rfl ?_
  refine z_aloadn 107 hC 0 dX0_become_106 rfl rfl rfl ?_
  refine z_aloadn 108 hC 1 dX0_become_107 rfl rfl rfl ?_
  refine z_get 111 7 8 hC hinX0 L46 dX0_become_108 rfl rfl rfl (by decide) rfl ?_
  refine z_put (ty := .int) (ws' := (wSh g h a s2 f2 w2 o2 p2 t2 lo2 sl2 fa2) ++ ((wSh g h2 a2 s2 f2 w2 o2 p2 t2 lo2 sl2 fa2))) 114 0 8 hC tyX0 tyX0_ok nmX0 hinX0 L46 dX0_become_111 rfl rfl rfl (by decide) rfl (by decide +kernel) rfl rfl (nle rfl) rfl ?_
  exact hret () dX0_become_114 (by trivial)
set_option maxHeartbeats 4000000 in
set_option maxRecDepth 100000 in
theorem c_X0_init (l : Launch) (D : va_G) (g : Nat → ClassId) (h : Nat) : ZMv (S := (Nat → Nat)) l yX0_init wsX0_init ({ frames := 1, cells := 6, slots := 720, locals := 40 }) D g [.ref h] ([(h, .inr (0, [.null, .null, .null, .null, .null, .null, .int (iI 0), .int (iI 0), .int (iI 0)]))]) (fun _ => True) (fun u => wSh g h u (fun _ => 0) (fun _ => 0) (fun _ => 0) (fun _ => 0) (fun _ => 0) (fun _ => 0) 0 0 0) 6 720 := by
  have hinX0 : ∀ w ∈ u_ws RX0 TX0 9, w ∈ wsX0_init := by decide +kernel
  have L9 : Cond.fieldLink RX0 9 "SandcastleLeague$Shore" "sand" "[I" ∈ wsX0_init := by decide +kernel
  have L15 : Cond.fieldLink RX0 15 "SandcastleLeague$Shore" "firmness" "[I" ∈ wsX0_init := by decide +kernel
  have L18 : Cond.fieldLink RX0 18 "SandcastleLeague$Shore" "water" "[I" ∈ wsX0_init := by decide +kernel
  have L21 : Cond.fieldLink RX0 21 "SandcastleLeague$Shore" "owner" "[I" ∈ wsX0_init := by decide +kernel
  have L24 : Cond.fieldLink RX0 24 "SandcastleLeague$Shore" "plantedHeight" "[I" ∈ wsX0_init := by decide +kernel
  have L27 : Cond.fieldLink RX0 27 "SandcastleLeague$Shore" "points" "[I" ∈ wsX0_init := by decide +kernel
  refine ZMv.ofI (own := RX0) cX0_init 1 [(0, .ref h)] (by decide +kernel) (by decide +kernel) rfl (nle rfl) rfl rfl ?_
  intro E hC hN hI hret
  refine z_aloadn 1 hC 0 dX0_init_0 rfl rfl rfl ?_
  refine z_objInit 4 hC (by decide +kernel) (by decide +kernel) (by decide +kernel) (by decide) (nle rfl) dX0_init_1 rfl ?_
  refine z_aloadn 5 hC 0 dX0_init_4 rfl rfl rfl ?_
  refine z_bipush 7 hC dX0_init_5 (by decide) rfl ?_
  refine z_newi (ws' := fun x_1 => ([(h, .inr (0, [.null, .null, .null, .null, .null, .null, .int (iI 0), .int (iI 0), .int (iI 0)]))]) ++ (([(x_1, ar g 120 (fun _ => 0))]))) (k2 := 1) (n2 := 120) 9 hC (by decide +kernel) (by decide) (nle rfl) (by decide) (by decide) dX0_init_7 rfl rfl rfl (fun _ => rfl) (fun x_1 => ?_)
  refine z_putF (ty := .array .int) (ws' := ([(h, .inr (0, [.ref x_1, .null, .null, .null, .null, .null, .int (iI 0), .int (iI 0), .int (iI 0)]))]) ++ (([(x_1, ar g 120 (fun _ => 0))]))) 12 0 0 hC tyX0 tyX0_ok nmX0 hinX0 L9 dX0_init_9 rfl rfl rfl (by decide) rfl hI rfl (by decide +kernel) rfl rfl (nle rfl) rfl ?_
  refine z_aloadn 13 hC 0 dX0_init_12 rfl rfl rfl ?_
  refine z_bipush 15 hC dX0_init_13 (by decide) rfl ?_
  refine z_newi (ws' := fun x_2 => ([(h, .inr (0, [.ref x_1, .null, .null, .null, .null, .null, .int (iI 0), .int (iI 0), .int (iI 0)]))]) ++ (([(x_1, ar g 120 (fun _ => 0))]) ++ (([(x_2, ar g 120 (fun _ => 0))])))) (k2 := 2) (n2 := 240) 17 hC (by decide +kernel) (by decide) (nle rfl) (by decide) (by decide) dX0_init_15 rfl rfl rfl (fun _ => rfl) (fun x_2 => ?_)
  refine z_putF (ty := .array .int) (ws' := ([(h, .inr (0, [.ref x_1, .ref x_2, .null, .null, .null, .null, .int (iI 0), .int (iI 0), .int (iI 0)]))]) ++ (([(x_1, ar g 120 (fun _ => 0))]) ++ (([(x_2, ar g 120 (fun _ => 0))])))) 20 0 1 hC tyX0 tyX0_ok nmX0 hinX0 L15 dX0_init_17 rfl rfl rfl (by decide) rfl hI rfl (by decide +kernel) rfl rfl (nle rfl) rfl ?_
  refine z_aloadn 21 hC 0 dX0_init_20 rfl rfl rfl ?_
  refine z_bipush 23 hC dX0_init_21 (by decide) rfl ?_
  refine z_newi (ws' := fun x_3 => ([(h, .inr (0, [.ref x_1, .ref x_2, .null, .null, .null, .null, .int (iI 0), .int (iI 0), .int (iI 0)]))]) ++ (([(x_1, ar g 120 (fun _ => 0))]) ++ (([(x_2, ar g 120 (fun _ => 0))]) ++ (([(x_3, ar g 120 (fun _ => 0))]))))) (k2 := 3) (n2 := 360) 25 hC (by decide +kernel) (by decide) (nle rfl) (by decide) (by decide) dX0_init_23 rfl rfl rfl (fun _ => rfl) (fun x_3 => ?_)
  refine z_putF (ty := .array .int) (ws' := ([(h, .inr (0, [.ref x_1, .ref x_2, .ref x_3, .null, .null, .null, .int (iI 0), .int (iI 0), .int (iI 0)]))]) ++ (([(x_1, ar g 120 (fun _ => 0))]) ++ (([(x_2, ar g 120 (fun _ => 0))]) ++ (([(x_3, ar g 120 (fun _ => 0))]))))) 28 0 2 hC tyX0 tyX0_ok nmX0 hinX0 L18 dX0_init_25 rfl rfl rfl (by decide) rfl hI rfl (by decide +kernel) rfl rfl (nle rfl) rfl ?_
  refine z_aloadn 29 hC 0 dX0_init_28 rfl rfl rfl ?_
  refine z_bipush 31 hC dX0_init_29 (by decide) rfl ?_
  refine z_newi (ws' := fun x_4 => ([(h, .inr (0, [.ref x_1, .ref x_2, .ref x_3, .null, .null, .null, .int (iI 0), .int (iI 0), .int (iI 0)]))]) ++ (([(x_1, ar g 120 (fun _ => 0))]) ++ (([(x_2, ar g 120 (fun _ => 0))]) ++ (([(x_3, ar g 120 (fun _ => 0))]) ++ (([(x_4, ar g 120 (fun _ => 0))])))))) (k2 := 4) (n2 := 480) 33 hC (by decide +kernel) (by decide) (nle rfl) (by decide) (by decide) dX0_init_31 rfl rfl rfl (fun _ => rfl) (fun x_4 => ?_)
  refine z_putF (ty := .array .int) (ws' := ([(h, .inr (0, [.ref x_1, .ref x_2, .ref x_3, .ref x_4, .null, .null, .int (iI 0), .int (iI 0), .int (iI 0)]))]) ++ (([(x_1, ar g 120 (fun _ => 0))]) ++ (([(x_2, ar g 120 (fun _ => 0))]) ++ (([(x_3, ar g 120 (fun _ => 0))]) ++ (([(x_4, ar g 120 (fun _ => 0))])))))) 36 0 3 hC tyX0 tyX0_ok nmX0 hinX0 L21 dX0_init_33 rfl rfl rfl (by decide) rfl hI rfl (by decide +kernel) rfl rfl (nle rfl) rfl ?_
  refine z_aloadn 37 hC 0 dX0_init_36 rfl rfl rfl ?_
  refine z_bipush 39 hC dX0_init_37 (by decide) rfl ?_
  refine z_newi (ws' := fun x_5 => ([(h, .inr (0, [.ref x_1, .ref x_2, .ref x_3, .ref x_4, .null, .null, .int (iI 0), .int (iI 0), .int (iI 0)]))]) ++ (([(x_1, ar g 120 (fun _ => 0))]) ++ (([(x_2, ar g 120 (fun _ => 0))]) ++ (([(x_3, ar g 120 (fun _ => 0))]) ++ (([(x_4, ar g 120 (fun _ => 0))]) ++ (([(x_5, ar g 120 (fun _ => 0))]))))))) (k2 := 5) (n2 := 600) 41 hC (by decide +kernel) (by decide) (nle rfl) (by decide) (by decide) dX0_init_39 rfl rfl rfl (fun _ => rfl) (fun x_5 => ?_)
  refine z_putF (ty := .array .int) (ws' := ([(h, .inr (0, [.ref x_1, .ref x_2, .ref x_3, .ref x_4, .ref x_5, .null, .int (iI 0), .int (iI 0), .int (iI 0)]))]) ++ (([(x_1, ar g 120 (fun _ => 0))]) ++ (([(x_2, ar g 120 (fun _ => 0))]) ++ (([(x_3, ar g 120 (fun _ => 0))]) ++ (([(x_4, ar g 120 (fun _ => 0))]) ++ (([(x_5, ar g 120 (fun _ => 0))]))))))) 44 0 4 hC tyX0 tyX0_ok nmX0 hinX0 L24 dX0_init_41 rfl rfl rfl (by decide) rfl hI rfl (by decide +kernel) rfl rfl (nle rfl) rfl ?_
  refine z_aloadn 45 hC 0 dX0_init_44 rfl rfl rfl ?_
  refine z_bipush 47 hC dX0_init_45 (by decide) rfl ?_
  refine z_newi (ws' := fun x_6 => ([(h, .inr (0, [.ref x_1, .ref x_2, .ref x_3, .ref x_4, .ref x_5, .null, .int (iI 0), .int (iI 0), .int (iI 0)]))]) ++ (([(x_1, ar g 120 (fun _ => 0))]) ++ (([(x_2, ar g 120 (fun _ => 0))]) ++ (([(x_3, ar g 120 (fun _ => 0))]) ++ (([(x_4, ar g 120 (fun _ => 0))]) ++ (([(x_5, ar g 120 (fun _ => 0))]) ++ (([(x_6, ar g 120 (fun _ => 0))])))))))) (k2 := 6) (n2 := 720) 49 hC (by decide +kernel) (by decide) (nle rfl) (by decide) (by decide) dX0_init_47 rfl rfl rfl (fun _ => rfl) (fun x_6 => ?_)
  refine z_putF (ty := .array .int) (ws' := ([(h, .inr (0, [.ref x_1, .ref x_2, .ref x_3, .ref x_4, .ref x_5, .ref x_6, .int (iI 0), .int (iI 0), .int (iI 0)]))]) ++ (([(x_1, ar g 120 (fun _ => 0))]) ++ (([(x_2, ar g 120 (fun _ => 0))]) ++ (([(x_3, ar g 120 (fun _ => 0))]) ++ (([(x_4, ar g 120 (fun _ => 0))]) ++ (([(x_5, ar g 120 (fun _ => 0))]) ++ (([(x_6, ar g 120 (fun _ => 0))])))))))) 52 0 5 hC tyX0 tyX0_ok nmX0 hinX0 L27 dX0_init_49 rfl rfl rfl (by decide) rfl hI rfl (by decide +kernel) rfl rfl (nle rfl) rfl ?_
  exact hret (fun i => ([x_1, x_2, x_3, x_4, x_5, x_6] : List Nat).getD i 0) dX0_init_52 (by trivial)
