set_option maxHeartbeats 4000000 in
set_option maxRecDepth 100000 in
theorem c_J7_fill_53178 (l : Launch) (D : va_G) (g : Nat → ClassId) (x N : Nat) (f : Int → Int) (v : Int) (hN : N < 2147483647) : ZMv (S := Unit) l yJ7_fill_53178 wsJ7_fill_53178 ({ frames := 0, cells := 0, slots := 0, locals := 0 }) D g [.ref x, .int (iI v)] ([(x, ar g N f)]) (fun _ => True) (fun _ => [(x, ar g N (fun _ => v))]) 0 0 := by
  refine ZMv.of (ty := .int) (own := RJ7) cJ7_fill_53178 4 [(0, .ref x), (1, .int (iI v))] (by decide +kernel) rfl (nle rfl) rfl rfl ?_
  intro E hC hN hret
  refine z_iconst 1 hC dJ7_fill_53178_0 rfl ?_
  refine z_istoren (lv' := [(2, .int (iI 0)), (0, .ref x), (1, .int (iI v))]) 2 hC dJ7_fill_53178_1 rfl rfl (by decide) rfl ?_
  refine z_aloadn 3 hC 1 dJ7_fill_53178_2 rfl rfl rfl ?_
  refine z_alen 4 0 hC dJ7_fill_53178_3 rfl rfl (by unfold iI; exact (Int32.ofInt_eq_ofNat).symm) ?_
  refine z_istoren (lv' := [(3, .int (iI ((N : Nat) : Int))), (2, .int (iI 0)), (0, .ref x), (1, .int (iI v))]) 5 hC dJ7_fill_53178_4 rfl rfl (by decide) rfl ?_
  have loop5 : ∀ (N5 : Nat) (i : Int), 0 ≤ i ∧ i ≤ ((N : Nat) : Int) → (((N : Nat) : Int) - i : Int) < N5 → Z E ([(x, ar g N (fun j => if j < i then v else f j))]) [(0, .ref x), (1, .int (iI v)), (2, .int (iI i)), (3, .int (iI ((N : Nat) : Int)))] 0 0 5 [] := by
    intro N5
    induction N5 with
    | zero => intro i hi hm5; exact absurd hm5 (by omega)
    | succ N5 ih5 =>
      intro i hi hm5
      refine z_iloadn 6 hC 2 dJ7_fill_53178_5 rfl rfl rfl ?_
      refine z_iloadn 7 hC 3 dJ7_fill_53178_6 rfl rfl rfl ?_
      refine z_icmp_ge 20 10 hC dJ7_fill_53178_7 (by decide) rfl (by omega) (by omega) (fun c_1 => ?_) (fun c_1 => ?_)
      · skip
        refine z_weq (ws' := [(x, ar g N (fun _ => v))]) (zEq.cons (zE1.arr (by first | (intro j h0 h1; rfl) | (intro j h0 h1; exact if_pos (by omega)))) zEq.nil) ?_
        exact hret () dJ7_fill_53178_20 (by trivial)
      · skip
        refine z_aloadn 11 hC 0 dJ7_fill_53178_10 rfl rfl rfl ?_
        refine z_iloadn 12 hC 2 dJ7_fill_53178_11 rfl rfl rfl ?_
        refine z_iloadn 13 hC 1 dJ7_fill_53178_12 rfl rfl rfl ?_
        refine z_iast (ws' := [(x, ar g N (up (fun j => if j < i then v else f j) i v))]) 14 0 hC dJ7_fill_53178_13 rfl rfl (by omega) (by omega) rfl ?_
        refine z_iinc (lv' := [(2, .int (iI (i + 1))), (0, .ref x), (1, .int (iI v)), (3, .int (iI ((N : Nat) : Int)))]) 17 2 hC dJ7_fill_53178_14 rfl rfl (by decide) rfl ?_
        refine z_goto 5 hC dJ7_fill_53178_17 (by decide) ?_
        refine z_lv (lv' := [(0, .ref x), (1, .int (iI v)), (2, .int (iI (i + 1))), (3, .int (iI ((N : Nat) : Int)))]) [1, 2, 0, 3] rfl ?_
        refine z_weq (ws' := [(x, ar g N (fun j => if j < (i + 1) then v else f j))]) (zEq.cons (zE1.arr (by first | (intro j h0 h1; rfl) | (intro j h0 h1; by_cases e : j = i; exact (if_pos e).trans (if_pos (by omega)).symm; refine (if_neg e).trans ?_; by_cases e2 : j < i; exact (if_pos e2).trans (if_pos (by omega)).symm; exact (if_neg e2).trans (if_neg (by omega)).symm))) zEq.nil) ?_
        exact ih5 (i + 1) (by omega) (by omega)
  refine z_lv (lv' := [(0, .ref x), (1, .int (iI v)), (2, .int (iI 0)), (3, .int (iI ((N : Nat) : Int)))]) [2, 3, 1, 0] rfl ?_
  refine z_weq (ws' := [(x, ar g N (fun j => if j < 0 then v else f j))]) (zEq.cons (zE1.arr (by first | (intro j h0 h1; rfl) | (intro j h0 h1; exact (if_neg (by omega)).symm))) zEq.nil) ?_
  exact loop5 ((((N : Nat) : Int) - 0 + 1 : Int).toNat) 0 (by omega) (by omega)
set_option maxHeartbeats 4000000 in
set_option maxRecDepth 100000 in
theorem c_X0_height (l : Launch) (D : va_G) (g : Nat → ClassId) (h : Nat) (a : Nat → Nat) (s f w o p t : Int → Int) (lo sl fa : Int) (c : Int) (hc : 0 ≤ c ∧ c < 120) : ZMi (S := Unit) l yX0_height wsX0_height ({ frames := 0, cells := 0, slots := 0, locals := 0 }) D g [.ref h, .int (iI c)] (wSh g h a s f w o p t lo sl fa) (fun z _ => z = hg s c) (fun _ => wSh g h a s f w o p t lo sl fa) 0 0 := by
  have hinX0 : ∀ w ∈ u_ws RX0 TX0 9, w ∈ wsX0_height := by decide +kernel
  have L9 : Cond.fieldLink RX0 9 "SandcastleLeague$Shore" "sand" "[I" ∈ wsX0_height := by decide +kernel
  refine ZMi.of (own := RX0) cX0_height 2 [(0, .ref h), (1, .int (iI c))] (by decide +kernel) rfl (nle rfl) rfl rfl ?_
  intro E hC hN hret
  refine z_iconst 1 hC dX0_height_0 rfl ?_
  refine z_iloadn 2 hC 1 dX0_height_1 rfl rfl rfl ?_
  refine z_bipush 4 hC dX0_height_2 (by decide) rfl ?_
  refine z_idiv 5 hC dX0_height_4 rfl (by omega) (by omega) ?_
  refine z_imul 6 hC dX0_height_5 rfl ?_
  refine z_aloadn 7 hC 0 dX0_height_6 rfl rfl rfl ?_
  refine z_get 10 0 0 hC hinX0 L9 dX0_height_7 rfl rfl rfl (by decide) rfl ?_
  refine z_iloadn 11 hC 1 dX0_height_10 rfl rfl rfl ?_
  refine z_iald 12 1 hC dX0_height_11 rfl rfl (by decide) (by omega) ?_
  refine z_iadd 13 hC dX0_height_12 rfl ?_
  exact hret () dX0_height_13 rfl (by rfl)
set_option maxHeartbeats 4000000 in
set_option maxRecDepth 100000 in
theorem c_X0_isWet (l : Launch) (D : va_G) (g : Nat → ClassId) (h : Nat) (a : Nat → Nat) (s f w o p t : Int → Int) (lo sl fa : Int) (c : Int) (hc : 0 ≤ c ∧ c < 120) (hw : Bd w 120 0 1) : ZMi (S := Unit) l yX0_isWet wsX0_isWet ({ frames := 0, cells := 0, slots := 0, locals := 0 }) D g [.ref h, .int (iI c)] (wSh g h a s f w o p t lo sl fa) (fun z _ => (z = 0 ∨ z = 1) ∧ (z = 0 ↔ w c = 0)) (fun _ => wSh g h a s f w o p t lo sl fa) 0 0 := by
  have hinX0 : ∀ w ∈ u_ws RX0 TX0 9, w ∈ wsX0_isWet := by decide +kernel
  have L18 : Cond.fieldLink RX0 18 "SandcastleLeague$Shore" "water" "[I" ∈ wsX0_isWet := by decide +kernel
  refine ZMi.of (own := RX0) cX0_isWet 2 [(0, .ref h), (1, .int (iI c))] (by decide +kernel) rfl (nle rfl) rfl rfl ?_
  intro E hC hN hret
  refine z_aloadn 1 hC 0 dX0_isWet_0 rfl rfl rfl ?_
  refine z_get 4 0 2 hC hinX0 L18 dX0_isWet_1 rfl rfl rfl (by decide) rfl ?_
  refine z_iloadn 5 hC 1 dX0_isWet_4 rfl rfl rfl ?_
  refine z_iald 6 3 hC dX0_isWet_5 rfl rfl (by decide) (by omega) ?_
  have b_1 := hw c (by omega) (by omega)
  refine z_if_eq 13 9 hC dX0_isWet_6 (by decide) rfl (by omega) (fun c_2 => ?_) (fun c_2 => ?_)
  · skip
    refine z_iconst 14 hC dX0_isWet_13 rfl ?_
    exact hret () dX0_isWet_14 (by decide) (by omega)
  · skip
    refine z_iconst 10 hC dX0_isWet_9 rfl ?_
    refine z_goto 14 hC dX0_isWet_10 (by decide) ?_
    exact hret () dX0_isWet_14 (by decide) (by omega)
set_option maxHeartbeats 4000000 in
set_option maxRecDepth 100000 in
theorem c_X0_hasStick (l : Launch) (D : va_G) (g : Nat → ClassId) (h : Nat) (a : Nat → Nat) (s f w o p t : Int → Int) (lo sl fa : Int) (c : Int) (hc : 0 ≤ c ∧ c < 120) (ho : Bd o 120 (-1) 119) : ZMi (S := Unit) l yX0_hasStick wsX0_hasStick ({ frames := 0, cells := 0, slots := 0, locals := 0 }) D g [.ref h, .int (iI c)] (wSh g h a s f w o p t lo sl fa) (fun z _ => (z = 0 ∨ z = 1) ∧ (z = 0 ↔ o c = -1)) (fun _ => wSh g h a s f w o p t lo sl fa) 0 0 := by
  have hinX0 : ∀ w ∈ u_ws RX0 TX0 9, w ∈ wsX0_hasStick := by decide +kernel
  have L21 : Cond.fieldLink RX0 21 "SandcastleLeague$Shore" "owner" "[I" ∈ wsX0_hasStick := by decide +kernel
  refine ZMi.of (own := RX0) cX0_hasStick 2 [(0, .ref h), (1, .int (iI c))] (by decide +kernel) rfl (nle rfl) rfl rfl ?_
  intro E hC hN hret
  refine z_aloadn 1 hC 0 dX0_hasStick_0 rfl rfl rfl ?_
  refine z_get 4 0 3 hC hinX0 L21 dX0_hasStick_1 rfl rfl rfl (by decide) rfl ?_
  refine z_iloadn 5 hC 1 dX0_hasStick_4 rfl rfl rfl ?_
  refine z_iald 6 4 hC dX0_hasStick_5 rfl rfl (by decide) (by omega) ?_
  have b_1 := ho c (by omega) (by omega)
  refine z_iconst 7 hC dX0_hasStick_6 rfl ?_
  refine z_icmp_eq 14 10 hC dX0_hasStick_7 (by decide) rfl (by omega) (by omega) (fun c_2 => ?_) (fun c_2 => ?_)
  · skip
    refine z_iconst 15 hC dX0_hasStick_14 rfl ?_
    exact hret () dX0_hasStick_15 (by decide) (by omega)
  · skip
    refine z_iconst 11 hC dX0_hasStick_10 rfl ?_
    refine z_goto 15 hC dX0_hasStick_11 (by decide) ?_
    exact hret () dX0_hasStick_15 (by decide) (by omega)
set_option maxHeartbeats 4000000 in
set_option maxRecDepth 100000 in
theorem c_X0_isFree (l : Launch) (D : va_G) (g : Nat → ClassId) (h : Nat) (a : Nat → Nat) (s f w o p t : Int → Int) (lo sl fa : Int) (c : Int) (hc : 0 ≤ c ∧ c < 120) (hw : Bd w 120 0 1) (ho : Bd o 120 (-1) 119) : ZMi (S := Unit) l yX0_isFree wsX0_isFree ({ frames := 1, cells := 0, slots := 0, locals := 40 }) D g [.ref h, .int (iI c)] (wSh g h a s f w o p t lo sl fa) (fun z _ => (z = 0 ∨ z = 1) ∧ (z = 1 ↔ o c = -1 ∧ w c = 0)) (fun _ => wSh g h a s f w o p t lo sl fa) 0 0 := by
  refine ZMi.of (own := RX0) cX0_isFree 2 [(0, .ref h), (1, .int (iI c))] (by decide +kernel) rfl (nle rfl) rfl rfl ?_
  intro E hC hN hret
  refine z_aloadn 1 hC 0 dX0_isFree_0 rfl rfl rfl ?_
  refine z_iloadn 2 hC 1 dX0_isFree_1 rfl rfl rfl ?_
  refine z_calli (wr := []) (w2 := fun _ => wSh g h a s f w o p t lo sl fa) 5 hC [0, 1, 2, 3, 4, 5, 6] [] [0, 1, 2, 3, 4, 5, 6] (z_runV (nA := 1) hC hN (c_X0_hasStick l D g h a s f w o p t lo sl fa c (by omega) ho) [0, 1, 2, 3, 4, 5, 6] rfl (by decide) gX0_isFree_X0_hasStick (by decide +kernel) rfl rfl rfl ⟨by decide, by decide⟩ rfl rfl (nle rfl) dX0_isFree_2 ⟨by decide, by decide⟩ 0 rfl rfl) rfl rfl (by decide) (by decide) (fun _ => rfl) (by decide) rfl (k2 := 0) (n2 := 0) rfl rfl (fun z_1 _ p_2 => ?_)
  refine z_if_ne 20 8 hC dX0_isFree_5 (by decide) rfl (by omega) (fun c_3 => ?_) (fun c_3 => ?_)
  · skip
    refine z_iconst 21 hC dX0_isFree_20 rfl ?_
    exact hret () dX0_isFree_21 (by decide) (by omega)
  · skip
    refine z_aloadn 9 hC 0 dX0_isFree_8 rfl rfl rfl ?_
    refine z_iloadn 10 hC 1 dX0_isFree_9 rfl rfl rfl ?_
    refine z_calli (wr := []) (w2 := fun _ => wSh g h a s f w o p t lo sl fa) 13 hC [0, 1, 2, 3, 4, 5, 6] [] [0, 1, 2, 3, 4, 5, 6] (z_runV (nA := 1) hC hN (c_X0_isWet l D g h a s f w o p t lo sl fa c (by omega) hw) [0, 1, 2, 3, 4, 5, 6] rfl (by decide) gX0_isFree_X0_isWet (by decide +kernel) rfl rfl rfl ⟨by decide, by decide⟩ rfl rfl (nle rfl) dX0_isFree_10 ⟨by decide, by decide⟩ 0 rfl rfl) rfl rfl (by decide) (by decide) (fun _ => rfl) (by decide) rfl (k2 := 0) (n2 := 0) rfl rfl (fun z_4 _ p_5 => ?_)
    refine z_if_ne 20 16 hC dX0_isFree_13 (by decide) rfl (by omega) (fun c_6 => ?_) (fun c_6 => ?_)
    · skip
      refine z_iconst 21 hC dX0_isFree_20 rfl ?_
      exact hret () dX0_isFree_21 (by decide) (by omega)
    · skip
      refine z_iconst 17 hC dX0_isFree_16 rfl ?_
      refine z_goto 21 hC dX0_isFree_17 (by decide) ?_
      exact hret () dX0_isFree_21 (by decide) (by omega)
set_option maxHeartbeats 4000000 in
set_option maxRecDepth 100000 in
theorem c_X0_pointsOf (l : Launch) (D : va_G) (g : Nat → ClassId) (h : Nat) (a : Nat → Nat) (s f w o p t : Int → Int) (lo sl fa : Int) (c : Int) (hc : 0 ≤ c ∧ c < 120) : ZMi (S := Unit) l yX0_pointsOf wsX0_pointsOf ({ frames := 0, cells := 0, slots := 0, locals := 0 }) D g [.ref h, .int (iI c)] (wSh g h a s f w o p t lo sl fa) (fun z _ => z = t c) (fun _ => wSh g h a s f w o p t lo sl fa) 0 0 := by
  have hinX0 : ∀ w ∈ u_ws RX0 TX0 9, w ∈ wsX0_pointsOf := by decide +kernel
  have L27 : Cond.fieldLink RX0 27 "SandcastleLeague$Shore" "points" "[I" ∈ wsX0_pointsOf := by decide +kernel
  refine ZMi.of (own := RX0) cX0_pointsOf 2 [(0, .ref h), (1, .int (iI c))] (by decide +kernel) rfl (nle rfl) rfl rfl ?_
  intro E hC hN hret
  refine z_aloadn 1 hC 0 dX0_pointsOf_0 rfl rfl rfl ?_
  refine z_get 4 0 5 hC hinX0 L27 dX0_pointsOf_1 rfl rfl rfl (by decide) rfl ?_
  refine z_iloadn 5 hC 1 dX0_pointsOf_4 rfl rfl rfl ?_
  refine z_iald 6 6 hC dX0_pointsOf_5 rfl rfl (by decide) (by omega) ?_
  exact hret () dX0_pointsOf_6 rfl (by rfl)
set_option maxHeartbeats 4000000 in
set_option maxRecDepth 100000 in
theorem c_X0_soften (l : Launch) (D : va_G) (g : Nat → ClassId) (h : Nat) (a : Nat → Nat) (s f w o p t : Int → Int) (lo sl fa : Int) (c : Int) (hc : 0 ≤ c ∧ c < 120) (hf : Bd f 120 0 5) : ZMv (S := Unit) l yX0_soften wsX0_soften ({ frames := 0, cells := 0, slots := 0, locals := 0 }) D g [.ref h, .int (iI c)] (wSh g h a s f w o p t lo sl fa) (fun _ => True) (fun _ => wSh g h a s (up f c (if 0 < f c then f c - 1 else f c)) w o p t lo sl fa) 0 0 := by
  have hinX0 : ∀ w ∈ u_ws RX0 TX0 9, w ∈ wsX0_soften := by decide +kernel
  have L15 : Cond.fieldLink RX0 15 "SandcastleLeague$Shore" "firmness" "[I" ∈ wsX0_soften := by decide +kernel
  refine ZMv.of (ty := .int) (own := RX0) cX0_soften 2 [(0, .ref h), (1, .int (iI c))] (by decide +kernel) rfl (nle rfl) rfl rfl ?_
  intro E hC hN hret
  refine z_aloadn 1 hC 0 dX0_soften_0 rfl rfl rfl ?_
  refine z_get 4 0 1 hC hinX0 L15 dX0_soften_1 rfl rfl rfl (by decide) rfl ?_
  refine z_iloadn 5 hC 1 dX0_soften_4 rfl rfl rfl ?_
  refine z_iald 6 2 hC dX0_soften_5 rfl rfl (by decide) (by omega) ?_
  have b_1 := hf c (by omega) (by omega)
  refine z_if_le 19 9 hC dX0_soften_6 (by decide) rfl (by omega) (fun c_2 => ?_) (fun c_2 => ?_)
  · skip
    refine z_weq (ws' := wSh g h a s (up f c (if 0 < f c then f c - 1 else f c)) w o p t lo sl fa) (zEq.cons zE1.rf (zEq.cons zE1.rf (zEq.cons (zE1.arr (by first | (intro j h0 h1; rfl) | (intro j h0 h1; unfold up; split <;> first | rfl | (subst_vars; omega) | omega))) (zEq.cons zE1.rf (zEq.cons zE1.rf (zEq.cons zE1.rf (zEq.cons zE1.rf zEq.nil))))))) ?_
    exact hret () dX0_soften_19 (by trivial)
  · skip
    refine z_aloadn 10 hC 0 dX0_soften_9 rfl rfl rfl ?_
    refine z_get 13 0 1 hC hinX0 L15 dX0_soften_10 rfl rfl rfl (by decide) rfl ?_
    refine z_iloadn 14 hC 1 dX0_soften_13 rfl rfl rfl ?_
    refine z_dup2 15 hC dX0_soften_14 rfl rfl rfl ?_
    refine z_iald 16 2 hC dX0_soften_15 rfl rfl (by decide) (by omega) ?_
    have b_3 := hf c (by omega) (by omega)
    refine z_iconst 17 hC dX0_soften_16 rfl ?_
    refine z_isub 18 hC dX0_soften_17 rfl ?_
    refine z_iast (ws' := wSh g h a s (up f c ((f c) - 1)) w o p t lo sl fa) 19 2 hC dX0_soften_18 rfl rfl (by decide) (by omega) rfl ?_
    refine z_weq (ws' := wSh g h a s (up f c (if 0 < f c then f c - 1 else f c)) w o p t lo sl fa) (zEq.cons zE1.rf (zEq.cons zE1.rf (zEq.cons (zE1.arr (by first | (intro j h0 h1; rfl) | (intro j h0 h1; unfold up; split <;> first | rfl | (subst_vars; omega) | omega))) (zEq.cons zE1.rf (zEq.cons zE1.rf (zEq.cons zE1.rf (zEq.cons zE1.rf zEq.nil))))))) ?_
    exact hret () dX0_soften_19 (by trivial)
set_option maxHeartbeats 4000000 in
set_option maxRecDepth 100000 in
theorem c_X0_takeSand (l : Launch) (D : va_G) (g : Nat → ClassId) (h : Nat) (a : Nat → Nat) (s f w o p t : Int → Int) (lo sl fa : Int) (c : Int) (n : Int) (hc : 0 ≤ c ∧ c < 120) (hs : Bd s 120 0 20) (hn : 0 ≤ n ∧ n ≤ 5) : ZMi (S := Unit) l yX0_takeSand wsX0_takeSand ({ frames := 1, cells := 0, slots := 0, locals := 40 }) D g [.ref h, .int (iI c), .int (iI n)] (wSh g h a s f w o p t lo sl fa) (fun z _ => z = min n (s c)) (fun _ => wSh g h a (up s c (s c - min n (s c))) (up f c 0) w o p t lo sl fa) 0 0 := by
  have hinX0 : ∀ w ∈ u_ws RX0 TX0 9, w ∈ wsX0_takeSand := by decide +kernel
  have L9 : Cond.fieldLink RX0 9 "SandcastleLeague$Shore" "sand" "[I" ∈ wsX0_takeSand := by decide +kernel
  have L15 : Cond.fieldLink RX0 15 "SandcastleLeague$Shore" "firmness" "[I" ∈ wsX0_takeSand := by decide +kernel
  refine ZMi.of (own := RX0) cX0_takeSand 4 [(0, .ref h), (1, .int (iI c)), (2, .int (iI n))] (by decide +kernel) rfl (nle rfl) rfl rfl ?_
  intro E hC hN hret
  refine z_iloadn 1 hC 2 dX0_takeSand_0 rfl rfl rfl ?_
  refine z_aloadn 2 hC 0 dX0_takeSand_1 rfl rfl rfl ?_
  refine z_get 5 0 0 hC hinX0 L9 dX0_takeSand_2 rfl rfl rfl (by decide) rfl ?_
  refine z_iloadn 6 hC 1 dX0_takeSand_5 rfl rfl rfl ?_
  refine z_iald 7 1 hC dX0_takeSand_6 rfl rfl (by decide) (by omega) ?_
  have b_1 := hs c (by omega) (by omega)
  refine z_mmin 10 hC (by decide +kernel) (by decide +kernel) (by decide +kernel) (by decide +kernel) (by decide) (nle rfl) (by decide) (by decide) (by omega) (by omega) dX0_takeSand_7 rfl ?_
  refine z_istoren (lv' := [(3, .int (iI (min n (s c)))), (0, .ref h), (1, .int (iI c)), (2, .int (iI n))]) 11 hC dX0_takeSand_10 rfl rfl (by decide) rfl ?_
  refine z_aloadn 12 hC 1 dX0_takeSand_11 rfl rfl rfl ?_
  refine z_get 15 0 0 hC hinX0 L9 dX0_takeSand_12 rfl rfl rfl (by decide) rfl ?_
  refine z_iloadn 16 hC 2 dX0_takeSand_15 rfl rfl rfl ?_
  refine z_dup2 17 hC dX0_takeSand_16 rfl rfl rfl ?_
  refine z_iald 18 1 hC dX0_takeSand_17 rfl rfl (by decide) (by omega) ?_
  have b_2 := hs c (by omega) (by omega)
  refine z_iloadn 19 hC 0 dX0_takeSand_18 rfl rfl rfl ?_
  refine z_isub 20 hC dX0_takeSand_19 rfl ?_
  refine z_iast (ws' := wSh g h a (up s c ((s c) - (min n (s c)))) f w o p t lo sl fa) 21 1 hC dX0_takeSand_20 rfl rfl (by decide) (by omega) rfl ?_
  refine z_aloadn 22 hC 1 dX0_takeSand_21 rfl rfl rfl ?_
  refine z_get 25 0 1 hC hinX0 L15 dX0_takeSand_22 rfl rfl rfl (by decide) rfl ?_
  refine z_iloadn 26 hC 2 dX0_takeSand_25 rfl rfl rfl ?_
  refine z_iconst 27 hC dX0_takeSand_26 rfl ?_
  refine z_iast (ws' := wSh g h a (up s c ((s c) - (min n (s c)))) (up f c 0) w o p t lo sl fa) 28 2 hC dX0_takeSand_27 rfl rfl (by decide) (by omega) rfl ?_
  refine z_iloadn 29 hC 0 dX0_takeSand_28 rfl rfl rfl ?_
  refine z_weq (ws' := wSh g h a (up s c (s c - min n (s c))) (up f c 0) w o p t lo sl fa) (zEq.cons zE1.rf (zEq.cons (zE1.arr (by first | (intro j h0 h1; rfl) | (intro j h0 h1; first | rfl | omega))) (zEq.cons zE1.rf (zEq.cons zE1.rf (zEq.cons zE1.rf (zEq.cons zE1.rf (zEq.cons zE1.rf zEq.nil))))))) ?_
  exact hret () dX0_takeSand_29 rfl (by rfl)
set_option maxHeartbeats 4000000 in
set_option maxRecDepth 100000 in
theorem c_X0_putSand (l : Launch) (D : va_G) (g : Nat → ClassId) (h : Nat) (a : Nat → Nat) (s f w o p t : Int → Int) (lo sl fa : Int) (c : Int) (n : Int) (hc : 0 ≤ c ∧ c < 120) (hs : Bd s 120 0 20) (hf : Bd f 120 0 5) (hn : 0 ≤ n ∧ n ≤ 5) : ZMi (S := Unit) l yX0_putSand wsX0_putSand ({ frames := 1, cells := 0, slots := 0, locals := 40 }) D g [.ref h, .int (iI c), .int (iI n)] (wSh g h a s f w o p t lo sl fa) (fun z _ => z = min n (20 - s c)) (fun _ => wSh g h a (up s c (s c + min n (20 - s c))) (if 0 < min n (20 - s c) then up f c (if 0 < f c then f c - 1 else f c) else f) w o p t lo sl fa) 0 0 := by
  have hinX0 : ∀ w ∈ u_ws RX0 TX0 9, w ∈ wsX0_putSand := by decide +kernel
  have L9 : Cond.fieldLink RX0 9 "SandcastleLeague$Shore" "sand" "[I" ∈ wsX0_putSand := by decide +kernel
  refine ZMi.of (own := RX0) cX0_putSand 4 [(0, .ref h), (1, .int (iI c)), (2, .int (iI n))] (by decide +kernel) rfl (nle rfl) rfl rfl ?_
  intro E hC hN hret
  refine z_iloadn 1 hC 2 dX0_putSand_0 rfl rfl rfl ?_
  refine z_bipush 3 hC dX0_putSand_1 (by decide) rfl ?_
  refine z_aloadn 4 hC 0 dX0_putSand_3 rfl rfl rfl ?_
  refine z_get 7 0 0 hC hinX0 L9 dX0_putSand_4 rfl rfl rfl (by decide) rfl ?_
  refine z_iloadn 8 hC 1 dX0_putSand_7 rfl rfl rfl ?_
  refine z_iald 9 1 hC dX0_putSand_8 rfl rfl (by decide) (by omega) ?_
  have b_1 := hs c (by omega) (by omega)
  refine z_isub 10 hC dX0_putSand_9 rfl ?_
  refine z_mmin 13 hC (by decide +kernel) (by decide +kernel) (by decide +kernel) (by decide +kernel) (by decide) (nle rfl) (by decide) (by decide) (by omega) (by omega) dX0_putSand_10 rfl ?_
  refine z_istoren (lv' := [(3, .int (iI (min n (20 - (s c))))), (0, .ref h), (1, .int (iI c)), (2, .int (iI n))]) 14 hC dX0_putSand_13 rfl rfl (by decide) rfl ?_
  refine z_aloadn 15 hC 1 dX0_putSand_14 rfl rfl rfl ?_
  refine z_get 18 0 0 hC hinX0 L9 dX0_putSand_15 rfl rfl rfl (by decide) rfl ?_
  refine z_iloadn 19 hC 2 dX0_putSand_18 rfl rfl rfl ?_
  refine z_dup2 20 hC dX0_putSand_19 rfl rfl rfl ?_
  refine z_iald 21 1 hC dX0_putSand_20 rfl rfl (by decide) (by omega) ?_
  have b_2 := hs c (by omega) (by omega)
  refine z_iloadn 22 hC 0 dX0_putSand_21 rfl rfl rfl ?_
  refine z_iadd 23 hC dX0_putSand_22 rfl ?_
  refine z_iast (ws' := wSh g h a (up s c ((s c) + (min n (20 - (s c))))) f w o p t lo sl fa) 24 1 hC dX0_putSand_23 rfl rfl (by decide) (by omega) rfl ?_
  refine z_iloadn 25 hC 0 dX0_putSand_24 rfl rfl rfl ?_
  refine z_if_le 33 28 hC dX0_putSand_25 (by decide) rfl (by omega) (fun c_3 => ?_) (fun c_3 => ?_)
  · skip
    refine z_iloadn 34 hC 0 dX0_putSand_33 rfl rfl rfl ?_
    refine z_weq (ws' := wSh g h a (up s c (s c + min n (20 - s c))) (if 0 < min n (20 - s c) then up f c (if 0 < f c then f c - 1 else f c) else f) w o p t lo sl fa) (zEq.cons zE1.rf (zEq.cons (zE1.arr (by first | (intro j h0 h1; rfl) | (intro j h0 h1; first | exact (congrFun (if_pos (by omega)) j).symm | exact (congrFun (if_neg (by omega)) j).symm))) (zEq.cons (zE1.arr (by first | (intro j h0 h1; rfl) | (intro j h0 h1; first | exact (congrFun (if_pos (by omega)) j).symm | exact (congrFun (if_neg (by omega)) j).symm))) (zEq.cons zE1.rf (zEq.cons zE1.rf (zEq.cons zE1.rf (zEq.cons zE1.rf zEq.nil))))))) ?_
    exact hret () dX0_putSand_34 rfl (by rfl)
  · skip
    refine z_aloadn 29 hC 1 dX0_putSand_28 rfl rfl rfl ?_
    refine z_iloadn 30 hC 2 dX0_putSand_29 rfl rfl rfl ?_
    refine z_callv (wr := []) (w2 := fun _ => wSh g h a (up s c ((s c) + (min n (20 - (s c))))) (up f c (if 0 < f c then f c - 1 else f c)) w o p t lo sl fa) 33 hC [0, 1, 2, 3, 4, 5, 6] [] [0, 1, 2, 3, 4, 5, 6] (z_runV (nA := 1) hC hN (c_X0_soften l D g h a (up s c ((s c) + (min n (20 - (s c))))) f w o p t lo sl fa c (by omega) hf) [0, 1, 2, 3, 4, 5, 6] rfl (by decide) gX0_putSand_X0_soften (by decide +kernel) rfl rfl rfl ⟨by decide, by decide⟩ rfl rfl (nle rfl) dX0_putSand_30 ⟨by decide, by decide⟩ 0 rfl rfl) rfl rfl (by decide) (by decide) (fun _ => rfl) (by decide) rfl (k2 := 0) (n2 := 0) rfl rfl (fun _ p_4 => ?_)
    refine z_iloadn 34 hC 0 dX0_putSand_33 rfl rfl rfl ?_
    refine z_weq (ws' := wSh g h a (up s c (s c + min n (20 - s c))) (if 0 < min n (20 - s c) then up f c (if 0 < f c then f c - 1 else f c) else f) w o p t lo sl fa) (zEq.cons zE1.rf (zEq.cons (zE1.arr (by first | (intro j h0 h1; rfl) | (intro j h0 h1; first | exact (congrFun (if_pos (by omega)) j).symm | exact (congrFun (if_neg (by omega)) j).symm))) (zEq.cons (zE1.arr (by first | (intro j h0 h1; rfl) | (intro j h0 h1; first | exact (congrFun (if_pos (by omega)) j).symm | exact (congrFun (if_neg (by omega)) j).symm))) (zEq.cons zE1.rf (zEq.cons zE1.rf (zEq.cons zE1.rf (zEq.cons zE1.rf zEq.nil))))))) ?_
    exact hret () dX0_putSand_34 rfl (by rfl)
set_option maxHeartbeats 4000000 in
set_option maxRecDepth 100000 in
theorem c_X0_harden (l : Launch) (D : va_G) (g : Nat → ClassId) (h : Nat) (a : Nat → Nat) (s f w o p t : Int → Int) (lo sl fa : Int) (c : Int) (hc : 0 ≤ c ∧ c < 120) (hs : Bd s 120 0 20) (hf : Bd f 120 0 5) (hw : Bd w 120 0 1) : ZMi (S := Unit) l yX0_harden wsX0_harden ({ frames := 1, cells := 0, slots := 0, locals := 40 }) D g [.ref h, .int (iI c)] (wSh g h a s f w o p t lo sl fa) (fun z _ => z = if 0 < s c ∧ w c = 0 then min 5 (f c + 1) else f c) (fun _ => wSh g h a s (up f c (if 0 < s c ∧ w c = 0 then min 5 (f c + 1) else f c)) w o p t lo sl fa) 0 0 := by
  have hinX0 : ∀ w ∈ u_ws RX0 TX0 9, w ∈ wsX0_harden := by decide +kernel
  have L9 : Cond.fieldLink RX0 9 "SandcastleLeague$Shore" "sand" "[I" ∈ wsX0_harden := by decide +kernel
  have L15 : Cond.fieldLink RX0 15 "SandcastleLeague$Shore" "firmness" "[I" ∈ wsX0_harden := by decide +kernel
  refine ZMi.of (own := RX0) cX0_harden 2 [(0, .ref h), (1, .int (iI c))] (by decide +kernel) rfl (nle rfl) rfl rfl ?_
  intro E hC hN hret
  refine z_aloadn 1 hC 0 dX0_harden_0 rfl rfl rfl ?_
  refine z_get 4 0 0 hC hinX0 L9 dX0_harden_1 rfl rfl rfl (by decide) rfl ?_
  refine z_iloadn 5 hC 1 dX0_harden_4 rfl rfl rfl ?_
  refine z_iald 6 1 hC dX0_harden_5 rfl rfl (by decide) (by omega) ?_
  have b_1 := hs c (by omega) (by omega)
  refine z_if_le 37 9 hC dX0_harden_6 (by decide) rfl (by omega) (fun c_2 => ?_) (fun c_2 => ?_)
  · skip
    refine z_aloadn 38 hC 0 dX0_harden_37 rfl rfl rfl ?_
    refine z_get 41 0 1 hC hinX0 L15 dX0_harden_38 rfl rfl rfl (by decide) rfl ?_
    refine z_iloadn 42 hC 1 dX0_harden_41 rfl rfl rfl ?_
    refine z_iald 43 2 hC dX0_harden_42 rfl rfl (by decide) (by omega) ?_
    have b_3 := hf c (by omega) (by omega)
    refine z_weq (ws' := wSh g h a s (up f c (if 0 < s c ∧ w c = 0 then min 5 (f c + 1) else f c)) w o p t lo sl fa) (zEq.cons zE1.rf (zEq.cons zE1.rf (zEq.cons (zE1.arr (by first | (intro j h0 h1; rfl) | (intro j h0 h1; unfold up; split <;> (try subst_vars) <;> omega))) (zEq.cons zE1.rf (zEq.cons zE1.rf (zEq.cons zE1.rf (zEq.cons zE1.rf zEq.nil))))))) ?_
    exact hret () dX0_harden_43 rfl (by first | omega | (rw [up_same]; omega))
  · skip
    refine z_aloadn 10 hC 0 dX0_harden_9 rfl rfl rfl ?_
    refine z_iloadn 11 hC 1 dX0_harden_10 rfl rfl rfl ?_
    refine z_calli (wr := []) (w2 := fun _ => wSh g h a s f w o p t lo sl fa) 14 hC [0, 1, 2, 3, 4, 5, 6] [] [0, 1, 2, 3, 4, 5, 6] (z_runV (nA := 1) hC hN (c_X0_isWet l D g h a s f w o p t lo sl fa c (by omega) hw) [0, 1, 2, 3, 4, 5, 6] rfl (by decide) gX0_harden_X0_isWet (by decide +kernel) rfl rfl rfl ⟨by decide, by decide⟩ rfl rfl (nle rfl) dX0_harden_11 ⟨by decide, by decide⟩ 0 rfl rfl) rfl rfl (by decide) (by decide) (fun _ => rfl) (by decide) rfl (k2 := 0) (n2 := 0) rfl rfl (fun z_4 _ p_5 => ?_)
    refine z_if_ne 37 17 hC dX0_harden_14 (by decide) rfl (by omega) (fun c_6 => ?_) (fun c_6 => ?_)
    · skip
      refine z_aloadn 38 hC 0 dX0_harden_37 rfl rfl rfl ?_
      refine z_get 41 0 1 hC hinX0 L15 dX0_harden_38 rfl rfl rfl (by decide) rfl ?_
      refine z_iloadn 42 hC 1 dX0_harden_41 rfl rfl rfl ?_
      refine z_iald 43 2 hC dX0_harden_42 rfl rfl (by decide) (by omega) ?_
      have b_7 := hf c (by omega) (by omega)
      refine z_weq (ws' := wSh g h a s (up f c (if 0 < s c ∧ w c = 0 then min 5 (f c + 1) else f c)) w o p t lo sl fa) (zEq.cons zE1.rf (zEq.cons zE1.rf (zEq.cons (zE1.arr (by first | (intro j h0 h1; rfl) | (intro j h0 h1; unfold up; split <;> (try subst_vars) <;> omega))) (zEq.cons zE1.rf (zEq.cons zE1.rf (zEq.cons zE1.rf (zEq.cons zE1.rf zEq.nil))))))) ?_
      exact hret () dX0_harden_43 rfl (by first | omega | (rw [up_same]; omega))
    · skip
      refine z_aloadn 18 hC 0 dX0_harden_17 rfl rfl rfl ?_
      refine z_get 21 0 1 hC hinX0 L15 dX0_harden_18 rfl rfl rfl (by decide) rfl ?_
      refine z_iloadn 22 hC 1 dX0_harden_21 rfl rfl rfl ?_
      refine z_iald 23 2 hC dX0_harden_22 rfl rfl (by decide) (by omega) ?_
      have b_8 := hf c (by omega) (by omega)
      refine z_iconst 24 hC dX0_harden_23 rfl ?_
      refine z_icmp_ge 37 27 hC dX0_harden_24 (by decide) rfl (by omega) (by omega) (fun c_9 => ?_) (fun c_9 => ?_)
      · skip
        refine z_aloadn 38 hC 0 dX0_harden_37 rfl rfl rfl ?_
        refine z_get 41 0 1 hC hinX0 L15 dX0_harden_38 rfl rfl rfl (by decide) rfl ?_
        refine z_iloadn 42 hC 1 dX0_harden_41 rfl rfl rfl ?_
        refine z_iald 43 2 hC dX0_harden_42 rfl rfl (by decide) (by omega) ?_
        have b_10 := hf c (by omega) (by omega)
        refine z_weq (ws' := wSh g h a s (up f c (if 0 < s c ∧ w c = 0 then min 5 (f c + 1) else f c)) w o p t lo sl fa) (zEq.cons zE1.rf (zEq.cons zE1.rf (zEq.cons (zE1.arr (by first | (intro j h0 h1; rfl) | (intro j h0 h1; unfold up; split <;> (try subst_vars) <;> omega))) (zEq.cons zE1.rf (zEq.cons zE1.rf (zEq.cons zE1.rf (zEq.cons zE1.rf zEq.nil))))))) ?_
        exact hret () dX0_harden_43 rfl (by first | omega | (rw [up_same]; omega))
      · skip
        refine z_aloadn 28 hC 0 dX0_harden_27 rfl rfl rfl ?_
        refine z_get 31 0 1 hC hinX0 L15 dX0_harden_28 rfl rfl rfl (by decide) rfl ?_
        refine z_iloadn 32 hC 1 dX0_harden_31 rfl rfl rfl ?_
        refine z_dup2 33 hC dX0_harden_32 rfl rfl rfl ?_
        refine z_iald 34 2 hC dX0_harden_33 rfl rfl (by decide) (by omega) ?_
        have b_11 := hf c (by omega) (by omega)
        refine z_iconst 35 hC dX0_harden_34 rfl ?_
        refine z_iadd 36 hC dX0_harden_35 rfl ?_
        refine z_iast (ws' := wSh g h a s (up f c ((f c) + 1)) w o p t lo sl fa) 37 2 hC dX0_harden_36 rfl rfl (by decide) (by omega) rfl ?_
        refine z_aloadn 38 hC 0 dX0_harden_37 rfl rfl rfl ?_
        refine z_get 41 0 1 hC hinX0 L15 dX0_harden_38 rfl rfl rfl (by decide) rfl ?_
        refine z_iloadn 42 hC 1 dX0_harden_41 rfl rfl rfl ?_
        refine z_iald 43 2 hC dX0_harden_42 rfl rfl (by decide) (by omega) ?_
        refine z_weq (ws' := wSh g h a s (up f c (if 0 < s c ∧ w c = 0 then min 5 (f c + 1) else f c)) w o p t lo sl fa) (zEq.cons zE1.rf (zEq.cons zE1.rf (zEq.cons (zE1.arr (by first | (intro j h0 h1; rfl) | (intro j h0 h1; unfold up; split <;> (try subst_vars) <;> omega))) (zEq.cons zE1.rf (zEq.cons zE1.rf (zEq.cons zE1.rf (zEq.cons zE1.rf zEq.nil))))))) ?_
        exact hret () dX0_harden_43 rfl (by first | omega | (rw [up_same]; omega))
set_option maxHeartbeats 4000000 in
set_option maxRecDepth 100000 in
theorem c_X0_putStick (l : Launch) (D : va_G) (g : Nat → ClassId) (h : Nat) (a : Nat → Nat) (s f w o p t : Int → Int) (lo sl fa : Int) (c : Int) (n : Int) (hc : 0 ≤ c ∧ c < 120) : ZMv (S := Unit) l yX0_putStick wsX0_putStick ({ frames := 1, cells := 0, slots := 0, locals := 40 }) D g [.ref h, .int (iI c), .int (iI n)] (wSh g h a s f w o p t lo sl fa) (fun _ => True) (fun _ => wSh g h a s f w (up o c n) (up p c (hg s c)) t lo sl fa) 0 0 := by
  have hinX0 : ∀ w ∈ u_ws RX0 TX0 9, w ∈ wsX0_putStick := by decide +kernel
  have L21 : Cond.fieldLink RX0 21 "SandcastleLeague$Shore" "owner" "[I" ∈ wsX0_putStick := by decide +kernel
  have L24 : Cond.fieldLink RX0 24 "SandcastleLeague$Shore" "plantedHeight" "[I" ∈ wsX0_putStick := by decide +kernel
  refine ZMv.of (ty := .int) (own := RX0) cX0_putStick 3 [(0, .ref h), (1, .int (iI c)), (2, .int (iI n))] (by decide +kernel) rfl (nle rfl) rfl rfl ?_
  intro E hC hN hret
  refine z_aloadn 1 hC 0 dX0_putStick_0 rfl rfl rfl ?_
  refine z_get 4 0 3 hC hinX0 L21 dX0_putStick_1 rfl rfl rfl (by decide) rfl ?_
  refine z_iloadn 5 hC 1 dX0_putStick_4 rfl rfl rfl ?_
  refine z_iloadn 6 hC 2 dX0_putStick_5 rfl rfl rfl ?_
  refine z_iast (ws' := wSh g h a s f w (up o c n) p t lo sl fa) 7 4 hC dX0_putStick_6 rfl rfl (by decide) (by omega) rfl ?_
  refine z_aloadn 8 hC 0 dX0_putStick_7 rfl rfl rfl ?_
  refine z_get 11 0 4 hC hinX0 L24 dX0_putStick_8 rfl rfl rfl (by decide) rfl ?_
  refine z_iloadn 12 hC 1 dX0_putStick_11 rfl rfl rfl ?_
  refine z_aloadn 13 hC 0 dX0_putStick_12 rfl rfl rfl ?_
  refine z_iloadn 14 hC 1 dX0_putStick_13 rfl rfl rfl ?_
  refine z_calli (wr := []) (w2 := fun _ => wSh g h a s f w (up o c n) p t lo sl fa) 17 hC [0, 1, 2, 3, 4, 5, 6] [] [0, 1, 2, 3, 4, 5, 6] (z_runV (nA := 1) hC hN (c_X0_height l D g h a s f w (up o c n) p t lo sl fa c (by omega)) [0, 1, 2, 3, 4, 5, 6] rfl (by decide) gX0_putStick_X0_height (by decide +kernel) rfl rfl rfl ⟨by decide, by decide⟩ rfl rfl (nle rfl) dX0_putStick_14 ⟨by decide, by decide⟩ 0 rfl rfl) rfl rfl (by decide) (by decide) (fun _ => rfl) (by decide) rfl (k2 := 0) (n2 := 0) rfl rfl (fun z_1 _ p_2 => ?_)
  subst p_2
  refine z_iast (ws' := wSh g h a s f w (up o c n) (up p c (hg s c)) t lo sl fa) 18 5 hC dX0_putStick_17 rfl rfl (by decide) (by omega) rfl ?_
  exact hret () dX0_putStick_18 (by trivial)
set_option maxHeartbeats 4000000 in
set_option maxRecDepth 100000 in
theorem c_X0_beside (l : Launch) (D : va_G) (g : Nat → ClassId) (c k : Int) (hc : 0 ≤ c ∧ c < 120) (hk : 0 ≤ k ∧ k < 4) : ZMi (S := Unit) l yX0_beside wsX0_beside ({ frames := 0, cells := 0, slots := 0, locals := 0 }) D g [.int (iI c), .int (iI k)] ([]) (fun z _ => z = bsd c k) (fun _ => []) 0 0 := by
  refine ZMi.of (own := RX0) cX0_beside 3 [(0, .int (iI c)), (1, .int (iI k))] (by decide +kernel) rfl (nle rfl) rfl rfl ?_
  intro E hC hN hret
  refine z_iloadn 1 hC 0 dX0_beside_0 rfl rfl rfl ?_
  refine z_bipush 3 hC dX0_beside_1 (by decide) rfl ?_
  refine z_irem 4 hC dX0_beside_3 rfl (by omega) (by omega) ?_
  refine z_istoren (lv' := [(2, .int (iI (c % 12))), (0, .int (iI c)), (1, .int (iI k))]) 5 hC dX0_beside_4 rfl rfl (by decide) rfl ?_
  refine z_iloadn 6 hC 2 dX0_beside_5 rfl rfl rfl ?_
  by_cases e_1 : k = 0
  · refine z_tabIn 32 0 hC dX0_beside_6 e_1 (by decide) rfl rfl (by decide) ?_
    refine z_iloadn 33 hC 1 dX0_beside_32 rfl rfl rfl ?_
    refine z_bipush 35 hC dX0_beside_33 (by decide) rfl ?_
    refine z_icmp_lt 45 38 hC dX0_beside_35 (by decide) rfl (by omega) (by omega) (fun c_2 => ?_) (fun c_2 => ?_)
    · skip
      refine z_iconst 46 hC dX0_beside_45 rfl ?_
      exact hret () dX0_beside_46 rfl (by unfold bsd; omega)
    · skip
      refine z_iloadn 39 hC 1 dX0_beside_38 rfl rfl rfl ?_
      refine z_bipush 41 hC dX0_beside_39 (by decide) rfl ?_
      refine z_isub 42 hC dX0_beside_41 rfl ?_
      refine z_goto 46 hC dX0_beside_42 (by decide) ?_
      exact hret () dX0_beside_46 rfl (by unfold bsd; omega)
  by_cases e_3 : k = 1
  · refine z_tabIn 47 1 hC dX0_beside_6 e_3 (by decide) rfl rfl (by decide) ?_
    refine z_iloadn 48 hC 0 dX0_beside_47 rfl rfl rfl ?_
    refine z_if_le 57 51 hC dX0_beside_48 (by decide) rfl (by omega) (fun c_4 => ?_) (fun c_4 => ?_)
    · skip
      refine z_iconst 58 hC dX0_beside_57 rfl ?_
      exact hret () dX0_beside_58 rfl (by unfold bsd; omega)
    · skip
      refine z_iloadn 52 hC 1 dX0_beside_51 rfl rfl rfl ?_
      refine z_iconst 53 hC dX0_beside_52 rfl ?_
      refine z_isub 54 hC dX0_beside_53 rfl ?_
      refine z_goto 58 hC dX0_beside_54 (by decide) ?_
      exact hret () dX0_beside_58 rfl (by unfold bsd; omega)
  by_cases e_5 : k = 2
  · refine z_tabIn 59 2 hC dX0_beside_6 e_5 (by decide) rfl rfl (by decide) ?_
    refine z_iloadn 60 hC 0 dX0_beside_59 rfl rfl rfl ?_
    refine z_bipush 62 hC dX0_beside_60 (by decide) rfl ?_
    refine z_icmp_ge 71 65 hC dX0_beside_62 (by decide) rfl (by omega) (by omega) (fun c_6 => ?_) (fun c_6 => ?_)
    · skip
      refine z_iconst 72 hC dX0_beside_71 rfl ?_
      exact hret () dX0_beside_72 rfl (by unfold bsd; omega)
    · skip
      refine z_iloadn 66 hC 1 dX0_beside_65 rfl rfl rfl ?_
      refine z_iconst 67 hC dX0_beside_66 rfl ?_
      refine z_iadd 68 hC dX0_beside_67 rfl ?_
      refine z_goto 72 hC dX0_beside_68 (by decide) ?_
      exact hret () dX0_beside_72 rfl (by unfold bsd; omega)
  refine z_tabOut 73 hC dX0_beside_6 (by omega) (by omega) (by decide) ?_
  refine z_iloadn 74 hC 1 dX0_beside_73 rfl rfl rfl ?_
  refine z_bipush 76 hC dX0_beside_74 (by decide) rfl ?_
  refine z_icmp_ge 86 79 hC dX0_beside_76 (by decide) rfl (by omega) (by omega) (fun c_7 => ?_) (fun c_7 => ?_)
  · skip
    refine z_iconst 87 hC dX0_beside_86 rfl ?_
    exact hret () dX0_beside_87 rfl (by unfold bsd; omega)
  · skip
    refine z_iloadn 80 hC 1 dX0_beside_79 rfl rfl rfl ?_
    refine z_bipush 82 hC dX0_beside_80 (by decide) rfl ?_
    refine z_iadd 83 hC dX0_beside_82 rfl ?_
    refine z_goto 87 hC dX0_beside_83 (by decide) ?_
    exact hret () dX0_beside_87 rfl (by unfold bsd; omega)
set_option maxHeartbeats 4000000 in
set_option maxRecDepth 100000 in
theorem c_X0_lowestBeside (l : Launch) (D : va_G) (g : Nat → ClassId) (h : Nat) (a : Nat → Nat) (s f w o p t : Int → Int) (lo sl fa : Int) (c : Int) (hc : 0 ≤ c ∧ c < 120) (hs : Bd s 120 0 20) : ZMi (S := Unit) l yX0_lowestBeside wsX0_lowestBeside ({ frames := 1, cells := 0, slots := 0, locals := 40 }) D g [.ref h, .int (iI c)] (wSh g h a s f w o p t lo sl fa) (fun z _ => z = low s c) (fun _ => wSh g h a s f w o p t lo sl fa) 0 0 := by
  refine ZMi.of (own := RX0) cX0_lowestBeside 5 [(0, .ref h), (1, .int (iI c))] (by decide +kernel) rfl (nle rfl) rfl rfl ?_
  intro E hC hN hret
  refine z_iconst 1 hC dX0_lowestBeside_0 rfl ?_
  refine z_istoren (lv' := [(2, .int (iI (-1))), (0, .ref h), (1, .int (iI c))]) 2 hC dX0_lowestBeside_1 rfl rfl (by decide) rfl ?_
  refine z_iconst 3 hC dX0_lowestBeside_2 rfl ?_
  refine z_istoren (lv' := [(3, .int (iI 0)), (2, .int (iI (-1))), (0, .ref h), (1, .int (iI c))]) 4 hC dX0_lowestBeside_3 rfl rfl (by decide) rfl ?_
  have loop4 : ∀ (N4 : Nat) (i : Int), 0 ≤ i ∧ i ≤ 4 → (4 - i : Int) < N4 → Z E (wSh g h a s f w o p t lo sl fa) [(0, .ref h), (1, .int (iI c)), (2, .int (iI (lowk s c i))), (3, .int (iI i))] 0 0 4 [] := by
    intro N4
    induction N4 with
    | zero => intro i hi hm4; exact absurd hm4 (by omega)
    | succ N4 ih4 =>
      intro i hi hm4
      have qlk := lowk_rg s hc hi.1
      refine z_iloadn 5 hC 3 dX0_lowestBeside_4 rfl rfl rfl ?_
      refine z_iconst 6 hC dX0_lowestBeside_5 rfl ?_
      refine z_icmp_ge 50 9 hC dX0_lowestBeside_6 (by decide) rfl (by omega) (by omega) (fun c_1 => ?_) (fun c_1 => ?_)
      · skip
        refine z_iloadn 51 hC 2 dX0_lowestBeside_50 rfl rfl rfl ?_
        exact hret () dX0_lowestBeside_51 rfl (by (have e : i = 4 := by omega); subst e; rfl)
      · skip
        refine z_iloadn 10 hC 1 dX0_lowestBeside_9 rfl rfl rfl ?_
        refine z_iloadn 11 hC 3 dX0_lowestBeside_10 rfl rfl rfl ?_
        refine z_calli (wr := [(h, .inr (0, [.ref (a 0), .ref (a 1), .ref (a 2), .ref (a 3), .ref (a 4), .ref (a 5), .int (iI lo), .int (iI sl), .int (iI fa)])), ((a 0), ar g 120 s), ((a 1), ar g 120 f), ((a 2), ar g 120 w), ((a 3), ar g 120 o), ((a 4), ar g 120 p), ((a 5), ar g 120 t)]) (w2 := fun _ => wSh g h a s f w o p t lo sl fa) 14 hC [] [0, 1, 2, 3, 4, 5, 6] [0, 1, 2, 3, 4, 5, 6] (z_runS (nA := 2) hC hN (c_X0_beside l D g c i (by omega) (by omega)) [] rfl (by decide) gX0_lowestBeside_X0_beside (by decide +kernel) rfl rfl rfl ⟨by decide, by decide⟩ rfl rfl (nle rfl) dX0_lowestBeside_11 ⟨by decide, by decide⟩) rfl rfl (by decide) (by decide) (fun _ => rfl) (by decide) rfl (k2 := 0) (n2 := 0) rfl rfl (fun z_3 _ p_4 => ?_)
        subst p_4
        have q_2 := bsd_rg (c := c) (by omega) i
        refine z_istore (lv' := [(4, .int (iI (bsd c i))), (0, .ref h), (1, .int (iI c)), (2, .int (iI (lowk s c i))), (3, .int (iI i))]) 16 hC dX0_lowestBeside_14 rfl (by decide) rfl ?_
        refine z_iload 18 hC 0 dX0_lowestBeside_16 rfl rfl ?_
        refine z_iconst 19 hC dX0_lowestBeside_18 rfl ?_
        refine z_icmp_eq 44 22 hC dX0_lowestBeside_19 (by decide) rfl (by omega) (by omega) (fun c_5 => ?_) (fun c_5 => ?_)
        · skip
          refine z_iinc (lv' := [(3, .int (iI (i + 1))), (4, .int (iI (bsd c i))), (0, .ref h), (1, .int (iI c)), (2, .int (iI (lowk s c i)))]) 47 4 hC dX0_lowestBeside_44 rfl rfl (by decide) rfl ?_
          refine z_goto 4 hC dX0_lowestBeside_47 (by decide) ?_
          refine z_lv (lv' := [(0, .ref h), (1, .int (iI c)), (2, .int (iI (lowk s c i))), (3, .int (iI (i + 1)))]) [2, 3, 4, 0] rfl ?_
          refine z_lveq (lv' := [(0, .ref h), (1, .int (iI c)), (2, .int (iI (lowk s c (i + 1)))), (3, .int (iI (i + 1)))]) (zfk (zfk (zlc (by rw [lowk_s s c (by omega)]; omega) (zfk rfl)))) ?_
          exact ih4 (i + 1) (by omega) (by omega)
        · skip
          refine z_iloadn 23 hC 3 dX0_lowestBeside_22 rfl rfl rfl ?_
          refine z_iconst 24 hC dX0_lowestBeside_23 rfl ?_
          refine z_icmp_eq 41 27 hC dX0_lowestBeside_24 (by decide) rfl (by omega) (by omega) (fun c_6 => ?_) (fun c_6 => ?_)
          · skip
            refine z_iload 43 hC 0 dX0_lowestBeside_41 rfl rfl ?_
            refine z_istoren (lv' := [(2, .int (iI (bsd c i))), (4, .int (iI (bsd c i))), (0, .ref h), (1, .int (iI c)), (3, .int (iI i))]) 44 hC dX0_lowestBeside_43 rfl rfl (by decide) rfl ?_
            refine z_iinc (lv' := [(3, .int (iI (i + 1))), (2, .int (iI (bsd c i))), (4, .int (iI (bsd c i))), (0, .ref h), (1, .int (iI c))]) 47 4 hC dX0_lowestBeside_44 rfl rfl (by decide) rfl ?_
            refine z_goto 4 hC dX0_lowestBeside_47 (by decide) ?_
            refine z_lv (lv' := [(0, .ref h), (1, .int (iI c)), (2, .int (iI (bsd c i))), (3, .int (iI (i + 1)))]) [3, 4, 1, 0] rfl ?_
            refine z_lveq (lv' := [(0, .ref h), (1, .int (iI c)), (2, .int (iI (lowk s c (i + 1)))), (3, .int (iI (i + 1)))]) (zfk (zfk (zlc (by rw [lowk_s s c (by omega)]; omega) (zfk rfl)))) ?_
            exact ih4 (i + 1) (by omega) (by omega)
          · skip
            refine z_aloadn 28 hC 1 dX0_lowestBeside_27 rfl rfl rfl ?_
            refine z_iload 30 hC 0 dX0_lowestBeside_28 rfl rfl ?_
            refine z_calli (wr := []) (w2 := fun _ => wSh g h a s f w o p t lo sl fa) 33 hC [0, 1, 2, 3, 4, 5, 6] [] [0, 1, 2, 3, 4, 5, 6] (z_runV (nA := 1) hC hN (c_X0_height l D g h a s f w o p t lo sl fa (bsd c i) (by omega)) [0, 1, 2, 3, 4, 5, 6] rfl (by decide) gX0_lowestBeside_X0_height (by decide +kernel) rfl rfl rfl ⟨by decide, by decide⟩ rfl rfl (nle rfl) dX0_lowestBeside_30 ⟨by decide, by decide⟩ 0 rfl rfl) rfl rfl (by decide) (by decide) (fun _ => rfl) (by decide) rfl (k2 := 0) (n2 := 0) rfl rfl (fun z_8 _ p_9 => ?_)
            subst p_9
            have y_7 := hg_bd hs (c := bsd c i) (by omega)
            refine z_aloadn 34 hC 1 dX0_lowestBeside_33 rfl rfl rfl ?_
            refine z_iloadn 35 hC 3 dX0_lowestBeside_34 rfl rfl rfl ?_
            refine z_calli (wr := []) (w2 := fun _ => wSh g h a s f w o p t lo sl fa) 38 hC [0, 1, 2, 3, 4, 5, 6] [] [0, 1, 2, 3, 4, 5, 6] (z_runV (nA := 1) hC hN (c_X0_height l D g h a s f w o p t lo sl fa (lowk s c i) (by omega)) [0, 1, 2, 3, 4, 5, 6] rfl (by decide) gX0_lowestBeside_X0_height (by decide +kernel) rfl rfl rfl ⟨by decide, by decide⟩ rfl rfl (nle rfl) dX0_lowestBeside_35 ⟨by decide, by decide⟩ 0 rfl rfl) rfl rfl (by decide) (by decide) (fun _ => rfl) (by decide) rfl (k2 := 0) (n2 := 0) rfl rfl (fun z_11 _ p_12 => ?_)
            subst p_12
            have y_10 := hg_bd hs (c := lowk s c i) (by omega)
            refine z_icmp_ge 44 41 hC dX0_lowestBeside_38 (by decide) rfl (by omega) (by omega) (fun c_13 => ?_) (fun c_13 => ?_)
            · skip
              refine z_iinc (lv' := [(3, .int (iI (i + 1))), (4, .int (iI (bsd c i))), (0, .ref h), (1, .int (iI c)), (2, .int (iI (lowk s c i)))]) 47 4 hC dX0_lowestBeside_44 rfl rfl (by decide) rfl ?_
              refine z_goto 4 hC dX0_lowestBeside_47 (by decide) ?_
              refine z_lv (lv' := [(0, .ref h), (1, .int (iI c)), (2, .int (iI (lowk s c i))), (3, .int (iI (i + 1)))]) [2, 3, 4, 0] rfl ?_
              refine z_lveq (lv' := [(0, .ref h), (1, .int (iI c)), (2, .int (iI (lowk s c (i + 1)))), (3, .int (iI (i + 1)))]) (zfk (zfk (zlc (by rw [lowk_s s c (by omega)]; omega) (zfk rfl)))) ?_
              exact ih4 (i + 1) (by omega) (by omega)
            · skip
              refine z_iload 43 hC 0 dX0_lowestBeside_41 rfl rfl ?_
              refine z_istoren (lv' := [(2, .int (iI (bsd c i))), (4, .int (iI (bsd c i))), (0, .ref h), (1, .int (iI c)), (3, .int (iI i))]) 44 hC dX0_lowestBeside_43 rfl rfl (by decide) rfl ?_
              refine z_iinc (lv' := [(3, .int (iI (i + 1))), (2, .int (iI (bsd c i))), (4, .int (iI (bsd c i))), (0, .ref h), (1, .int (iI c))]) 47 4 hC dX0_lowestBeside_44 rfl rfl (by decide) rfl ?_
              refine z_goto 4 hC dX0_lowestBeside_47 (by decide) ?_
              refine z_lv (lv' := [(0, .ref h), (1, .int (iI c)), (2, .int (iI (bsd c i))), (3, .int (iI (i + 1)))]) [3, 4, 1, 0] rfl ?_
              refine z_lveq (lv' := [(0, .ref h), (1, .int (iI c)), (2, .int (iI (lowk s c (i + 1)))), (3, .int (iI (i + 1)))]) (zfk (zfk (zlc (by rw [lowk_s s c (by omega)]; omega) (zfk rfl)))) ?_
              exact ih4 (i + 1) (by omega) (by omega)
  refine z_lv (lv' := [(0, .ref h), (1, .int (iI c)), (2, .int (iI (-1))), (3, .int (iI 0))]) [2, 3, 1, 0] rfl ?_
  refine z_lveq (lv' := [(0, .ref h), (1, .int (iI c)), (2, .int (iI (lowk s c 0))), (3, .int (iI 0))]) (zfk (zfk (zlc (by rfl) (zfk rfl)))) ?_
  exact loop4 ((4 - 0 + 1 : Int).toNat) 0 (by omega) (by omega)
set_option maxHeartbeats 4000000 in
set_option maxRecDepth 100000 in
theorem c_X0_isOpenToSea (l : Launch) (D : va_G) (g : Nat → ClassId) (h : Nat) (a : Nat → Nat) (s f w o p t : Int → Int) (lo sl fa : Int) (c : Int) (hc : 0 ≤ c ∧ c < 120) (hw : Bd w 120 0 1) : ZMi (S := Unit) l yX0_isOpenToSea wsX0_isOpenToSea ({ frames := 1, cells := 0, slots := 0, locals := 40 }) D g [.ref h, .int (iI c)] (wSh g h a s f w o p t lo sl fa) (fun z _ => (z = 0 ∨ z = 1) ∧ (z = 1 ↔ opn w c)) (fun _ => wSh g h a s f w o p t lo sl fa) 0 0 := by
  refine ZMi.of (own := RX0) cX0_isOpenToSea 4 [(0, .ref h), (1, .int (iI c))] (by decide +kernel) rfl (nle rfl) rfl rfl ?_
  intro E hC hN hret
  refine z_iloadn 1 hC 1 dX0_isOpenToSea_0 rfl rfl rfl ?_
  refine z_bipush 3 hC dX0_isOpenToSea_1 (by decide) rfl ?_
  refine z_icmp_ge 8 6 hC dX0_isOpenToSea_3 (by decide) rfl (by omega) (by omega) (fun c_1 => ?_) (fun c_1 => ?_)
  · skip
    refine z_iconst 9 hC dX0_isOpenToSea_8 rfl ?_
    refine z_istoren (lv' := [(2, .int (iI 0)), (0, .ref h), (1, .int (iI c))]) 10 hC dX0_isOpenToSea_9 rfl rfl (by decide) rfl ?_
    have loop10 : ∀ (N10 : Nat) (i : Int), 0 ≤ i ∧ i ≤ 4 → (∀ k : Int, 0 ≤ k → k < i → bsd c k = -1 ∨ w (bsd c k) = 0) → (4 - i : Int) < N10 → Z E (wSh g h a s f w o p t lo sl fa) [(0, .ref h), (1, .int (iI c)), (2, .int (iI i))] 0 0 10 [] := by
      intro N10
      induction N10 with
      | zero => intro i hi hj hm10; exact absurd hm10 (by omega)
      | succ N10 ih10 =>
        intro i hi hj hm10
        refine z_iloadn 11 hC 2 dX0_isOpenToSea_10 rfl rfl rfl ?_
        refine z_iconst 12 hC dX0_isOpenToSea_11 rfl ?_
        refine z_icmp_ge 42 15 hC dX0_isOpenToSea_12 (by decide) rfl (by omega) (by omega) (fun c_2 => ?_) (fun c_2 => ?_)
        · skip
          refine z_iconst 43 hC dX0_isOpenToSea_42 rfl ?_
          exact hret () dX0_isOpenToSea_43 (by decide) (by first | exact ⟨by omega, iff_of_true rfl (Or.inl (by omega))⟩ | exact ⟨by omega, iff_of_true rfl (Or.inr ⟨i, by omega, by omega, by omega, by omega⟩)⟩ | (refine ⟨by omega, iff_of_false (by decide) ?_⟩; rintro (q | ⟨k, k0, k1, k2, k3⟩); omega; rcases hj k k0 (by omega) with q | q; exact k2 q; exact k3 q))
        · skip
          refine z_iloadn 16 hC 1 dX0_isOpenToSea_15 rfl rfl rfl ?_
          refine z_iloadn 17 hC 2 dX0_isOpenToSea_16 rfl rfl rfl ?_
          refine z_calli (wr := [(h, .inr (0, [.ref (a 0), .ref (a 1), .ref (a 2), .ref (a 3), .ref (a 4), .ref (a 5), .int (iI lo), .int (iI sl), .int (iI fa)])), ((a 0), ar g 120 s), ((a 1), ar g 120 f), ((a 2), ar g 120 w), ((a 3), ar g 120 o), ((a 4), ar g 120 p), ((a 5), ar g 120 t)]) (w2 := fun _ => wSh g h a s f w o p t lo sl fa) 20 hC [] [0, 1, 2, 3, 4, 5, 6] [0, 1, 2, 3, 4, 5, 6] (z_runS (nA := 2) hC hN (c_X0_beside l D g c i (by omega) (by omega)) [] rfl (by decide) gX0_isOpenToSea_X0_beside (by decide +kernel) rfl rfl rfl ⟨by decide, by decide⟩ rfl rfl (nle rfl) dX0_isOpenToSea_17 ⟨by decide, by decide⟩) rfl rfl (by decide) (by decide) (fun _ => rfl) (by decide) rfl (k2 := 0) (n2 := 0) rfl rfl (fun z_4 _ p_5 => ?_)
          subst p_5
          have q_3 := bsd_rg (c := c) (by omega) i
          refine z_istoren (lv' := [(3, .int (iI (bsd c i))), (0, .ref h), (1, .int (iI c)), (2, .int (iI i))]) 21 hC dX0_isOpenToSea_20 rfl rfl (by decide) rfl ?_
          refine z_iloadn 22 hC 0 dX0_isOpenToSea_21 rfl rfl rfl ?_
          refine z_iconst 23 hC dX0_isOpenToSea_22 rfl ?_
          refine z_icmp_eq 36 26 hC dX0_isOpenToSea_23 (by decide) rfl (by omega) (by omega) (fun c_6 => ?_) (fun c_6 => ?_)
          · skip
            refine z_iinc (lv' := [(2, .int (iI (i + 1))), (3, .int (iI (bsd c i))), (0, .ref h), (1, .int (iI c))]) 39 3 hC dX0_isOpenToSea_36 rfl rfl (by decide) rfl ?_
            refine z_goto 10 hC dX0_isOpenToSea_39 (by decide) ?_
            refine z_lv (lv' := [(0, .ref h), (1, .int (iI c)), (2, .int (iI (i + 1)))]) [2, 3, 0] rfl ?_
            exact ih10 (i + 1) (by omega) (by intro k h0 h1; by_cases e : k = i; subst e; omega; exact hj k h0 (by omega)) (by omega)
          · skip
            refine z_aloadn 27 hC 1 dX0_isOpenToSea_26 rfl rfl rfl ?_
            refine z_iloadn 28 hC 0 dX0_isOpenToSea_27 rfl rfl rfl ?_
            refine z_calli (wr := []) (w2 := fun _ => wSh g h a s f w o p t lo sl fa) 31 hC [0, 1, 2, 3, 4, 5, 6] [] [0, 1, 2, 3, 4, 5, 6] (z_runV (nA := 1) hC hN (c_X0_isWet l D g h a s f w o p t lo sl fa (bsd c i) (by omega) hw) [0, 1, 2, 3, 4, 5, 6] rfl (by decide) gX0_isOpenToSea_X0_isWet (by decide +kernel) rfl rfl rfl ⟨by decide, by decide⟩ rfl rfl (nle rfl) dX0_isOpenToSea_28 ⟨by decide, by decide⟩ 0 rfl rfl) rfl rfl (by decide) (by decide) (fun _ => rfl) (by decide) rfl (k2 := 0) (n2 := 0) rfl rfl (fun z_7 _ p_8 => ?_)
            refine z_if_eq 36 34 hC dX0_isOpenToSea_31 (by decide) rfl (by omega) (fun c_9 => ?_) (fun c_9 => ?_)
            · skip
              refine z_iinc (lv' := [(2, .int (iI (i + 1))), (3, .int (iI (bsd c i))), (0, .ref h), (1, .int (iI c))]) 39 3 hC dX0_isOpenToSea_36 rfl rfl (by decide) rfl ?_
              refine z_goto 10 hC dX0_isOpenToSea_39 (by decide) ?_
              refine z_lv (lv' := [(0, .ref h), (1, .int (iI c)), (2, .int (iI (i + 1)))]) [2, 3, 0] rfl ?_
              exact ih10 (i + 1) (by omega) (by intro k h0 h1; by_cases e : k = i; subst e; omega; exact hj k h0 (by omega)) (by omega)
            · skip
              refine z_iconst 35 hC dX0_isOpenToSea_34 rfl ?_
              exact hret () dX0_isOpenToSea_35 (by decide) (by first | exact ⟨by omega, iff_of_true rfl (Or.inl (by omega))⟩ | exact ⟨by omega, iff_of_true rfl (Or.inr ⟨i, by omega, by omega, by omega, by omega⟩)⟩ | (refine ⟨by omega, iff_of_false (by decide) ?_⟩; rintro (q | ⟨k, k0, k1, k2, k3⟩); omega; rcases hj k k0 (by omega) with q | q; exact k2 q; exact k3 q))
    refine z_lv (lv' := [(0, .ref h), (1, .int (iI c)), (2, .int (iI 0))]) [1, 2, 0] rfl ?_
    exact loop10 ((4 - 0 + 1 : Int).toNat) 0 (by omega) (by intro k h0 h1; omega) (by omega)
  · skip
    refine z_iconst 7 hC dX0_isOpenToSea_6 rfl ?_
    exact hret () dX0_isOpenToSea_7 (by decide) (by first | exact ⟨by omega, iff_of_true rfl (Or.inl (by omega))⟩ | exact ⟨by omega, iff_of_true rfl (Or.inr ⟨i, by omega, by omega, by omega, by omega⟩)⟩ | (refine ⟨by omega, iff_of_false (by decide) ?_⟩; rintro (q | ⟨k, k0, k1, k2, k3⟩); omega; rcases hj k k0 (by omega) with q | q; exact k2 q; exact k3 q))
set_option maxHeartbeats 4000000 in
set_option maxRecDepth 100000 in
theorem c_X0_sweepWater (l : Launch) (D : va_G) (g : Nat → ClassId) (h : Nat) (a : Nat → Nat) (s f w o p t : Int → Int) (lo sl fa : Int) (L : Int) (hs : Bd s 120 0 20) (hw : Bd w 120 0 1) (hL : -1000 ≤ L ∧ L ≤ 1000) : ZMi (S := (Int → Int)) l yX0_sweepWater wsX0_sweepWater ({ frames := 2, cells := 0, slots := 0, locals := 90 }) D g [.ref h, .int (iI L)] (wSh g h a s f w o p t lo sl fa) (fun z u => swQ s w L z u) (fun u => wSh g h a s f u o p t lo sl fa) 0 0 := by
  have hinX0 : ∀ w ∈ u_ws RX0 TX0 9, w ∈ wsX0_sweepWater := by decide +kernel
  have L18 : Cond.fieldLink RX0 18 "SandcastleLeague$Shore" "water" "[I" ∈ wsX0_sweepWater := by decide +kernel
  refine ZMi.of (own := RX0) cX0_sweepWater 4 [(0, .ref h), (1, .int (iI L))] (by decide +kernel) rfl (nle rfl) rfl rfl ?_
  intro E hC hN hret
  refine z_iconst 1 hC dX0_sweepWater_0 rfl ?_
  refine z_istoren (lv' := [(2, .int (iI 0)), (0, .ref h), (1, .int (iI L))]) 2 hC dX0_sweepWater_1 rfl rfl (by decide) rfl ?_
  refine z_iconst 3 hC dX0_sweepWater_2 rfl ?_
  refine z_istoren (lv' := [(3, .int (iI 0)), (2, .int (iI 0)), (0, .ref h), (1, .int (iI L))]) 4 hC dX0_sweepWater_3 rfl rfl (by decide) rfl ?_
  have loop4 : ∀ (N4 : Nat) (r : Int) (i : Int) (v : Int → Int), 0 ≤ i ∧ i ≤ 120 → swI s w L i r v → (120 - i : Int) < N4 → Z E (wSh g h a s f v o p t lo sl fa) [(0, .ref h), (1, .int (iI L)), (2, .int (iI r)), (3, .int (iI i))] 0 0 4 [] := by
    intro N4
    induction N4 with
    | zero => intro r i v hi hI hm4; exact absurd hm4 (by omega)
    | succ N4 ih4 =>
      intro r i v hi hI hm4
      have hr := hI.1
      have hv := hI.2.1
      refine z_iloadn 5 hC 3 dX0_sweepWater_4 rfl rfl rfl ?_
      refine z_bipush 7 hC dX0_sweepWater_5 (by decide) rfl ?_
      refine z_icmp_ge 50 10 hC dX0_sweepWater_7 (by decide) rfl (by omega) (by omega) (fun c_1 => ?_) (fun c_1 => ?_)
      · skip
        refine z_iloadn 51 hC 2 dX0_sweepWater_50 rfl rfl rfl ?_
        exact hret v dX0_sweepWater_51 (znb (by omega)) (by (have e : i = 120 := by omega); subst e; exact hI)
      · skip
        refine z_aloadn 11 hC 0 dX0_sweepWater_10 rfl rfl rfl ?_
        refine z_iloadn 12 hC 3 dX0_sweepWater_11 rfl rfl rfl ?_
        refine z_calli (wr := []) (w2 := fun _ => wSh g h a s f v o p t lo sl fa) 15 hC [0, 1, 2, 3, 4, 5, 6] [] [0, 1, 2, 3, 4, 5, 6] (z_runV (nA := 1) hC hN (c_X0_isWet l D g h a s f v o p t lo sl fa i (by omega) hv) [0, 1, 2, 3, 4, 5, 6] rfl (by decide) gX0_sweepWater_X0_isWet (by decide +kernel) rfl rfl rfl ⟨by decide, by decide⟩ rfl rfl (nle rfl) dX0_sweepWater_12 ⟨by decide, by decide⟩ 0 rfl rfl) rfl rfl (by decide) (by decide) (fun _ => rfl) (by decide) rfl (k2 := 0) (n2 := 0) rfl rfl (fun z_2 _ p_3 => ?_)
        refine z_if_ne 44 18 hC dX0_sweepWater_15 (by decide) rfl (by omega) (fun c_4 => ?_) (fun c_4 => ?_)
        · skip
          refine z_iinc (lv' := [(3, .int (iI (i + 1))), (0, .ref h), (1, .int (iI L)), (2, .int (iI r))]) 47 3 hC dX0_sweepWater_44 rfl rfl (by decide) rfl ?_
          refine z_goto 4 hC dX0_sweepWater_47 (by decide) ?_
          refine z_lv (lv' := [(0, .ref h), (1, .int (iI L)), (2, .int (iI r)), (3, .int (iI (i + 1)))]) [1, 2, 3, 0] rfl ?_
          exact ih4 r (i + 1) v (by omega) (by first | exact swI_set hI hw (by omega) (by omega) (by omega) (p_3.2.mp (by omega)) | exact swI_skip hI (by omega) (fun q1 q2 q3 => by omega) | exact swI_skip hI (by omega) (fun q1 q2 q3 => by have := p_3.2.mpr q3; omega)) (by omega)
        · skip
          refine z_aloadn 19 hC 0 dX0_sweepWater_18 rfl rfl rfl ?_
          refine z_iloadn 20 hC 3 dX0_sweepWater_19 rfl rfl rfl ?_
          refine z_calli (wr := []) (w2 := fun _ => wSh g h a s f v o p t lo sl fa) 23 hC [0, 1, 2, 3, 4, 5, 6] [] [0, 1, 2, 3, 4, 5, 6] (z_runV (nA := 1) hC hN (c_X0_height l D g h a s f v o p t lo sl fa i (by omega)) [0, 1, 2, 3, 4, 5, 6] rfl (by decide) gX0_sweepWater_X0_height (by decide +kernel) rfl rfl rfl ⟨by decide, by decide⟩ rfl rfl (nle rfl) dX0_sweepWater_20 ⟨by decide, by decide⟩ 0 rfl rfl) rfl rfl (by decide) (by decide) (fun _ => rfl) (by decide) rfl (k2 := 0) (n2 := 0) rfl rfl (fun z_6 _ p_7 => ?_)
          subst p_7
          have y_5 := hg_bd hs (c := i) (by omega)
          refine z_iloadn 24 hC 1 dX0_sweepWater_23 rfl rfl rfl ?_
          refine z_icmp_ge 44 27 hC dX0_sweepWater_24 (by decide) rfl (by omega) (by omega) (fun c_8 => ?_) (fun c_8 => ?_)
          · skip
            refine z_iinc (lv' := [(3, .int (iI (i + 1))), (0, .ref h), (1, .int (iI L)), (2, .int (iI r))]) 47 3 hC dX0_sweepWater_44 rfl rfl (by decide) rfl ?_
            refine z_goto 4 hC dX0_sweepWater_47 (by decide) ?_
            refine z_lv (lv' := [(0, .ref h), (1, .int (iI L)), (2, .int (iI r)), (3, .int (iI (i + 1)))]) [1, 2, 3, 0] rfl ?_
            exact ih4 r (i + 1) v (by omega) (by first | exact swI_set hI hw (by omega) (by omega) (by omega) (p_7.2.mp (by omega)) | exact swI_skip hI (by omega) (fun q1 q2 q3 => by omega) | exact swI_skip hI (by omega) (fun q1 q2 q3 => by have := p_7.2.mpr q3; omega)) (by omega)
          · skip
            refine z_aloadn 28 hC 0 dX0_sweepWater_27 rfl rfl rfl ?_
            refine z_iloadn 29 hC 3 dX0_sweepWater_28 rfl rfl rfl ?_
            refine z_calli (wr := []) (w2 := fun _ => wSh g h a s f v o p t lo sl fa) 32 hC [0, 1, 2, 3, 4, 5, 6] [] [0, 1, 2, 3, 4, 5, 6] (z_runV (nA := 1) hC hN (c_X0_isOpenToSea l D g h a s f v o p t lo sl fa i (by omega) hv) [0, 1, 2, 3, 4, 5, 6] rfl (by decide) gX0_sweepWater_X0_isOpenToSea (by decide +kernel) rfl rfl rfl ⟨by decide, by decide⟩ rfl rfl (nle rfl) dX0_sweepWater_29 ⟨by decide, by decide⟩ 0 rfl rfl) rfl rfl (by decide) (by decide) (fun _ => rfl) (by decide) rfl (k2 := 0) (n2 := 0) rfl rfl (fun z_9 _ p_10 => ?_)
            refine z_if_eq 44 35 hC dX0_sweepWater_32 (by decide) rfl (by omega) (fun c_11 => ?_) (fun c_11 => ?_)
            · skip
              refine z_iinc (lv' := [(3, .int (iI (i + 1))), (0, .ref h), (1, .int (iI L)), (2, .int (iI r))]) 47 3 hC dX0_sweepWater_44 rfl rfl (by decide) rfl ?_
              refine z_goto 4 hC dX0_sweepWater_47 (by decide) ?_
              refine z_lv (lv' := [(0, .ref h), (1, .int (iI L)), (2, .int (iI r)), (3, .int (iI (i + 1)))]) [1, 2, 3, 0] rfl ?_
              exact ih4 r (i + 1) v (by omega) (by first | exact swI_set hI hw (by omega) (by omega) (by omega) (p_10.2.mp (by omega)) | exact swI_skip hI (by omega) (fun q1 q2 q3 => by omega) | exact swI_skip hI (by omega) (fun q1 q2 q3 => by have := p_10.2.mpr q3; omega)) (by omega)
            · skip
              refine z_aloadn 36 hC 0 dX0_sweepWater_35 rfl rfl rfl ?_
              refine z_get 39 0 2 hC hinX0 L18 dX0_sweepWater_36 rfl rfl rfl (by decide) rfl ?_
              refine z_iloadn 40 hC 3 dX0_sweepWater_39 rfl rfl rfl ?_
              refine z_iconst 41 hC dX0_sweepWater_40 rfl ?_
              refine z_iast (ws' := wSh g h a s f (up v i 1) o p t lo sl fa) 42 3 hC dX0_sweepWater_41 rfl rfl (by decide) (by omega) rfl ?_
              refine z_iconst 43 hC dX0_sweepWater_42 rfl ?_
              refine z_istoren (lv' := [(2, .int (iI 1)), (0, .ref h), (1, .int (iI L)), (3, .int (iI i))]) 44 hC dX0_sweepWater_43 rfl rfl (by decide) rfl ?_
              refine z_iinc (lv' := [(3, .int (iI (i + 1))), (2, .int (iI 1)), (0, .ref h), (1, .int (iI L))]) 47 3 hC dX0_sweepWater_44 rfl rfl (by decide) rfl ?_
              refine z_goto 4 hC dX0_sweepWater_47 (by decide) ?_
              refine z_lv (lv' := [(0, .ref h), (1, .int (iI L)), (2, .int (iI 1)), (3, .int (iI (i + 1)))]) [2, 3, 1, 0] rfl ?_
              exact ih4 1 (i + 1) (up v i 1) (by omega) (by first | exact swI_set hI hw (by omega) (by omega) (by omega) (p_10.2.mp (by omega)) | exact swI_skip hI (by omega) (fun q1 q2 q3 => by omega) | exact swI_skip hI (by omega) (fun q1 q2 q3 => by have := p_10.2.mpr q3; omega)) (by omega)
  refine z_lv (lv' := [(0, .ref h), (1, .int (iI L)), (2, .int (iI 0)), (3, .int (iI 0))]) [2, 3, 1, 0] rfl ?_
  exact loop4 ((120 - 0 + 1 : Int).toNat) 0 0 w (by omega) (by exact swI_0 L hw) (by omega)
set_option maxHeartbeats 4000000 in
set_option maxRecDepth 100000 in
theorem c_X0_findWater (l : Launch) (D : va_G) (g : Nat → ClassId) (h : Nat) (a : Nat → Nat) (s f w o p t : Int → Int) (lo sl fa : Int) (L : Int) (hs : Bd s 120 0 20) (hL : -1000 ≤ L ∧ L ≤ 1000) : ZMv (S := Unit) l yX0_findWater wsX0_findWater ({ frames := 3, cells := 0, slots := 0, locals := 160 }) D g [.ref h, .int (iI L)] (wSh g h a s f w o p t lo sl fa) (fun _ => True) (fun _ => wSh g h a s f (wet s L) o p t lo sl fa) 0 0 := by
  have hinX0 : ∀ w ∈ u_ws RX0 TX0 9, w ∈ wsX0_findWater := by decide +kernel
  have L18 : Cond.fieldLink RX0 18 "SandcastleLeague$Shore" "water" "[I" ∈ wsX0_findWater := by decide +kernel
  refine ZMv.of (ty := .int) (own := RX0) cX0_findWater 4 [(0, .ref h), (1, .int (iI L))] (by decide +kernel) rfl (nle rfl) rfl rfl ?_
  intro E hC hN hret
  refine z_aloadn 1 hC 0 dX0_findWater_0 rfl rfl rfl ?_
  refine z_get 4 0 2 hC hinX0 L18 dX0_findWater_1 rfl rfl rfl (by decide) rfl ?_
  refine z_iconst 5 hC dX0_findWater_4 rfl ?_
  refine z_callv (wr := [(h, .inr (0, [.ref (a 0), .ref (a 1), .ref (a 2), .ref (a 3), .ref (a 4), .ref (a 5), .int (iI lo), .int (iI sl), .int (iI fa)])), ((a 0), ar g 120 s), ((a 1), ar g 120 f), ((a 3), ar g 120 o), ((a 4), ar g 120 p), ((a 5), ar g 120 t)]) (w2 := fun _ => wSh g h a s f (fun _ => 0) o p t lo sl fa) 8 hC [3] [0, 1, 2, 4, 5, 6] [0, 1, 2, 6, 3, 4, 5] (z_runS (nA := 2) hC hN (c_J7_fill_53178 l D g (a 2) 120 w 0 (by omega)) [3] rfl (by decide) gX0_findWater_J7_fill_53178 (by decide +kernel) rfl rfl rfl ⟨by decide, by decide⟩ rfl rfl (nle rfl) dX0_findWater_5 ⟨by decide, by decide⟩) rfl rfl (by decide) (by decide) (fun _ => rfl) (by decide) rfl (k2 := 0) (n2 := 0) rfl rfl (fun _ p_1 => ?_)
  refine z_iconst 9 hC dX0_findWater_8 rfl ?_
  refine z_istoren (lv' := [(2, .int (iI 1)), (0, .ref h), (1, .int (iI L))]) 10 hC dX0_findWater_9 rfl rfl (by decide) rfl ?_
  refine z_iconst 11 hC dX0_findWater_10 rfl ?_
  refine z_istoren (lv' := [(3, .int (iI 0)), (2, .int (iI 1)), (0, .ref h), (1, .int (iI L))]) 12 hC dX0_findWater_11 rfl rfl (by decide) rfl ?_
  have loop12 : ∀ (N12 : Nat) (z : Int) (i : Int) (v : Int → Int), 0 ≤ i ∧ i ≤ 121 → fwI s L i z v → (121 - i : Int) < N12 → Z E (wSh g h a s f v o p t lo sl fa) [(0, .ref h), (1, .int (iI L)), (2, .int (iI z)), (3, .int (iI i))] 0 0 12 [] := by
    intro N12
    induction N12 with
    | zero => intro z i v hi hI hm12; exact absurd hm12 (by omega)
    | succ N12 ih12 =>
      intro z i v hi hI hm12
      have hz := hI.1
      have hv := hI.2.1
      refine z_iloadn 13 hC 2 dX0_findWater_12 rfl rfl rfl ?_
      refine z_if_eq 34 16 hC dX0_findWater_13 (by decide) rfl (by omega) (fun c_2 => ?_) (fun c_2 => ?_)
      · skip
        refine z_weq (ws' := wSh g h a s f (wet s L) o p t lo sl fa) (zEq.cons zE1.rf (zEq.cons zE1.rf (zEq.cons zE1.rf (zEq.cons (zE1.arr (by first | (intro j h0 h1; rfl) | (exact fwI_done hI (by omega)))) (zEq.cons zE1.rf (zEq.cons zE1.rf (zEq.cons zE1.rf zEq.nil))))))) ?_
        exact hret () dX0_findWater_34 (by trivial)
      · skip
        refine z_iloadn 17 hC 3 dX0_findWater_16 rfl rfl rfl ?_
        refine z_bipush 19 hC dX0_findWater_17 (by decide) rfl ?_
        refine z_icmp_gt 34 22 hC dX0_findWater_19 (by decide) rfl (by omega) (by omega) (fun c_3 => ?_) (fun c_3 => ?_)
        · skip
          refine z_weq (ws' := wSh g h a s f (wet s L) o p t lo sl fa) (zEq.cons zE1.rf (zEq.cons zE1.rf (zEq.cons zE1.rf (zEq.cons (zE1.arr (by first | (intro j h0 h1; rfl) | (exact fwI_done hI (by omega)))) (zEq.cons zE1.rf (zEq.cons zE1.rf (zEq.cons zE1.rf zEq.nil))))))) ?_
          exact hret () dX0_findWater_34 (by trivial)
        · skip
          refine z_aloadn 23 hC 0 dX0_findWater_22 rfl rfl rfl ?_
          refine z_iloadn 24 hC 1 dX0_findWater_23 rfl rfl rfl ?_
          refine z_calli (wr := []) (w2 := fun u_4 => wSh g h a s f u_4 o p t lo sl fa) 27 hC [0, 1, 2, 3, 4, 5, 6] [] [0, 1, 2, 3, 4, 5, 6] (z_runV (nA := 1) hC hN (c_X0_sweepWater l D g h a s f v o p t lo sl fa L hs hv (by omega)) [0, 1, 2, 3, 4, 5, 6] rfl (by decide) gX0_findWater_X0_sweepWater (by decide +kernel) rfl rfl rfl ⟨by decide, by decide⟩ rfl rfl (nle rfl) dX0_findWater_24 ⟨by decide, by decide⟩ 0 rfl rfl) rfl rfl (by decide) (by decide) (fun _ => rfl) (by decide) rfl (k2 := 0) (n2 := 0) rfl rfl (fun z_5 u_4 p_6 => ?_)
          refine z_istoren (lv' := [(2, .int (iI z_5)), (0, .ref h), (1, .int (iI L)), (3, .int (iI i))]) 28 hC dX0_findWater_27 rfl rfl (by decide) rfl ?_
          refine z_iinc (lv' := [(3, .int (iI (i + 1))), (2, .int (iI z_5)), (0, .ref h), (1, .int (iI L))]) 31 3 hC dX0_findWater_28 rfl rfl (by decide) rfl ?_
          refine z_goto 12 hC dX0_findWater_31 (by decide) ?_
          refine z_lv (lv' := [(0, .ref h), (1, .int (iI L)), (2, .int (iI z_5)), (3, .int (iI (i + 1)))]) [2, 3, 1, 0] rfl ?_
          exact ih12 z_5 (i + 1) u_4 (by omega) (by exact fwI_s hI (by omega) p_6) (by omega)
  refine z_lv (lv' := [(0, .ref h), (1, .int (iI L)), (2, .int (iI 1)), (3, .int (iI 0))]) [2, 3, 1, 0] rfl ?_
  exact loop12 ((121 - 0 + 1 : Int).toNat) 1 0 (fun _ => 0) (by omega) (by exact fwI_0 s L) (by omega)
set_option maxHeartbeats 4000000 in
set_option maxRecDepth 100000 in
theorem c_X0_washSandAway (l : Launch) (D : va_G) (g : Nat → ClassId) (h : Nat) (a : Nat → Nat) (s f w o p t : Int → Int) (lo sl fa : Int) (L : Int) (hs : Bd s 120 0 20) (hf : Bd f 120 0 5) (hw : Bd w 120 0 1) (hL : -1000 ≤ L ∧ L ≤ 1000) (hwt : ∀ j : Int, 0 ≤ j → j < 120 → w j ≠ 0 → hg s j < L) : ZMv (S := Unit) l yX0_washSandAway wsX0_washSandAway ({ frames := 2, cells := 0, slots := 0, locals := 60 }) D g [.ref h, .int (iI L)] (wSh g h a s f w o p t lo sl fa) (fun _ => True) (fun _ => wSh g h a (wsh s f w L 120) (wshF f w 120) w o p t (lo + wshL s f w L 120) sl fa) 0 0 := by
  have hinX0 : ∀ w ∈ u_ws RX0 TX0 9, w ∈ wsX0_washSandAway := by decide +kernel
  have L9 : Cond.fieldLink RX0 9 "SandcastleLeague$Shore" "sand" "[I" ∈ wsX0_washSandAway := by decide +kernel
  have L15 : Cond.fieldLink RX0 15 "SandcastleLeague$Shore" "firmness" "[I" ∈ wsX0_washSandAway := by decide +kernel
  have L39 : Cond.fieldLink RX0 39 "SandcastleLeague$Shore" "lostSand" "I" ∈ wsX0_washSandAway := by decide +kernel
  refine ZMv.of (ty := .int) (own := RX0) cX0_washSandAway 4 [(0, .ref h), (1, .int (iI L))] (by decide +kernel) rfl (nle rfl) rfl rfl ?_
  intro E hC hN hret
  refine z_iconst 1 hC dX0_washSandAway_0 rfl ?_
  refine z_istoren (lv' := [(2, .int (iI 0)), (0, .ref h), (1, .int (iI L))]) 2 hC dX0_washSandAway_1 rfl rfl (by decide) rfl ?_
  have loop2 : ∀ (N2 : Nat) (i : Int), 0 ≤ i ∧ i ≤ 120 → (120 - i : Int) < N2 → Z E (wSh g h a (wsh s f w L i) (wshF f w i) w o p t (lo + wshL s f w L i) sl fa) [(0, .ref h), (1, .int (iI L)), (2, .int (iI i))] 0 0 2 [] := by
    intro N2
    induction N2 with
    | zero => intro i hi hm2; exact absurd hm2 (by omega)
    | succ N2 ih2 =>
      intro i hi hm2
      have e1 := wsh_at s f w L i
      have e2 := wshF_at f w i
      have hv := wsh_bd f w L i hs
      have hu := wshF_bd w i hf
      have e3 : hg (wsh s f w L i) i = hg s i := by unfold hg; rw [e1]
      refine z_iloadn 3 hC 2 dX0_washSandAway_2 rfl rfl rfl ?_
      refine z_bipush 5 hC dX0_washSandAway_3 (by decide) rfl ?_
      refine z_icmp_ge 83 8 hC dX0_washSandAway_5 (by decide) rfl (by omega) (by omega) (fun c_1 => ?_) (fun c_1 => ?_)
      · skip
        obtain rfl : i = 120 := by omega
        refine z_weq (ws' := wSh g h a (wsh s f w L 120) (wshF f w 120) w o p t (lo + wshL s f w L 120) sl fa) (zEq.cons (zE1.obj (zfk (zfk (zfk (zfk (zfk (zfk (zfc (by omega) (zfk (zfk rfl)))))))))) (zEq.cons (zE1.arr (by first | (intro j h0 h1; rfl) | (intro j h0 h1; first | rfl | omega))) (zEq.cons (zE1.arr (by first | (intro j h0 h1; rfl) | (intro j h0 h1; first | rfl | omega))) (zEq.cons zE1.rf (zEq.cons zE1.rf (zEq.cons zE1.rf (zEq.cons zE1.rf zEq.nil))))))) ?_
        exact hret () dX0_washSandAway_83 (by trivial)
      · skip
        refine z_aloadn 9 hC 0 dX0_washSandAway_8 rfl rfl rfl ?_
        refine z_iloadn 10 hC 2 dX0_washSandAway_9 rfl rfl rfl ?_
        refine z_calli (wr := []) (w2 := fun _ => wSh g h a (wsh s f w L i) (wshF f w i) w o p t (lo + wshL s f w L i) sl fa) 13 hC [0, 1, 2, 3, 4, 5, 6] [] [0, 1, 2, 3, 4, 5, 6] (z_runV (nA := 1) hC hN (c_X0_isWet l D g h a (wsh s f w L i) (wshF f w i) w o p t (lo + wshL s f w L i) sl fa i (by omega) hw) [0, 1, 2, 3, 4, 5, 6] rfl (by decide) gX0_washSandAway_X0_isWet (by decide +kernel) rfl rfl rfl ⟨by decide, by decide⟩ rfl rfl (nle rfl) dX0_washSandAway_10 ⟨by decide, by decide⟩ 0 rfl rfl) rfl rfl (by decide) (by decide) (fun _ => rfl) (by decide) rfl (k2 := 0) (n2 := 0) rfl rfl (fun z_2 _ p_3 => ?_)
        refine z_if_eq 77 16 hC dX0_washSandAway_13 (by decide) rfl (by omega) (fun c_4 => ?_) (fun c_4 => ?_)
        · skip
          refine z_iinc (lv' := [(2, .int (iI (i + 1))), (0, .ref h), (1, .int (iI L))]) 80 2 hC dX0_washSandAway_77 rfl rfl (by decide) rfl ?_
          refine z_goto 2 hC dX0_washSandAway_80 (by decide) ?_
          refine z_lv (lv' := [(0, .ref h), (1, .int (iI L)), (2, .int (iI (i + 1)))]) [1, 2, 0] rfl ?_
          refine z_weq (ws' := wSh g h a (wsh s f w L (i + 1)) (wshF f w (i + 1)) w o p t (lo + wshL s f w L (i + 1)) sl fa) (zEq.cons (zE1.obj (zfk (zfk (zfk (zfk (zfk (zfk (zfc (by first | (have := wshL_k (s := s) (f := f) (w := w) (L := L) (i := i) (by omega) (by omega); omega) | (rw [Int.add_assoc]; exact congrArg (fun x => lo + x) (wshL_s (by omega) (by omega) (by unfold ls; omega)))) (zfk (zfk rfl)))))))))) (zEq.cons (zE1.arr (by first | (intro j h0 h1; rfl) | (intro j h0 h1; first | exact wsh_k (by omega) j | exact wsh_s (by omega) (by unfold ls; omega) j))) (zEq.cons (zE1.arr (by first | (intro j h0 h1; rfl) | (intro j h0 h1; first | exact wshF_k (by omega) j | exact wshF_s (by omega) j))) (zEq.cons zE1.rf (zEq.cons zE1.rf (zEq.cons zE1.rf (zEq.cons zE1.rf zEq.nil))))))) ?_
          exact ih2 (i + 1) (by omega) (by omega)
        · skip
          have q5 := hwt i (by omega) (by omega) (by omega)
          have q6 := hg_bd hs (c := i) (by omega)
          have q7 := hs i (by omega) (by omega)
          have q8 := hf i (by omega) (by omega)
          refine z_iconst 17 hC dX0_washSandAway_16 rfl ?_
          refine z_iloadn 18 hC 1 dX0_washSandAway_17 rfl rfl rfl ?_
          refine z_aloadn 19 hC 0 dX0_washSandAway_18 rfl rfl rfl ?_
          refine z_iloadn 20 hC 2 dX0_washSandAway_19 rfl rfl rfl ?_
          refine z_calli (wr := []) (w2 := fun _ => wSh g h a (wsh s f w L i) (wshF f w i) w o p t (lo + wshL s f w L i) sl fa) 23 hC [0, 1, 2, 3, 4, 5, 6] [] [0, 1, 2, 3, 4, 5, 6] (z_runV (nA := 1) hC hN (c_X0_height l D g h a (wsh s f w L i) (wshF f w i) w o p t (lo + wshL s f w L i) sl fa i (by omega)) [0, 1, 2, 3, 4, 5, 6] rfl (by decide) gX0_washSandAway_X0_height (by decide +kernel) rfl rfl rfl ⟨by decide, by decide⟩ rfl rfl (nle rfl) dX0_washSandAway_20 ⟨by decide, by decide⟩ 0 rfl rfl) rfl rfl (by decide) (by decide) (fun _ => rfl) (by decide) rfl (k2 := 0) (n2 := 0) rfl rfl (fun z_6 _ p_7 => ?_)
          subst p_7
          have y_5 := hg_bd hv (c := i) (by omega)
          refine z_isub 24 hC dX0_washSandAway_23 rfl ?_
          refine z_iconst 25 hC dX0_washSandAway_24 rfl ?_
          refine z_idiv 26 hC dX0_washSandAway_25 rfl (by omega) (by omega) ?_
          refine z_iadd 27 hC dX0_washSandAway_26 rfl ?_
          refine z_aloadn 28 hC 0 dX0_washSandAway_27 rfl rfl rfl ?_
          refine z_get 31 0 1 hC hinX0 L15 dX0_washSandAway_28 rfl rfl rfl (by decide) rfl ?_
          refine z_iloadn 32 hC 2 dX0_washSandAway_31 rfl rfl rfl ?_
          refine z_iald 33 2 hC dX0_washSandAway_32 rfl rfl (by decide) (by omega) ?_
          have b_8 := hu i (by omega) (by omega)
          refine z_iconst 34 hC dX0_washSandAway_33 rfl ?_
          refine z_idiv 35 hC dX0_washSandAway_34 rfl (by omega) (by omega) ?_
          refine z_isub 36 hC dX0_washSandAway_35 rfl ?_
          refine z_istoren (lv' := [(3, .int (iI ((1 + ((L - (hg (wsh s f w L i) i)) / 3)) - (((wshF f w i) i) / 2)))), (0, .ref h), (1, .int (iI L)), (2, .int (iI i))]) 37 hC dX0_washSandAway_36 rfl rfl (by decide) rfl ?_
          refine z_iloadn 38 hC 0 dX0_washSandAway_37 rfl rfl rfl ?_
          refine z_iconst 39 hC dX0_washSandAway_38 rfl ?_
          refine z_mmax 42 hC (by decide +kernel) (by decide +kernel) (by decide +kernel) (by decide +kernel) (by decide) (nle rfl) (by decide) (by decide) (by omega) (by omega) dX0_washSandAway_39 rfl ?_
          refine z_aloadn 43 hC 1 dX0_washSandAway_42 rfl rfl rfl ?_
          refine z_get 46 0 0 hC hinX0 L9 dX0_washSandAway_43 rfl rfl rfl (by decide) rfl ?_
          refine z_iloadn 47 hC 3 dX0_washSandAway_46 rfl rfl rfl ?_
          refine z_iald 48 1 hC dX0_washSandAway_47 rfl rfl (by decide) (by omega) ?_
          have b_9 := hv i (by omega) (by omega)
          refine z_mmin 51 hC (by decide +kernel) (by decide +kernel) (by decide +kernel) (by decide +kernel) (by decide) (nle rfl) (by decide) (by decide) (by omega) (by omega) dX0_washSandAway_48 rfl ?_
          refine z_istoren (lv' := [(3, .int (iI (min (max ((1 + ((L - (hg (wsh s f w L i) i)) / 3)) - (((wshF f w i) i) / 2)) 0) ((wsh s f w L i) i)))), (0, .ref h), (1, .int (iI L)), (2, .int (iI i))]) 52 hC dX0_washSandAway_51 rfl rfl (by decide) rfl ?_
          refine z_aloadn 53 hC 1 dX0_washSandAway_52 rfl rfl rfl ?_
          refine z_get 56 0 0 hC hinX0 L9 dX0_washSandAway_53 rfl rfl rfl (by decide) rfl ?_
          refine z_iloadn 57 hC 3 dX0_washSandAway_56 rfl rfl rfl ?_
          refine z_dup2 58 hC dX0_washSandAway_57 rfl rfl rfl ?_
          refine z_iald 59 1 hC dX0_washSandAway_58 rfl rfl (by decide) (by omega) ?_
          have b_10 := hv i (by omega) (by omega)
          refine z_iloadn 60 hC 0 dX0_washSandAway_59 rfl rfl rfl ?_
          refine z_isub 61 hC dX0_washSandAway_60 rfl ?_
          refine z_iast (ws' := wSh g h a (up (wsh s f w L i) i (((wsh s f w L i) i) - (min (max ((1 + ((L - (hg (wsh s f w L i) i)) / 3)) - (((wshF f w i) i) / 2)) 0) ((wsh s f w L i) i)))) (wshF f w i) w o p t (lo + wshL s f w L i) sl fa) 62 1 hC dX0_washSandAway_61 rfl rfl (by decide) (by omega) rfl ?_
          refine z_aloadn 63 hC 1 dX0_washSandAway_62 rfl rfl rfl ?_
          refine z_dup 64 hC dX0_washSandAway_63 rfl rfl ?_
          refine z_get 67 0 6 hC hinX0 L39 dX0_washSandAway_64 rfl rfl rfl (by decide) rfl ?_
          refine z_iloadn 68 hC 0 dX0_washSandAway_67 rfl rfl rfl ?_
          refine z_iadd 69 hC dX0_washSandAway_68 rfl ?_
          refine z_put (ty := .int) (ws' := wSh g h a (up (wsh s f w L i) i (((wsh s f w L i) i) - (min (max ((1 + ((L - (hg (wsh s f w L i) i)) / 3)) - (((wshF f w i) i) / 2)) 0) ((wsh s f w L i) i)))) (wshF f w i) w o p t ((lo + wshL s f w L i) + (min (max ((1 + ((L - (hg (wsh s f w L i) i)) / 3)) - (((wshF f w i) i) / 2)) 0) ((wsh s f w L i) i))) sl fa) 72 0 6 hC tyX0 tyX0_ok nmX0 hinX0 L39 dX0_washSandAway_69 rfl rfl rfl (by decide) rfl (by decide +kernel) rfl rfl (nle rfl) rfl ?_
          refine z_aloadn 73 hC 1 dX0_washSandAway_72 rfl rfl rfl ?_
          refine z_iloadn 74 hC 3 dX0_washSandAway_73 rfl rfl rfl ?_
          refine z_callv (wr := []) (w2 := fun _ => wSh g h a (up (wsh s f w L i) i (((wsh s f w L i) i) - (min (max ((1 + ((L - (hg (wsh s f w L i) i)) / 3)) - (((wshF f w i) i) / 2)) 0) ((wsh s f w L i) i)))) (up (wshF f w i) i (if 0 < (wshF f w i) i then (wshF f w i) i - 1 else (wshF f w i) i)) w o p t ((lo + wshL s f w L i) + (min (max ((1 + ((L - (hg (wsh s f w L i) i)) / 3)) - (((wshF f w i) i) / 2)) 0) ((wsh s f w L i) i))) sl fa) 77 hC [0, 1, 2, 3, 4, 5, 6] [] [0, 1, 2, 3, 4, 5, 6] (z_runV (nA := 1) hC hN (c_X0_soften l D g h a (up (wsh s f w L i) i (((wsh s f w L i) i) - (min (max ((1 + ((L - (hg (wsh s f w L i) i)) / 3)) - (((wshF f w i) i) / 2)) 0) ((wsh s f w L i) i)))) (wshF f w i) w o p t ((lo + wshL s f w L i) + (min (max ((1 + ((L - (hg (wsh s f w L i) i)) / 3)) - (((wshF f w i) i) / 2)) 0) ((wsh s f w L i) i))) sl fa i (by omega) hu) [0, 1, 2, 3, 4, 5, 6] rfl (by decide) gX0_washSandAway_X0_soften (by decide +kernel) rfl rfl rfl ⟨by decide, by decide⟩ rfl rfl (nle rfl) dX0_washSandAway_74 ⟨by decide, by decide⟩ 0 rfl rfl) rfl rfl (by decide) (by decide) (fun _ => rfl) (by decide) rfl (k2 := 0) (n2 := 0) rfl rfl (fun _ p_11 => ?_)
          refine z_iinc (lv' := [(2, .int (iI (i + 1))), (3, .int (iI (min (max ((1 + ((L - (hg (wsh s f w L i) i)) / 3)) - (((wshF f w i) i) / 2)) 0) ((wsh s f w L i) i)))), (0, .ref h), (1, .int (iI L))]) 80 3 hC dX0_washSandAway_77 rfl rfl (by decide) rfl ?_
          refine z_goto 2 hC dX0_washSandAway_80 (by decide) ?_
          refine z_lv (lv' := [(0, .ref h), (1, .int (iI L)), (2, .int (iI (i + 1)))]) [2, 3, 0] rfl ?_
          refine z_weq (ws' := wSh g h a (wsh s f w L (i + 1)) (wshF f w (i + 1)) w o p t (lo + wshL s f w L (i + 1)) sl fa) (zEq.cons (zE1.obj (zfk (zfk (zfk (zfk (zfk (zfk (zfc (by first | (have := wshL_k (s := s) (f := f) (w := w) (L := L) (i := i) (by omega) (by omega); omega) | (rw [Int.add_assoc]; exact congrArg (fun x => lo + x) (wshL_s (by omega) (by omega) (by unfold ls; omega)))) (zfk (zfk rfl)))))))))) (zEq.cons (zE1.arr (by first | (intro j h0 h1; rfl) | (intro j h0 h1; first | exact wsh_k (by omega) j | exact wsh_s (by omega) (by unfold ls; omega) j))) (zEq.cons (zE1.arr (by first | (intro j h0 h1; rfl) | (intro j h0 h1; first | exact wshF_k (by omega) j | exact wshF_s (by omega) j))) (zEq.cons zE1.rf (zEq.cons zE1.rf (zEq.cons zE1.rf (zEq.cons zE1.rf zEq.nil))))))) ?_
          exact ih2 (i + 1) (by omega) (by omega)
  refine z_lv (lv' := [(0, .ref h), (1, .int (iI L)), (2, .int (iI 0))]) [1, 2, 0] rfl ?_
  refine z_weq (ws' := wSh g h a (wsh s f w L 0) (wshF f w 0) w o p t (lo + wshL s f w L 0) sl fa) (zEq.cons (zE1.obj (zfk (zfk (zfk (zfk (zfk (zfk (zfc (by show lo = lo + 0; omega) (zfk (zfk rfl)))))))))) (zEq.cons (zE1.arr (by first | (intro j h0 h1; rfl) | (intro j h0 h1; exact (if_neg (by omega)).symm))) (zEq.cons (zE1.arr (by first | (intro j h0 h1; rfl) | (intro j h0 h1; exact (if_neg (by omega)).symm))) (zEq.cons zE1.rf (zEq.cons zE1.rf (zEq.cons zE1.rf (zEq.cons zE1.rf zEq.nil))))))) ?_
  exact loop2 ((120 - 0 + 1 : Int).toNat) 0 (by omega) (by omega)
set_option maxHeartbeats 4000000 in
set_option maxRecDepth 100000 in
theorem c_X0_slidesTo (l : Launch) (D : va_G) (g : Nat → ClassId) (h : Nat) (a : Nat → Nat) (s f w o p t : Int → Int) (lo sl fa : Int) (c : Int) (e : Int) (hc : 0 ≤ c ∧ c < 120) (he : 0 ≤ e ∧ e < 120) (hs : Bd s 120 0 20) (hf : Bd f 120 0 5) : ZMi (S := Unit) l yX0_slidesTo wsX0_slidesTo ({ frames := 1, cells := 0, slots := 0, locals := 60 }) D g [.ref h, .int (iI c), .int (iI e)] (wSh g h a s f w o p t lo sl fa) (fun z _ => (z = 0 ∨ z = 1) ∧ (z = 1 ↔ 0 < s c ∧ hg s e + 4 + f c < hg s c ∧ s e < 20)) (fun _ => wSh g h a s f w o p t lo sl fa) 0 0 := by
  have hinX0 : ∀ w ∈ u_ws RX0 TX0 9, w ∈ wsX0_slidesTo := by decide +kernel
  have L9 : Cond.fieldLink RX0 9 "SandcastleLeague$Shore" "sand" "[I" ∈ wsX0_slidesTo := by decide +kernel
  have L15 : Cond.fieldLink RX0 15 "SandcastleLeague$Shore" "firmness" "[I" ∈ wsX0_slidesTo := by decide +kernel
  refine ZMi.of (own := RX0) cX0_slidesTo 3 [(0, .ref h), (1, .int (iI c)), (2, .int (iI e))] (by decide +kernel) rfl (nle rfl) rfl rfl ?_
  intro E hC hN hret
  refine z_aloadn 1 hC 0 dX0_slidesTo_0 rfl rfl rfl ?_
  refine z_get 4 0 0 hC hinX0 L9 dX0_slidesTo_1 rfl rfl rfl (by decide) rfl ?_
  refine z_iloadn 5 hC 1 dX0_slidesTo_4 rfl rfl rfl ?_
  refine z_iald 6 1 hC dX0_slidesTo_5 rfl rfl (by decide) (by omega) ?_
  have b_1 := hs c (by omega) (by omega)
  refine z_if_le 46 9 hC dX0_slidesTo_6 (by decide) rfl (by omega) (fun c_2 => ?_) (fun c_2 => ?_)
  · skip
    refine z_iconst 47 hC dX0_slidesTo_46 rfl ?_
    exact hret () dX0_slidesTo_47 (by decide) (by omega)
  · skip
    refine z_aloadn 10 hC 0 dX0_slidesTo_9 rfl rfl rfl ?_
    refine z_iloadn 11 hC 1 dX0_slidesTo_10 rfl rfl rfl ?_
    refine z_calli (wr := []) (w2 := fun _ => wSh g h a s f w o p t lo sl fa) 14 hC [0, 1, 2, 3, 4, 5, 6] [] [0, 1, 2, 3, 4, 5, 6] (z_runV (nA := 1) hC hN (c_X0_height l D g h a s f w o p t lo sl fa c (by omega)) [0, 1, 2, 3, 4, 5, 6] rfl (by decide) gX0_slidesTo_X0_height (by decide +kernel) rfl rfl rfl ⟨by decide, by decide⟩ rfl rfl (nle rfl) dX0_slidesTo_11 ⟨by decide, by decide⟩ 0 rfl rfl) rfl rfl (by decide) (by decide) (fun _ => rfl) (by decide) rfl (k2 := 0) (n2 := 0) rfl rfl (fun z_4 _ p_5 => ?_)
    subst p_5
    have y_3 := hg_bd hs (c := c) (by omega)
    refine z_aloadn 15 hC 0 dX0_slidesTo_14 rfl rfl rfl ?_
    refine z_iloadn 16 hC 2 dX0_slidesTo_15 rfl rfl rfl ?_
    refine z_calli (wr := []) (w2 := fun _ => wSh g h a s f w o p t lo sl fa) 19 hC [0, 1, 2, 3, 4, 5, 6] [] [0, 1, 2, 3, 4, 5, 6] (z_runV (nA := 1) hC hN (c_X0_height l D g h a s f w o p t lo sl fa e (by omega)) [0, 1, 2, 3, 4, 5, 6] rfl (by decide) gX0_slidesTo_X0_height (by decide +kernel) rfl rfl rfl ⟨by decide, by decide⟩ rfl rfl (nle rfl) dX0_slidesTo_16 ⟨by decide, by decide⟩ 0 rfl rfl) rfl rfl (by decide) (by decide) (fun _ => rfl) (by decide) rfl (k2 := 0) (n2 := 0) rfl rfl (fun z_7 _ p_8 => ?_)
    subst p_8
    have y_6 := hg_bd hs (c := e) (by omega)
    refine z_iconst 20 hC dX0_slidesTo_19 rfl ?_
    refine z_iadd 21 hC dX0_slidesTo_20 rfl ?_
    refine z_aloadn 22 hC 0 dX0_slidesTo_21 rfl rfl rfl ?_
    refine z_get 25 0 1 hC hinX0 L15 dX0_slidesTo_22 rfl rfl rfl (by decide) rfl ?_
    refine z_iloadn 26 hC 1 dX0_slidesTo_25 rfl rfl rfl ?_
    refine z_iald 27 2 hC dX0_slidesTo_26 rfl rfl (by decide) (by omega) ?_
    have b_9 := hf c (by omega) (by omega)
    refine z_iadd 28 hC dX0_slidesTo_27 rfl ?_
    refine z_icmp_le 46 31 hC dX0_slidesTo_28 (by decide) rfl (by omega) (by omega) (fun c_10 => ?_) (fun c_10 => ?_)
    · skip
      refine z_iconst 47 hC dX0_slidesTo_46 rfl ?_
      exact hret () dX0_slidesTo_47 (by decide) (by omega)
    · skip
      refine z_aloadn 32 hC 0 dX0_slidesTo_31 rfl rfl rfl ?_
      refine z_get 35 0 0 hC hinX0 L9 dX0_slidesTo_32 rfl rfl rfl (by decide) rfl ?_
      refine z_iloadn 36 hC 2 dX0_slidesTo_35 rfl rfl rfl ?_
      refine z_iald 37 1 hC dX0_slidesTo_36 rfl rfl (by decide) (by omega) ?_
      have b_11 := hs e (by omega) (by omega)
      refine z_bipush 39 hC dX0_slidesTo_37 (by decide) rfl ?_
      refine z_icmp_ge 46 42 hC dX0_slidesTo_39 (by decide) rfl (by omega) (by omega) (fun c_12 => ?_) (fun c_12 => ?_)
      · skip
        refine z_iconst 47 hC dX0_slidesTo_46 rfl ?_
        exact hret () dX0_slidesTo_47 (by decide) (by omega)
      · skip
        refine z_iconst 43 hC dX0_slidesTo_42 rfl ?_
        refine z_goto 47 hC dX0_slidesTo_43 (by decide) ?_
        exact hret () dX0_slidesTo_47 (by decide) (by omega)
set_option maxHeartbeats 4000000 in
set_option maxRecDepth 100000 in
theorem c_X0_slideOnce (l : Launch) (D : va_G) (g : Nat → ClassId) (h : Nat) (a : Nat → Nat) (s f w o p t : Int → Int) (lo sl fa : Int)  (hs : Bd s 120 0 20) (hf : Bd f 120 0 5) : ZMi (S := Unit) l yX0_slideOnce wsX0_slideOnce ({ frames := 2, cells := 0, slots := 0, locals := 110 }) D g [.ref h] (wSh g h a s f w o p t lo sl fa) (fun z _ => z = (rnd f s 120).2) (fun _ => wSh g h a ((rnd f s 120).1) f w o p t lo sl fa) 0 0 := by
  have hinX0 : ∀ w ∈ u_ws RX0 TX0 9, w ∈ wsX0_slideOnce := by decide +kernel
  have L9 : Cond.fieldLink RX0 9 "SandcastleLeague$Shore" "sand" "[I" ∈ wsX0_slideOnce := by decide +kernel
  refine ZMi.of (own := RX0) cX0_slideOnce 4 [(0, .ref h)] (by decide +kernel) rfl (nle rfl) rfl rfl ?_
  intro E hC hN hret
  refine z_iconst 1 hC dX0_slideOnce_0 rfl ?_
  refine z_istoren (lv' := [(1, .int (iI 0)), (0, .ref h)]) 2 hC dX0_slideOnce_1 rfl rfl (by decide) rfl ?_
  refine z_iconst 3 hC dX0_slideOnce_2 rfl ?_
  refine z_istoren (lv' := [(2, .int (iI 0)), (1, .int (iI 0)), (0, .ref h)]) 4 hC dX0_slideOnce_3 rfl rfl (by decide) rfl ?_
  have loop4 : ∀ (N4 : Nat) (i : Int), 0 ≤ i ∧ i ≤ 120 → (120 - i : Int) < N4 → Z E (wSh g h a ((rnd f s i).1) f w o p t lo sl fa) [(0, .ref h), (1, .int (iI ((rnd f s i).2))), (2, .int (iI i))] 0 0 4 [] := by
    intro N4
    induction N4 with
    | zero => intro i hi hm4; exact absurd hm4 (by omega)
    | succ N4 ih4 =>
      intro i hi hm4
      have hv := rnd_bd (f := f) hs hi.1 hi.2
      refine z_iloadn 5 hC 2 dX0_slideOnce_4 rfl rfl rfl ?_
      refine z_bipush 7 hC dX0_slideOnce_5 (by decide) rfl ?_
      refine z_icmp_ge 59 10 hC dX0_slideOnce_7 (by decide) rfl (by omega) (by omega) (fun c_1 => ?_) (fun c_1 => ?_)
      · skip
        obtain rfl : i = 120 := by omega
        refine z_iloadn 60 hC 1 dX0_slideOnce_59 rfl rfl rfl ?_
        refine z_weq (ws' := wSh g h a ((rnd f s 120).1) f w o p t lo sl fa) (zEq.cons zE1.rf (zEq.cons (zE1.arr (by first | (intro j h0 h1; rfl) | (intro j h0 h1; first | rfl | omega))) (zEq.cons zE1.rf (zEq.cons zE1.rf (zEq.cons zE1.rf (zEq.cons zE1.rf (zEq.cons zE1.rf zEq.nil))))))) ?_
        exact hret () dX0_slideOnce_60 rfl (by rfl)
      · skip
        refine z_aloadn 11 hC 0 dX0_slideOnce_10 rfl rfl rfl ?_
        refine z_iloadn 12 hC 2 dX0_slideOnce_11 rfl rfl rfl ?_
        refine z_calli (wr := []) (w2 := fun _ => wSh g h a ((rnd f s i).1) f w o p t lo sl fa) 15 hC [0, 1, 2, 3, 4, 5, 6] [] [0, 1, 2, 3, 4, 5, 6] (z_runV (nA := 1) hC hN (c_X0_lowestBeside l D g h a ((rnd f s i).1) f w o p t lo sl fa i (by omega) hv) [0, 1, 2, 3, 4, 5, 6] rfl (by decide) gX0_slideOnce_X0_lowestBeside (by decide +kernel) rfl rfl rfl ⟨by decide, by decide⟩ rfl rfl (nle rfl) dX0_slideOnce_12 ⟨by decide, by decide⟩ 0 rfl rfl) rfl rfl (by decide) (by decide) (fun _ => rfl) (by decide) rfl (k2 := 0) (n2 := 0) rfl rfl (fun z_2 _ p_3 => ?_)
        subst p_3
        have qlow := low_rg ((rnd f s i).1) (c := i) (by omega)
        have qlne := low_ne ((rnd f s i).1) (c := i) (by omega)
        refine z_istoren (lv' := [(3, .int (iI (low ((rnd f s i).1) i))), (0, .ref h), (1, .int (iI ((rnd f s i).2))), (2, .int (iI i))]) 16 hC dX0_slideOnce_15 rfl rfl (by decide) rfl ?_
        refine z_iloadn 17 hC 0 dX0_slideOnce_16 rfl rfl rfl ?_
        refine z_iconst 18 hC dX0_slideOnce_17 rfl ?_
        refine z_icmp_eq 53 21 hC dX0_slideOnce_18 (by decide) rfl (by omega) (by omega) (fun c_4 => ?_) (fun c_4 => ?_)
        · exfalso; omega
        · skip
          refine z_aloadn 22 hC 1 dX0_slideOnce_21 rfl rfl rfl ?_
          refine z_iloadn 23 hC 3 dX0_slideOnce_22 rfl rfl rfl ?_
          refine z_iloadn 24 hC 0 dX0_slideOnce_23 rfl rfl rfl ?_
          refine z_calli (wr := []) (w2 := fun _ => wSh g h a ((rnd f s i).1) f w o p t lo sl fa) 27 hC [0, 1, 2, 3, 4, 5, 6] [] [0, 1, 2, 3, 4, 5, 6] (z_runV (nA := 2) hC hN (c_X0_slidesTo l D g h a ((rnd f s i).1) f w o p t lo sl fa i (low ((rnd f s i).1) i) (by omega) (by omega) hv hf) [0, 1, 2, 3, 4, 5, 6] rfl (by decide) gX0_slideOnce_X0_slidesTo (by decide +kernel) rfl rfl rfl ⟨by decide, by decide⟩ rfl rfl (nle rfl) dX0_slideOnce_24 ⟨by decide, by decide⟩ 0 rfl rfl) rfl rfl (by decide) (by decide) (fun _ => rfl) (by decide) rfl (k2 := 0) (n2 := 0) rfl rfl (fun z_5 _ p_6 => ?_)
          refine z_if_eq 53 30 hC dX0_slideOnce_27 (by decide) rfl (by omega) (fun c_7 => ?_) (fun c_7 => ?_)
          · skip
            refine z_iinc (lv' := [(2, .int (iI (i + 1))), (3, .int (iI (low ((rnd f s i).1) i))), (0, .ref h), (1, .int (iI ((rnd f s i).2)))]) 56 3 hC dX0_slideOnce_53 rfl rfl (by decide) rfl ?_
            refine z_goto 4 hC dX0_slideOnce_56 (by decide) ?_
            refine z_lv (lv' := [(0, .ref h), (1, .int (iI ((rnd f s i).2))), (2, .int (iI (i + 1)))]) [2, 3, 0] rfl ?_
            refine z_lveq (lv' := [(0, .ref h), (1, .int (iI ((rnd f s (i + 1)).2))), (2, .int (iI (i + 1)))]) (zfk (zlc (by first | rw [rnd_y (by omega) (by omega)] | rw [rnd_n (by omega) (by omega)]) (zfk rfl))) ?_
            refine z_weq (ws' := wSh g h a ((rnd f s (i + 1)).1) f w o p t lo sl fa) (zEq.cons zE1.rf (zEq.cons (zE1.arr (by first | (intro j h0 h1; rfl) | (intro j h0 h1; first | rw [rnd_y (by omega) (by omega)] | rw [rnd_n (by omega) (by omega)]))) (zEq.cons zE1.rf (zEq.cons zE1.rf (zEq.cons zE1.rf (zEq.cons zE1.rf (zEq.cons zE1.rf zEq.nil))))))) ?_
            exact ih4 (i + 1) (by omega) (by omega)
          · skip
            refine z_aloadn 31 hC 1 dX0_slideOnce_30 rfl rfl rfl ?_
            refine z_get 34 0 0 hC hinX0 L9 dX0_slideOnce_31 rfl rfl rfl (by decide) rfl ?_
            refine z_iloadn 35 hC 3 dX0_slideOnce_34 rfl rfl rfl ?_
            refine z_dup2 36 hC dX0_slideOnce_35 rfl rfl rfl ?_
            refine z_iald 37 1 hC dX0_slideOnce_36 rfl rfl (by decide) (by omega) ?_
            have b_8 := hv i (by omega) (by omega)
            refine z_iconst 38 hC dX0_slideOnce_37 rfl ?_
            refine z_isub 39 hC dX0_slideOnce_38 rfl ?_
            refine z_iast (ws' := wSh g h a (up ((rnd f s i).1) i ((((rnd f s i).1) i) - 1)) f w o p t lo sl fa) 40 1 hC dX0_slideOnce_39 rfl rfl (by decide) (by omega) rfl ?_
            refine z_aloadn 41 hC 1 dX0_slideOnce_40 rfl rfl rfl ?_
            refine z_get 44 0 0 hC hinX0 L9 dX0_slideOnce_41 rfl rfl rfl (by decide) rfl ?_
            refine z_iloadn 45 hC 0 dX0_slideOnce_44 rfl rfl rfl ?_
            refine z_dup2 46 hC dX0_slideOnce_45 rfl rfl rfl ?_
            refine z_iald 47 1 hC dX0_slideOnce_46 rfl rfl (by decide) (by omega) ?_
            refine z_iconst 48 hC dX0_slideOnce_47 rfl ?_
            refine z_iadd 49 hC dX0_slideOnce_48 rfl ?_
            refine z_iast (ws' := wSh g h a (up (up ((rnd f s i).1) i ((((rnd f s i).1) i) - 1)) (low ((rnd f s i).1) i) (((up ((rnd f s i).1) i ((((rnd f s i).1) i) - 1)) (low ((rnd f s i).1) i)) + 1)) f w o p t lo sl fa) 50 1 hC dX0_slideOnce_49 rfl rfl (by decide) (by omega) rfl ?_
            refine z_iinc (lv' := [(1, .int (iI (((rnd f s i).2) + 1))), (3, .int (iI (low ((rnd f s i).1) i))), (0, .ref h), (2, .int (iI i))]) 53 2 hC dX0_slideOnce_50 rfl rfl (by decide) rfl ?_
            refine z_iinc (lv' := [(2, .int (iI (i + 1))), (1, .int (iI (((rnd f s i).2) + 1))), (3, .int (iI (low ((rnd f s i).1) i))), (0, .ref h)]) 56 3 hC dX0_slideOnce_53 rfl rfl (by decide) rfl ?_
            refine z_goto 4 hC dX0_slideOnce_56 (by decide) ?_
            refine z_lv (lv' := [(0, .ref h), (1, .int (iI (((rnd f s i).2) + 1))), (2, .int (iI (i + 1)))]) [3, 1, 0] rfl ?_
            refine z_lveq (lv' := [(0, .ref h), (1, .int (iI ((rnd f s (i + 1)).2))), (2, .int (iI (i + 1)))]) (zfk (zlc (by first | rw [rnd_y (by omega) (by omega)] | rw [rnd_n (by omega) (by omega)]) (zfk rfl))) ?_
            refine z_weq (ws' := wSh g h a ((rnd f s (i + 1)).1) f w o p t lo sl fa) (zEq.cons zE1.rf (zEq.cons (zE1.arr (by first | (intro j h0 h1; rfl) | (intro j h0 h1; first | rw [rnd_y (by omega) (by omega)] | rw [rnd_n (by omega) (by omega)]))) (zEq.cons zE1.rf (zEq.cons zE1.rf (zEq.cons zE1.rf (zEq.cons zE1.rf (zEq.cons zE1.rf zEq.nil))))))) ?_
            exact ih4 (i + 1) (by omega) (by omega)
  refine z_lv (lv' := [(0, .ref h), (1, .int (iI 0)), (2, .int (iI 0))]) [2, 1, 0] rfl ?_
  refine z_lveq (lv' := [(0, .ref h), (1, .int (iI ((rnd f s 0).2))), (2, .int (iI 0))]) (zfk (zlc (by rfl) (zfk rfl))) ?_
  refine z_weq (ws' := wSh g h a ((rnd f s 0).1) f w o p t lo sl fa) (zEq.cons zE1.rf (zEq.cons (zE1.arr (by first | (intro j h0 h1; rfl) | (intro j h0 h1; rfl))) (zEq.cons zE1.rf (zEq.cons zE1.rf (zEq.cons zE1.rf (zEq.cons zE1.rf (zEq.cons zE1.rf zEq.nil))))))) ?_
  exact loop4 ((120 - 0 + 1 : Int).toNat) 0 (by omega) (by omega)
set_option maxHeartbeats 4000000 in
set_option maxRecDepth 100000 in
theorem c_X0_letSandSlide (l : Launch) (D : va_G) (g : Nat → ClassId) (h : Nat) (a : Nat → Nat) (s f w o p t : Int → Int) (lo sl fa : Int)  (hs : Bd s 120 0 20) (hf : Bd f 120 0 5) : ZMi (S := Unit) l yX0_letSandSlide wsX0_letSandSlide ({ frames := 3, cells := 0, slots := 0, locals := 160 }) D g [.ref h] (wSh g h a s f w o p t lo sl fa) (fun z _ => z = (slA f 40 s).2) (fun _ => wSh g h a ((slA f 40 s).1) f w o p t lo sl fa) 0 0 := by
  refine ZMi.of (own := RX0) cX0_letSandSlide 4 [(0, .ref h)] (by decide +kernel) rfl (nle rfl) rfl rfl ?_
  intro E hC hN hret
  refine z_iconst 1 hC dX0_letSandSlide_0 rfl ?_
  refine z_istoren (lv' := [(1, .int (iI 0)), (0, .ref h)]) 2 hC dX0_letSandSlide_1 rfl rfl (by decide) rfl ?_
  refine z_iconst 3 hC dX0_letSandSlide_2 rfl ?_
  refine z_istoren (lv' := [(2, .int (iI 1)), (1, .int (iI 0)), (0, .ref h)]) 4 hC dX0_letSandSlide_3 rfl rfl (by decide) rfl ?_
  refine z_iconst 5 hC dX0_letSandSlide_4 rfl ?_
  refine z_istoren (lv' := [(3, .int (iI 0)), (2, .int (iI 1)), (1, .int (iI 0)), (0, .ref h)]) 6 hC dX0_letSandSlide_5 rfl rfl (by decide) rfl ?_
  have loop6 : ∀ (N6 : Nat) (y : Int) (z : Int) (i : Int) (v : Int → Int), 0 ≤ i ∧ i ≤ 40 → slI f s i z y v → z ≤ 120 → (40 - i : Int) < N6 → Z E (wSh g h a v f w o p t lo sl fa) [(0, .ref h), (1, .int (iI y)), (2, .int (iI z)), (3, .int (iI i))] 0 0 6 [] := by
    intro N6
    induction N6 with
    | zero => intro y z i v hi hI hz hm6; exact absurd hm6 (by omega)
    | succ N6 ih6 =>
      intro y z i v hi hI hz hm6
      have hz0 := hI.1
      have hv := hI.2.1
      refine z_iloadn 7 hC 2 dX0_letSandSlide_6 rfl rfl rfl ?_
      refine z_if_le 31 10 hC dX0_letSandSlide_7 (by decide) rfl (by omega) (fun c_1 => ?_) (fun c_1 => ?_)
      · skip
        have hd := slI_done hI (by omega) (by omega)
        refine z_iloadn 32 hC 1 dX0_letSandSlide_31 rfl rfl rfl ?_
        refine z_weq (ws' := wSh g h a ((slA f 40 s).1) f w o p t lo sl fa) (zEq.cons zE1.rf (zEq.cons (zE1.arr (by first | (intro j h0 h1; rfl) | (intro j h0 h1; rw [hd]))) (zEq.cons zE1.rf (zEq.cons zE1.rf (zEq.cons zE1.rf (zEq.cons zE1.rf (zEq.cons zE1.rf zEq.nil))))))) ?_
        exact hret () dX0_letSandSlide_32 rfl (by rw [hd])
      · skip
        refine z_iloadn 11 hC 3 dX0_letSandSlide_10 rfl rfl rfl ?_
        refine z_bipush 13 hC dX0_letSandSlide_11 (by decide) rfl ?_
        refine z_icmp_ge 31 16 hC dX0_letSandSlide_13 (by decide) rfl (by omega) (by omega) (fun c_2 => ?_) (fun c_2 => ?_)
        · skip
          have hd := slI_done hI (by omega) (by omega)
          refine z_iloadn 32 hC 1 dX0_letSandSlide_31 rfl rfl rfl ?_
          refine z_weq (ws' := wSh g h a ((slA f 40 s).1) f w o p t lo sl fa) (zEq.cons zE1.rf (zEq.cons (zE1.arr (by first | (intro j h0 h1; rfl) | (intro j h0 h1; rw [hd]))) (zEq.cons zE1.rf (zEq.cons zE1.rf (zEq.cons zE1.rf (zEq.cons zE1.rf (zEq.cons zE1.rf zEq.nil))))))) ?_
          exact hret () dX0_letSandSlide_32 rfl (by rw [hd])
        · skip
          refine z_aloadn 17 hC 0 dX0_letSandSlide_16 rfl rfl rfl ?_
          refine z_calli (wr := []) (w2 := fun _ => wSh g h a ((rnd f v 120).1) f w o p t lo sl fa) 20 hC [0, 1, 2, 3, 4, 5, 6] [] [0, 1, 2, 3, 4, 5, 6] (z_runV (nA := 0) hC hN (c_X0_slideOnce l D g h a v f w o p t lo sl fa  hv hf) [0, 1, 2, 3, 4, 5, 6] rfl (by decide) gX0_letSandSlide_X0_slideOnce (by decide +kernel) rfl rfl rfl ⟨by decide, by decide⟩ rfl rfl (nle rfl) dX0_letSandSlide_17 ⟨by decide, by decide⟩ 0 rfl rfl) rfl rfl (by decide) (by decide) (fun _ => rfl) (by decide) rfl (k2 := 0) (n2 := 0) rfl rfl (fun z_3 _ p_4 => ?_)
          subst p_4
          refine z_istoren (lv' := [(2, .int (iI ((rnd f v 120).2))), (0, .ref h), (1, .int (iI y)), (3, .int (iI i))]) 21 hC dX0_letSandSlide_20 rfl rfl (by decide) rfl ?_
          refine z_iloadn 22 hC 2 dX0_letSandSlide_21 rfl rfl rfl ?_
          refine z_iloadn 23 hC 0 dX0_letSandSlide_22 rfl rfl rfl ?_
          refine z_iadd 24 hC dX0_letSandSlide_23 rfl ?_
          refine z_istoren (lv' := [(1, .int (iI (y + ((rnd f v 120).2)))), (2, .int (iI ((rnd f v 120).2))), (0, .ref h), (3, .int (iI i))]) 25 hC dX0_letSandSlide_24 rfl rfl (by decide) rfl ?_
          refine z_iinc (lv' := [(3, .int (iI (i + 1))), (1, .int (iI (y + ((rnd f v 120).2)))), (2, .int (iI ((rnd f v 120).2))), (0, .ref h)]) 28 3 hC dX0_letSandSlide_25 rfl rfl (by decide) rfl ?_
          refine z_goto 6 hC dX0_letSandSlide_28 (by decide) ?_
          refine z_lv (lv' := [(0, .ref h), (1, .int (iI (y + ((rnd f v 120).2)))), (2, .int (iI ((rnd f v 120).2))), (3, .int (iI (i + 1)))]) [3, 1, 2, 0] rfl ?_
          exact ih6 (y + ((rnd f v 120).2)) ((rnd f v 120).2) (i + 1) ((rnd f v 120).1) (by omega) (by exact slI_s hI (by omega) (by omega)) (by first | omega | (have := rnd_ct f v (i := 120) (by omega); omega)) (by omega)
  refine z_lv (lv' := [(0, .ref h), (1, .int (iI 0)), (2, .int (iI 1)), (3, .int (iI 0))]) [3, 2, 1, 0] rfl ?_
  exact loop6 ((40 - 0 + 1 : Int).toNat) 0 1 0 s (by omega) (by exact slI_0 hs) (by first | omega | (have := rnd_ct f v (i := 120) (by omega); omega)) (by omega)
set_option maxHeartbeats 4000000 in
set_option maxRecDepth 100000 in
theorem c_X0_judgeSticks (l : Launch) (D : va_G) (g : Nat → ClassId) (h : Nat) (a : Nat → Nat) (s f w o p t : Int → Int) (lo sl fa : Int)  (hs : Bd s 120 0 20) (hw : Bd w 120 0 1) (ho : Bd o 120 (-1) 119) (hp : Bd p 120 0 38) : ZMv (S := Unit) l yX0_judgeSticks wsX0_judgeSticks ({ frames := 1, cells := 0, slots := 0, locals := 60 }) D g [.ref h] (wSh g h a s f w o p t lo sl fa) (fun _ => True) (fun _ => wSh g h a s f w (jO s w o p 120) (jP s w o p 120) (jT s w o p t 120) lo sl (fa + jF s w o p 120)) 0 0 := by
  have hinX0 : ∀ w ∈ u_ws RX0 TX0 9, w ∈ wsX0_judgeSticks := by decide +kernel
  have L9 : Cond.fieldLink RX0 9 "SandcastleLeague$Shore" "sand" "[I" ∈ wsX0_judgeSticks := by decide +kernel
  have L21 : Cond.fieldLink RX0 21 "SandcastleLeague$Shore" "owner" "[I" ∈ wsX0_judgeSticks := by decide +kernel
  have L24 : Cond.fieldLink RX0 24 "SandcastleLeague$Shore" "plantedHeight" "[I" ∈ wsX0_judgeSticks := by decide +kernel
  have L27 : Cond.fieldLink RX0 27 "SandcastleLeague$Shore" "points" "[I" ∈ wsX0_judgeSticks := by decide +kernel
  have L46 : Cond.fieldLink RX0 46 "SandcastleLeague$Shore" "fallenSticks" "I" ∈ wsX0_judgeSticks := by decide +kernel
  refine ZMv.of (ty := .int) (own := RX0) cX0_judgeSticks 3 [(0, .ref h)] (by decide +kernel) rfl (nle rfl) rfl rfl ?_
  intro E hC hN hret
  refine z_iconst 1 hC dX0_judgeSticks_0 rfl ?_
  refine z_istoren (lv' := [(1, .int (iI 0)), (0, .ref h)]) 2 hC dX0_judgeSticks_1 rfl rfl (by decide) rfl ?_
  have loop2 : ∀ (N2 : Nat) (i : Int), 0 ≤ i ∧ i ≤ 120 → (120 - i : Int) < N2 → Z E (wSh g h a s f w (jO s w o p i) (jP s w o p i) (jT s w o p t i) lo sl (fa + jF s w o p i)) [(0, .ref h), (1, .int (iI i))] 0 0 2 [] := by
    intro N2
    induction N2 with
    | zero => intro i hi hm2; exact absurd hm2 (by omega)
    | succ N2 ih2 =>
      intro i hi hm2
      have e1 : jO s w o p i i = o i := if_neg (fun q => by omega)
      have e2 : jP s w o p i i = p i := if_neg (fun q => by omega)
      refine z_iloadn 3 hC 1 dX0_judgeSticks_2 rfl rfl rfl ?_
      refine z_bipush 5 hC dX0_judgeSticks_3 (by decide) rfl ?_
      refine z_icmp_ge 101 8 hC dX0_judgeSticks_5 (by decide) rfl (by omega) (by omega) (fun c_1 => ?_) (fun c_1 => ?_)
      · skip
        obtain rfl : i = 120 := by omega
        refine z_weq (ws' := wSh g h a s f w (jO s w o p 120) (jP s w o p 120) (jT s w o p t 120) lo sl (fa + jF s w o p 120)) (zEq.cons (zE1.obj (zfk (zfk (zfk (zfk (zfk (zfk (zfk (zfk (zfc (by omega) rfl)))))))))) (zEq.cons zE1.rf (zEq.cons zE1.rf (zEq.cons zE1.rf (zEq.cons (zE1.arr (by first | (intro j h0 h1; rfl) | (intro j h0 h1; first | rfl | omega))) (zEq.cons (zE1.arr (by first | (intro j h0 h1; rfl) | (intro j h0 h1; first | rfl | omega))) (zEq.cons (zE1.arr (by first | (intro j h0 h1; rfl) | (intro j h0 h1; first | rfl | omega))) zEq.nil))))))) ?_
        exact hret () dX0_judgeSticks_101 (by trivial)
      · skip
        have b1 := hs i (by omega) (by omega)
        have b2 := hw i (by omega) (by omega)
        have b3 := ho i (by omega) (by omega)
        have b4 := hp i (by omega) (by omega)
        have b5 := hg_bd hs (c := i) (by omega)
        refine z_aloadn 9 hC 0 dX0_judgeSticks_8 rfl rfl rfl ?_
        refine z_get 12 0 3 hC hinX0 L21 dX0_judgeSticks_9 rfl rfl rfl (by decide) rfl ?_
        refine z_iloadn 13 hC 1 dX0_judgeSticks_12 rfl rfl rfl ?_
        refine z_iald 14 4 hC dX0_judgeSticks_13 rfl rfl (by decide) (by omega) ?_
        refine z_istoren (lv' := [(2, .int (iI ((jO s w o p i) i))), (0, .ref h), (1, .int (iI i))]) 15 hC dX0_judgeSticks_14 rfl rfl (by decide) rfl ?_
        refine z_iloadn 16 hC 0 dX0_judgeSticks_15 rfl rfl rfl ?_
        refine z_if_lt 95 19 hC dX0_judgeSticks_16 (by decide) rfl (by omega) (fun c_2 => ?_) (fun c_2 => ?_)
        · skip
          refine z_iinc (lv' := [(1, .int (iI (i + 1))), (2, .int (iI ((jO s w o p i) i))), (0, .ref h)]) 98 2 hC dX0_judgeSticks_95 rfl rfl (by decide) rfl ?_
          refine z_goto 2 hC dX0_judgeSticks_98 (by decide) ?_
          refine z_lv (lv' := [(0, .ref h), (1, .int (iI (i + 1)))]) [2, 0] rfl ?_
          refine z_weq (ws' := wSh g h a s f w (jO s w o p (i + 1)) (jP s w o p (i + 1)) (jT s w o p t (i + 1)) lo sl (fa + jF s w o p (i + 1))) (zEq.cons (zE1.obj (zfk (zfk (zfk (zfk (zfk (zfk (zfk (zfk (zfc (by first | exact jF_n (by omega) (by omega) | exact jF_k (by omega) (by unfold fal; omega) | exact jF_y (by omega) (by omega) (by unfold fal; omega)) rfl)))))))))) (zEq.cons zE1.rf (zEq.cons zE1.rf (zEq.cons zE1.rf (zEq.cons (zE1.arr (by first | (intro j h0 h1; rfl) | (intro j h0 h1; first | exact jO_n (by omega) j | exact jO_k (by unfold fal; omega) j | exact jO_y (by omega) (by unfold fal; omega) j))) (zEq.cons (zE1.arr (by first | (intro j h0 h1; rfl) | (intro j h0 h1; first | exact jP_n (by omega) j | exact jP_k (by unfold fal; omega) j | exact jP_y (by omega) (by unfold fal; omega) j))) (zEq.cons (zE1.arr (by first | (intro j h0 h1; rfl) | (intro j h0 h1; first | exact jT_n (by omega) (by omega) j h0 | exact jT_k (by omega) (by unfold fal; omega) j | (rw [e1]; exact jT_y (by omega) (by omega) (by unfold fal; omega) j)))) zEq.nil))))))) ?_
          exact ih2 (i + 1) (by omega) (by omega)
        · skip
          refine z_iloadn 20 hC 0 dX0_judgeSticks_19 rfl rfl rfl ?_
          refine z_bipush 22 hC dX0_judgeSticks_20 (by decide) rfl ?_
          refine z_icmp_ge 95 25 hC dX0_judgeSticks_22 (by decide) rfl (by omega) (by omega) (fun c_3 => ?_) (fun c_3 => ?_)
          · exfalso; omega
          · skip
            refine z_aloadn 26 hC 1 dX0_judgeSticks_25 rfl rfl rfl ?_
            refine z_iloadn 27 hC 2 dX0_judgeSticks_26 rfl rfl rfl ?_
            refine z_calli (wr := []) (w2 := fun _ => wSh g h a s f w (jO s w o p i) (jP s w o p i) (jT s w o p t i) lo sl (fa + jF s w o p i)) 30 hC [0, 1, 2, 3, 4, 5, 6] [] [0, 1, 2, 3, 4, 5, 6] (z_runV (nA := 1) hC hN (c_X0_isWet l D g h a s f w (jO s w o p i) (jP s w o p i) (jT s w o p t i) lo sl (fa + jF s w o p i) i (by omega) hw) [0, 1, 2, 3, 4, 5, 6] rfl (by decide) gX0_judgeSticks_X0_isWet (by decide +kernel) rfl rfl rfl ⟨by decide, by decide⟩ rfl rfl (nle rfl) dX0_judgeSticks_27 ⟨by decide, by decide⟩ 0 rfl rfl) rfl rfl (by decide) (by decide) (fun _ => rfl) (by decide) rfl (k2 := 0) (n2 := 0) rfl rfl (fun z_4 _ p_5 => ?_)
            refine z_if_ne 49 33 hC dX0_judgeSticks_30 (by decide) rfl (by omega) (fun c_6 => ?_) (fun c_6 => ?_)
            · skip
              refine z_aloadn 50 hC 1 dX0_judgeSticks_49 rfl rfl rfl ?_
              refine z_get 53 0 3 hC hinX0 L21 dX0_judgeSticks_50 rfl rfl rfl (by decide) rfl ?_
              refine z_iloadn 54 hC 2 dX0_judgeSticks_53 rfl rfl rfl ?_
              refine z_iconst 55 hC dX0_judgeSticks_54 rfl ?_
              refine z_iast (ws' := wSh g h a s f w (up (jO s w o p i) i (-1)) (jP s w o p i) (jT s w o p t i) lo sl (fa + jF s w o p i)) 56 4 hC dX0_judgeSticks_55 rfl rfl (by decide) (by omega) rfl ?_
              refine z_aloadn 57 hC 1 dX0_judgeSticks_56 rfl rfl rfl ?_
              refine z_get 60 0 4 hC hinX0 L24 dX0_judgeSticks_57 rfl rfl rfl (by decide) rfl ?_
              refine z_iloadn 61 hC 2 dX0_judgeSticks_60 rfl rfl rfl ?_
              refine z_iconst 62 hC dX0_judgeSticks_61 rfl ?_
              refine z_iast (ws' := wSh g h a s f w (up (jO s w o p i) i (-1)) (up (jP s w o p i) i 0) (jT s w o p t i) lo sl (fa + jF s w o p i)) 63 5 hC dX0_judgeSticks_62 rfl rfl (by decide) (by omega) rfl ?_
              refine z_aloadn 64 hC 1 dX0_judgeSticks_63 rfl rfl rfl ?_
              refine z_dup 65 hC dX0_judgeSticks_64 rfl rfl ?_
              refine z_get 68 0 8 hC hinX0 L46 dX0_judgeSticks_65 rfl rfl rfl (by decide) rfl ?_
              refine z_iconst 69 hC dX0_judgeSticks_68 rfl ?_
              refine z_iadd 70 hC dX0_judgeSticks_69 rfl ?_
              refine z_put (ty := .int) (ws' := wSh g h a s f w (up (jO s w o p i) i (-1)) (up (jP s w o p i) i 0) (jT s w o p t i) lo sl ((fa + jF s w o p i) + 1)) 73 0 8 hC tyX0 tyX0_ok nmX0 hinX0 L46 dX0_judgeSticks_70 rfl rfl rfl (by decide) rfl (by decide +kernel) rfl rfl (nle rfl) rfl ?_
              refine z_goto 95 hC dX0_judgeSticks_73 (by decide) ?_
              refine z_iinc (lv' := [(1, .int (iI (i + 1))), (2, .int (iI ((jO s w o p i) i))), (0, .ref h)]) 98 2 hC dX0_judgeSticks_95 rfl rfl (by decide) rfl ?_
              refine z_goto 2 hC dX0_judgeSticks_98 (by decide) ?_
              refine z_lv (lv' := [(0, .ref h), (1, .int (iI (i + 1)))]) [2, 0] rfl ?_
              refine z_weq (ws' := wSh g h a s f w (jO s w o p (i + 1)) (jP s w o p (i + 1)) (jT s w o p t (i + 1)) lo sl (fa + jF s w o p (i + 1))) (zEq.cons (zE1.obj (zfk (zfk (zfk (zfk (zfk (zfk (zfk (zfk (zfc (by first | exact jF_n (by omega) (by omega) | exact jF_k (by omega) (by unfold fal; omega) | exact jF_y (by omega) (by omega) (by unfold fal; omega)) rfl)))))))))) (zEq.cons zE1.rf (zEq.cons zE1.rf (zEq.cons zE1.rf (zEq.cons (zE1.arr (by first | (intro j h0 h1; rfl) | (intro j h0 h1; first | exact jO_n (by omega) j | exact jO_k (by unfold fal; omega) j | exact jO_y (by omega) (by unfold fal; omega) j))) (zEq.cons (zE1.arr (by first | (intro j h0 h1; rfl) | (intro j h0 h1; first | exact jP_n (by omega) j | exact jP_k (by unfold fal; omega) j | exact jP_y (by omega) (by unfold fal; omega) j))) (zEq.cons (zE1.arr (by first | (intro j h0 h1; rfl) | (intro j h0 h1; first | exact jT_n (by omega) (by omega) j h0 | exact jT_k (by omega) (by unfold fal; omega) j | (rw [e1]; exact jT_y (by omega) (by omega) (by unfold fal; omega) j)))) zEq.nil))))))) ?_
              exact ih2 (i + 1) (by omega) (by omega)
            · skip
              refine z_aloadn 34 hC 1 dX0_judgeSticks_33 rfl rfl rfl ?_
              refine z_iloadn 35 hC 2 dX0_judgeSticks_34 rfl rfl rfl ?_
              refine z_calli (wr := []) (w2 := fun _ => wSh g h a s f w (jO s w o p i) (jP s w o p i) (jT s w o p t i) lo sl (fa + jF s w o p i)) 38 hC [0, 1, 2, 3, 4, 5, 6] [] [0, 1, 2, 3, 4, 5, 6] (z_runV (nA := 1) hC hN (c_X0_height l D g h a s f w (jO s w o p i) (jP s w o p i) (jT s w o p t i) lo sl (fa + jF s w o p i) i (by omega)) [0, 1, 2, 3, 4, 5, 6] rfl (by decide) gX0_judgeSticks_X0_height (by decide +kernel) rfl rfl rfl ⟨by decide, by decide⟩ rfl rfl (nle rfl) dX0_judgeSticks_35 ⟨by decide, by decide⟩ 0 rfl rfl) rfl rfl (by decide) (by decide) (fun _ => rfl) (by decide) rfl (k2 := 0) (n2 := 0) rfl rfl (fun z_8 _ p_9 => ?_)
              subst p_9
              have y_7 := hg_bd hs (c := i) (by omega)
              refine z_aloadn 39 hC 1 dX0_judgeSticks_38 rfl rfl rfl ?_
              refine z_get 42 0 4 hC hinX0 L24 dX0_judgeSticks_39 rfl rfl rfl (by decide) rfl ?_
              refine z_iloadn 43 hC 2 dX0_judgeSticks_42 rfl rfl rfl ?_
              refine z_iald 44 5 hC dX0_judgeSticks_43 rfl rfl (by decide) (by omega) ?_
              refine z_iconst 45 hC dX0_judgeSticks_44 rfl ?_
              refine z_isub 46 hC dX0_judgeSticks_45 rfl ?_
              refine z_icmp_ge 76 49 hC dX0_judgeSticks_46 (by decide) rfl (by omega) (by omega) (fun c_10 => ?_) (fun c_10 => ?_)
              · skip
                refine z_aloadn 77 hC 1 dX0_judgeSticks_76 rfl rfl rfl ?_
                refine z_get 80 0 5 hC hinX0 L27 dX0_judgeSticks_77 rfl rfl rfl (by decide) rfl ?_
                refine z_iloadn 81 hC 0 dX0_judgeSticks_80 rfl rfl rfl ?_
                refine z_dup2 82 hC dX0_judgeSticks_81 rfl rfl rfl ?_
                refine z_iald 83 6 hC dX0_judgeSticks_82 rfl rfl (by decide) (by omega) ?_
                refine z_iconst 84 hC dX0_judgeSticks_83 rfl ?_
                refine z_aloadn 85 hC 1 dX0_judgeSticks_84 rfl rfl rfl ?_
                refine z_get 88 0 0 hC hinX0 L9 dX0_judgeSticks_85 rfl rfl rfl (by decide) rfl ?_
                refine z_iloadn 89 hC 2 dX0_judgeSticks_88 rfl rfl rfl ?_
                refine z_iald 90 1 hC dX0_judgeSticks_89 rfl rfl (by decide) (by omega) ?_
                have b_11 := hs i (by omega) (by omega)
                refine z_iconst 91 hC dX0_judgeSticks_90 rfl ?_
                refine z_idiv 92 hC dX0_judgeSticks_91 rfl (by omega) (by omega) ?_
                refine z_iadd 93 hC dX0_judgeSticks_92 rfl ?_
                refine z_iadd 94 hC dX0_judgeSticks_93 rfl ?_
                refine z_iast (ws' := wSh g h a s f w (jO s w o p i) (jP s w o p i) (up (jT s w o p t i) ((jO s w o p i) i) (((jT s w o p t i) ((jO s w o p i) i)) + (1 + ((s i) / 5)))) lo sl (fa + jF s w o p i)) 95 6 hC dX0_judgeSticks_94 rfl rfl (by decide) (by omega) rfl ?_
                refine z_iinc (lv' := [(1, .int (iI (i + 1))), (2, .int (iI ((jO s w o p i) i))), (0, .ref h)]) 98 2 hC dX0_judgeSticks_95 rfl rfl (by decide) rfl ?_
                refine z_goto 2 hC dX0_judgeSticks_98 (by decide) ?_
                refine z_lv (lv' := [(0, .ref h), (1, .int (iI (i + 1)))]) [2, 0] rfl ?_
                refine z_weq (ws' := wSh g h a s f w (jO s w o p (i + 1)) (jP s w o p (i + 1)) (jT s w o p t (i + 1)) lo sl (fa + jF s w o p (i + 1))) (zEq.cons (zE1.obj (zfk (zfk (zfk (zfk (zfk (zfk (zfk (zfk (zfc (by first | exact jF_n (by omega) (by omega) | exact jF_k (by omega) (by unfold fal; omega) | exact jF_y (by omega) (by omega) (by unfold fal; omega)) rfl)))))))))) (zEq.cons zE1.rf (zEq.cons zE1.rf (zEq.cons zE1.rf (zEq.cons (zE1.arr (by first | (intro j h0 h1; rfl) | (intro j h0 h1; first | exact jO_n (by omega) j | exact jO_k (by unfold fal; omega) j | exact jO_y (by omega) (by unfold fal; omega) j))) (zEq.cons (zE1.arr (by first | (intro j h0 h1; rfl) | (intro j h0 h1; first | exact jP_n (by omega) j | exact jP_k (by unfold fal; omega) j | exact jP_y (by omega) (by unfold fal; omega) j))) (zEq.cons (zE1.arr (by first | (intro j h0 h1; rfl) | (intro j h0 h1; first | exact jT_n (by omega) (by omega) j h0 | exact jT_k (by omega) (by unfold fal; omega) j | (rw [e1]; exact jT_y (by omega) (by omega) (by unfold fal; omega) j)))) zEq.nil))))))) ?_
                exact ih2 (i + 1) (by omega) (by omega)
              · skip
                refine z_aloadn 50 hC 1 dX0_judgeSticks_49 rfl rfl rfl ?_
                refine z_get 53 0 3 hC hinX0 L21 dX0_judgeSticks_50 rfl rfl rfl (by decide) rfl ?_
                refine z_iloadn 54 hC 2 dX0_judgeSticks_53 rfl rfl rfl ?_
                refine z_iconst 55 hC dX0_judgeSticks_54 rfl ?_
                refine z_iast (ws' := wSh g h a s f w (up (jO s w o p i) i (-1)) (jP s w o p i) (jT s w o p t i) lo sl (fa + jF s w o p i)) 56 4 hC dX0_judgeSticks_55 rfl rfl (by decide) (by omega) rfl ?_
                refine z_aloadn 57 hC 1 dX0_judgeSticks_56 rfl rfl rfl ?_
                refine z_get 60 0 4 hC hinX0 L24 dX0_judgeSticks_57 rfl rfl rfl (by decide) rfl ?_
                refine z_iloadn 61 hC 2 dX0_judgeSticks_60 rfl rfl rfl ?_
                refine z_iconst 62 hC dX0_judgeSticks_61 rfl ?_
                refine z_iast (ws' := wSh g h a s f w (up (jO s w o p i) i (-1)) (up (jP s w o p i) i 0) (jT s w o p t i) lo sl (fa + jF s w o p i)) 63 5 hC dX0_judgeSticks_62 rfl rfl (by decide) (by omega) rfl ?_
                refine z_aloadn 64 hC 1 dX0_judgeSticks_63 rfl rfl rfl ?_
                refine z_dup 65 hC dX0_judgeSticks_64 rfl rfl ?_
                refine z_get 68 0 8 hC hinX0 L46 dX0_judgeSticks_65 rfl rfl rfl (by decide) rfl ?_
                refine z_iconst 69 hC dX0_judgeSticks_68 rfl ?_
                refine z_iadd 70 hC dX0_judgeSticks_69 rfl ?_
                refine z_put (ty := .int) (ws' := wSh g h a s f w (up (jO s w o p i) i (-1)) (up (jP s w o p i) i 0) (jT s w o p t i) lo sl ((fa + jF s w o p i) + 1)) 73 0 8 hC tyX0 tyX0_ok nmX0 hinX0 L46 dX0_judgeSticks_70 rfl rfl rfl (by decide) rfl (by decide +kernel) rfl rfl (nle rfl) rfl ?_
                refine z_goto 95 hC dX0_judgeSticks_73 (by decide) ?_
                refine z_iinc (lv' := [(1, .int (iI (i + 1))), (2, .int (iI ((jO s w o p i) i))), (0, .ref h)]) 98 2 hC dX0_judgeSticks_95 rfl rfl (by decide) rfl ?_
                refine z_goto 2 hC dX0_judgeSticks_98 (by decide) ?_
                refine z_lv (lv' := [(0, .ref h), (1, .int (iI (i + 1)))]) [2, 0] rfl ?_
                refine z_weq (ws' := wSh g h a s f w (jO s w o p (i + 1)) (jP s w o p (i + 1)) (jT s w o p t (i + 1)) lo sl (fa + jF s w o p (i + 1))) (zEq.cons (zE1.obj (zfk (zfk (zfk (zfk (zfk (zfk (zfk (zfk (zfc (by first | exact jF_n (by omega) (by omega) | exact jF_k (by omega) (by unfold fal; omega) | exact jF_y (by omega) (by omega) (by unfold fal; omega)) rfl)))))))))) (zEq.cons zE1.rf (zEq.cons zE1.rf (zEq.cons zE1.rf (zEq.cons (zE1.arr (by first | (intro j h0 h1; rfl) | (intro j h0 h1; first | exact jO_n (by omega) j | exact jO_k (by unfold fal; omega) j | exact jO_y (by omega) (by unfold fal; omega) j))) (zEq.cons (zE1.arr (by first | (intro j h0 h1; rfl) | (intro j h0 h1; first | exact jP_n (by omega) j | exact jP_k (by unfold fal; omega) j | exact jP_y (by omega) (by unfold fal; omega) j))) (zEq.cons (zE1.arr (by first | (intro j h0 h1; rfl) | (intro j h0 h1; first | exact jT_n (by omega) (by omega) j h0 | exact jT_k (by omega) (by unfold fal; omega) j | (rw [e1]; exact jT_y (by omega) (by omega) (by unfold fal; omega) j)))) zEq.nil))))))) ?_
                exact ih2 (i + 1) (by omega) (by omega)
  refine z_lv (lv' := [(0, .ref h), (1, .int (iI 0))]) [1, 0] rfl ?_
  refine z_weq (ws' := wSh g h a s f w (jO s w o p 0) (jP s w o p 0) (jT s w o p t 0) lo sl (fa + jF s w o p 0)) (zEq.cons (zE1.obj (zfk (zfk (zfk (zfk (zfk (zfk (zfk (zfk (zfc (by exact (Int.add_zero _).symm) rfl)))))))))) (zEq.cons zE1.rf (zEq.cons zE1.rf (zEq.cons zE1.rf (zEq.cons (zE1.arr (by first | (intro j h0 h1; rfl) | (intro j h0 h1; exact (if_neg (fun q => by omega)).symm))) (zEq.cons (zE1.arr (by first | (intro j h0 h1; rfl) | (intro j h0 h1; exact (if_neg (fun q => by omega)).symm))) (zEq.cons (zE1.arr (by first | (intro j h0 h1; rfl) | (intro j h0 h1; exact (Int.add_zero _).symm))) zEq.nil))))))) ?_
  exact loop2 ((120 - 0 + 1 : Int).toNat) 0 (by omega) (by omega)
set_option maxHeartbeats 4000000 in
set_option maxRecDepth 100000 in
theorem c_X0_letHourGoBy (l : Launch) (D : va_G) (g : Nat → ClassId) (h : Nat) (a : Nat → Nat) (s f w o p t : Int → Int) (lo sl fa : Int) (L : Int) (hs : Bd s 120 0 20) (hf : Bd f 120 0 5) (ho : Bd o 120 (-1) 119) (hp : Bd p 120 0 38) (hL : -1000 ≤ L ∧ L ≤ 1000) : ZMv (S := Unit) l yX0_letHourGoBy wsX0_letHourGoBy ({ frames := 4, cells := 0, slots := 0, locals := 220 }) D g [.ref h, .int (iI L)] (wSh g h a s f w o p t lo sl fa) (fun _ => True) (fun _ => wSh g h a (hS s f L) (hF s f L) (wet s L) (hO s f o p L) (hP s f o p L) (hT s f o p t L) (lo + hLo s f L) (hSl s f L) (fa + hFa s f o p L)) 0 0 := by
  have hinX0 : ∀ w ∈ u_ws RX0 TX0 9, w ∈ wsX0_letHourGoBy := by decide +kernel
  have L43 : Cond.fieldLink RX0 43 "SandcastleLeague$Shore" "slides" "I" ∈ wsX0_letHourGoBy := by decide +kernel
  refine ZMv.of (ty := .int) (own := RX0) cX0_letHourGoBy 2 [(0, .ref h), (1, .int (iI L))] (by decide +kernel) rfl (nle rfl) rfl rfl ?_
  intro E hC hN hret
  refine z_aloadn 1 hC 0 dX0_letHourGoBy_0 rfl rfl rfl ?_
  refine z_iloadn 2 hC 1 dX0_letHourGoBy_1 rfl rfl rfl ?_
  refine z_callv (wr := []) (w2 := fun _ => wSh g h a s f (wet s L) o p t lo sl fa) 5 hC [0, 1, 2, 3, 4, 5, 6] [] [0, 1, 2, 3, 4, 5, 6] (z_runV (nA := 1) hC hN (c_X0_findWater l D g h a s f w o p t lo sl fa L hs (by omega)) [0, 1, 2, 3, 4, 5, 6] rfl (by decide) gX0_letHourGoBy_X0_findWater (by decide +kernel) rfl rfl rfl ⟨by decide, by decide⟩ rfl rfl (nle rfl) dX0_letHourGoBy_2 ⟨by decide, by decide⟩ 0 rfl rfl) rfl rfl (by decide) (by decide) (fun _ => rfl) (by decide) rfl (k2 := 0) (n2 := 0) rfl rfl (fun _ p_1 => ?_)
  refine z_aloadn 6 hC 0 dX0_letHourGoBy_5 rfl rfl rfl ?_
  refine z_iloadn 7 hC 1 dX0_letHourGoBy_6 rfl rfl rfl ?_
  refine z_callv (wr := []) (w2 := fun _ => wSh g h a (wsh s f (wet s L) L 120) (wshF f (wet s L) 120) (wet s L) o p t (lo + wshL s f (wet s L) L 120) sl fa) 10 hC [0, 1, 2, 3, 4, 5, 6] [] [0, 1, 2, 3, 4, 5, 6] (z_runV (nA := 1) hC hN (c_X0_washSandAway l D g h a s f (wet s L) o p t lo sl fa L hs hf (wet_bd s L) (by omega) (by intro j _ _ q; exact wet_lt q)) [0, 1, 2, 3, 4, 5, 6] rfl (by decide) gX0_letHourGoBy_X0_washSandAway (by decide +kernel) rfl rfl rfl ⟨by decide, by decide⟩ rfl rfl (nle rfl) dX0_letHourGoBy_7 ⟨by decide, by decide⟩ 0 rfl rfl) rfl rfl (by decide) (by decide) (fun _ => rfl) (by decide) rfl (k2 := 0) (n2 := 0) rfl rfl (fun _ p_2 => ?_)
  refine z_aloadn 11 hC 0 dX0_letHourGoBy_10 rfl rfl rfl ?_
  refine z_aloadn 12 hC 0 dX0_letHourGoBy_11 rfl rfl rfl ?_
  refine z_calli (wr := []) (w2 := fun _ => wSh g h a ((slA (wshF f (wet s L) 120) 40 (wsh s f (wet s L) L 120)).1) (wshF f (wet s L) 120) (wet s L) o p t (lo + wshL s f (wet s L) L 120) sl fa) 15 hC [0, 1, 2, 3, 4, 5, 6] [] [0, 1, 2, 3, 4, 5, 6] (z_runV (nA := 0) hC hN (c_X0_letSandSlide l D g h a (wsh s f (wet s L) L 120) (wshF f (wet s L) 120) (wet s L) o p t (lo + wshL s f (wet s L) L 120) sl fa  (wsh_bd f (wet s L) L 120 hs) (wshF_bd (wet s L) 120 hf)) [0, 1, 2, 3, 4, 5, 6] rfl (by decide) gX0_letHourGoBy_X0_letSandSlide (by decide +kernel) rfl rfl rfl ⟨by decide, by decide⟩ rfl rfl (nle rfl) dX0_letHourGoBy_12 ⟨by decide, by decide⟩ 0 rfl rfl) rfl rfl (by decide) (by decide) (fun _ => rfl) (by decide) rfl (k2 := 0) (n2 := 0) rfl rfl (fun z_3 _ p_4 => ?_)
  subst p_4
  refine z_put (ty := .int) (ws' := wSh g h a ((slA (wshF f (wet s L) 120) 40 (wsh s f (wet s L) L 120)).1) (wshF f (wet s L) 120) (wet s L) o p t (lo + wshL s f (wet s L) L 120) ((slA (wshF f (wet s L) 120) 40 (wsh s f (wet s L) L 120)).2) fa) 18 0 7 hC tyX0 tyX0_ok nmX0 hinX0 L43 dX0_letHourGoBy_15 rfl rfl rfl (by decide) rfl (by decide +kernel) rfl rfl (nle rfl) rfl ?_
  refine z_aloadn 19 hC 0 dX0_letHourGoBy_18 rfl rfl rfl ?_
  refine z_callv (wr := []) (w2 := fun _ => wSh g h a ((slA (wshF f (wet s L) 120) 40 (wsh s f (wet s L) L 120)).1) (wshF f (wet s L) 120) (wet s L) (jO ((slA (wshF f (wet s L) 120) 40 (wsh s f (wet s L) L 120)).1) (wet s L) o p 120) (jP ((slA (wshF f (wet s L) 120) 40 (wsh s f (wet s L) L 120)).1) (wet s L) o p 120) (jT ((slA (wshF f (wet s L) 120) 40 (wsh s f (wet s L) L 120)).1) (wet s L) o p t 120) (lo + wshL s f (wet s L) L 120) ((slA (wshF f (wet s L) 120) 40 (wsh s f (wet s L) L 120)).2) (fa + jF ((slA (wshF f (wet s L) 120) 40 (wsh s f (wet s L) L 120)).1) (wet s L) o p 120)) 22 hC [0, 1, 2, 3, 4, 5, 6] [] [0, 1, 2, 3, 4, 5, 6] (z_runV (nA := 0) hC hN (c_X0_judgeSticks l D g h a ((slA (wshF f (wet s L) 120) 40 (wsh s f (wet s L) L 120)).1) (wshF f (wet s L) 120) (wet s L) o p t (lo + wshL s f (wet s L) L 120) ((slA (wshF f (wet s L) 120) 40 (wsh s f (wet s L) L 120)).2) fa  (slA_bd (f := wshF f (wet s L) 120) 40 (wsh_bd f (wet s L) L 120 hs)) (wet_bd s L) ho hp) [0, 1, 2, 3, 4, 5, 6] rfl (by decide) gX0_letHourGoBy_X0_judgeSticks (by decide +kernel) rfl rfl rfl ⟨by decide, by decide⟩ rfl rfl (nle rfl) dX0_letHourGoBy_19 ⟨by decide, by decide⟩ 0 rfl rfl) rfl rfl (by decide) (by decide) (fun _ => rfl) (by decide) rfl (k2 := 0) (n2 := 0) rfl rfl (fun _ p_5 => ?_)
  refine z_weq (ws' := wSh g h a (hS s f L) (hF s f L) (wet s L) (hO s f o p L) (hP s f o p L) (hT s f o p t L) (lo + hLo s f L) (hSl s f L) (fa + hFa s f o p L)) (zEq.cons (zE1.obj (zfk (zfk (zfk (zfk (zfk (zfk (zfc (by first | rfl | omega) (zfc (by first | rfl | omega) (zfc (by first | rfl | omega) rfl)))))))))) (zEq.cons (zE1.arr (by first | (intro j h0 h1; rfl) | (intro j h0 h1; rfl))) (zEq.cons (zE1.arr (by first | (intro j h0 h1; rfl) | (intro j h0 h1; rfl))) (zEq.cons zE1.rf (zEq.cons (zE1.arr (by first | (intro j h0 h1; rfl) | (intro j h0 h1; rfl))) (zEq.cons (zE1.arr (by first | (intro j h0 h1; rfl) | (intro j h0 h1; rfl))) (zEq.cons (zE1.arr (by first | (intro j h0 h1; rfl) | (intro j h0 h1; rfl))) zEq.nil))))))) ?_
  exact hret () dX0_letHourGoBy_22 (by trivial)
