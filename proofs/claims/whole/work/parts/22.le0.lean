/-! the league -/
/-- the cells of the league's own object -/
def wLe (g : Nat → ClassId) (x : Nat) (b : Nat → Nat) (sh tr : Nat) (td bu sr lg : Int → Int) (tm hr en : Int) : va_W := [(x, .inr (1, [.ref sh, .ref tr, .ref (b 0), .ref (b 1), .ref (b 2), .ref (b 3), .int (iI tm), .int (iI hr), .int (iI en)])), (b 0, ar g 12 td), (b 1, ar g 4 bu), (b 2, ar g 4 sr), (b 3, ar g 4 lg)]
/-- the greatest height of an area, among the first i cells -/
def gha (s : Int → Int) (k i : Int) : Int := foI (fun j x => if j % 12 / 3 = k then max x (hg s j) else x) 0 i
theorem gha_s (s : Int → Int) (k : Int) {i : Int} (h : 0 ≤ i) : gha s k (i + 1) = if i % 12 / 3 = k then max (gha s k i) (hg s i) else gha s k i := foI_s _ _ h
theorem gha_bd {s : Int → Int} (hs : Bd s 120 0 20) (k : Int) {i : Int} (h0 : 0 ≤ i) (h1 : i ≤ 120) : 0 ≤ gha s k i ∧ gha s k i ≤ 38 := by
  have key : ∀ n : Nat, (n : Int) ≤ 120 → 0 ≤ gha s k (n : Int) ∧ gha s k (n : Int) ≤ 38 := by
    intro n
    induction n with
    | zero => intro _; exact ⟨Int.le_refl 0, (by decide : (0 : Int) ≤ 38)⟩
    | succ n ih =>
      intro hn
      have e : ((n + 1 : Nat) : Int) = (n : Int) + 1 := by omega
      have h2 := hg_bd hs (c := (n : Int)) (by omega)
      have h3 := ih (by omega)
      rw [e, gha_s s k (by omega)]
      split <;> omega
  have := key i.toNat (by omega)
  rwa [Int.toNat_of_nonneg h0] at this
set_option maxHeartbeats 4000000 in
set_option maxRecDepth 100000 in
theorem c_J9_floorMod_7cf53 (l : Launch) (D : va_G) (g : Nat → ClassId) (x : Int) (y : Int) (hx : 0 ≤ x ∧ x ≤ 2147483647) (hy : 0 < y ∧ y ≤ 2147483647) : ZMi (S := Unit) l yJ9_floorMod_7cf53 wsJ9_floorMod_7cf53 ({ frames := 0, cells := 0, slots := 0, locals := 0 }) D g [.int (iI x), .int (iI y)] ([]) (fun z _ => z = x % y) (fun _ => []) 0 0 := by
  refine ZMi.ofF (own := RJ9) cJ9_floorMod_7cf53 3 [(0, .int (iI x)), (1, .int (iI y))] (by decide +kernel) rfl (nle rfl) rfl rfl ?_
  intro E hC hN hret
  refine z_iloadn 1 hC 0 dJ9_floorMod_7cf53_0 rfl rfl rfl ?_
  refine z_iloadn 2 hC 1 dJ9_floorMod_7cf53_1 rfl rfl rfl ?_
  refine z_irem 3 hC dJ9_floorMod_7cf53_2 rfl (by omega) (by omega) ?_
  refine z_istoren (lv' := [(2, .int (iI (x % y))), (0, .int (iI x)), (1, .int (iI y))]) 4 hC dJ9_floorMod_7cf53_3 rfl rfl (by decide) rfl ?_
  refine z_iloadn 5 hC 1 dJ9_floorMod_7cf53_4 rfl rfl rfl ?_
  refine z_iloadn 6 hC 2 dJ9_floorMod_7cf53_5 rfl rfl rfl ?_
  refine z_ixor 7 hC dJ9_floorMod_7cf53_6 rfl (by omega) (by omega) (fun v_1 hv_1 => ?_)
  refine z_if_ge 18 10 hC dJ9_floorMod_7cf53_7 (by decide) rfl (by omega) (fun c_2 => ?_) (fun c_2 => ?_)
  · skip
    refine z_iloadn 19 hC 0 dJ9_floorMod_7cf53_18 rfl rfl rfl ?_
    exact hret () dJ9_floorMod_7cf53_19 rfl (by rfl)
  · exfalso; omega
set_option maxHeartbeats 4000000 in
set_option maxRecDepth 100000 in
theorem c_X1_isInArea (l : Launch) (D : va_G) (g : Nat → ClassId) (k : Int) (c : Int) (hc : 0 ≤ c ∧ c ≤ 2147483647) (hk : -2147483648 ≤ k ∧ k ≤ 2147483647) : ZMi (S := Unit) l yX1_isInArea wsX1_isInArea ({ frames := 0, cells := 0, slots := 0, locals := 0 }) D g [.int (iI k), .int (iI c)] ([]) (fun z _ => (z = 0 ∨ z = 1) ∧ (z = 1 ↔ c % 12 / 3 = k)) (fun _ => []) 0 0 := by
  refine ZMi.of (own := RX1) cX1_isInArea 2 [(0, .int (iI k)), (1, .int (iI c))] (by decide +kernel) rfl (nle rfl) rfl rfl ?_
  intro E hC hN hret
  refine z_iloadn 1 hC 1 dX1_isInArea_0 rfl rfl rfl ?_
  refine z_bipush 3 hC dX1_isInArea_1 (by decide) rfl ?_
  refine z_irem 4 hC dX1_isInArea_3 rfl (by omega) (by omega) ?_
  refine z_iconst 5 hC dX1_isInArea_4 rfl ?_
  refine z_idiv 6 hC dX1_isInArea_5 rfl (by omega) (by omega) ?_
  refine z_iloadn 7 hC 0 dX1_isInArea_6 rfl rfl rfl ?_
  refine z_icmp_ne 14 10 hC dX1_isInArea_7 (by decide) rfl (by omega) (by omega) (fun c_1 => ?_) (fun c_1 => ?_)
  · skip
    refine z_iconst 15 hC dX1_isInArea_14 rfl ?_
    exact hret () dX1_isInArea_15 (by decide) (by omega)
  · skip
    refine z_iconst 11 hC dX1_isInArea_10 rfl ?_
    refine z_goto 15 hC dX1_isInArea_11 (by decide) ?_
    exact hret () dX1_isInArea_15 (by decide) (by omega)
set_option maxHeartbeats 4000000 in
set_option maxRecDepth 100000 in
theorem c_X1_cellAt (l : Launch) (D : va_G) (g : Nat → ClassId) (c : Int) (d : Int)  : ZMi (S := Unit) l yX1_cellAt wsX1_cellAt ({ frames := 0, cells := 0, slots := 0, locals := 0 }) D g [.int (iI c), .int (iI d)] ([]) (fun z _ => z = c + 12 * d) (fun _ => []) 0 0 := by
  refine ZMi.of (own := RX1) cX1_cellAt 2 [(0, .int (iI c)), (1, .int (iI d))] (by decide +kernel) rfl (nle rfl) rfl rfl ?_
  intro E hC hN hret
  refine z_iloadn 1 hC 0 dX1_cellAt_0 rfl rfl rfl ?_
  refine z_bipush 3 hC dX1_cellAt_1 (by decide) rfl ?_
  refine z_iloadn 4 hC 1 dX1_cellAt_3 rfl rfl rfl ?_
  refine z_imul 5 hC dX1_cellAt_4 rfl ?_
  refine z_iadd 6 hC dX1_cellAt_5 rfl ?_
  exact hret () dX1_cellAt_6 rfl (by rfl)
set_option maxHeartbeats 4000000 in
set_option maxRecDepth 100000 in
theorem c_X1_isOnBeach (l : Launch) (D : va_G) (g : Nat → ClassId) (c : Int) (d : Int) (hc : -2147483648 ≤ c ∧ c ≤ 2147483647) (hd : -2147483648 ≤ d ∧ d ≤ 2147483647) : ZMi (S := Unit) l yX1_isOnBeach wsX1_isOnBeach ({ frames := 0, cells := 0, slots := 0, locals := 0 }) D g [.int (iI c), .int (iI d)] ([]) (fun z _ => (z = 0 ∨ z = 1) ∧ (z = 1 ↔ 0 ≤ c ∧ c < 12 ∧ 0 ≤ d ∧ d < 10)) (fun _ => []) 0 0 := by
  refine ZMi.of (own := RX1) cX1_isOnBeach 2 [(0, .int (iI c)), (1, .int (iI d))] (by decide +kernel) rfl (nle rfl) rfl rfl ?_
  intro E hC hN hret
  refine z_iloadn 1 hC 0 dX1_isOnBeach_0 rfl rfl rfl ?_
  refine z_if_lt 24 4 hC dX1_isOnBeach_1 (by decide) rfl (by omega) (fun c_1 => ?_) (fun c_1 => ?_)
  · skip
    refine z_iconst 25 hC dX1_isOnBeach_24 rfl ?_
    exact hret () dX1_isOnBeach_25 (by decide) (by omega)
  · skip
    refine z_iloadn 5 hC 0 dX1_isOnBeach_4 rfl rfl rfl ?_
    refine z_bipush 7 hC dX1_isOnBeach_5 (by decide) rfl ?_
    refine z_icmp_ge 24 10 hC dX1_isOnBeach_7 (by decide) rfl (by omega) (by omega) (fun c_2 => ?_) (fun c_2 => ?_)
    · skip
      refine z_iconst 25 hC dX1_isOnBeach_24 rfl ?_
      exact hret () dX1_isOnBeach_25 (by decide) (by omega)
    · skip
      refine z_iloadn 11 hC 1 dX1_isOnBeach_10 rfl rfl rfl ?_
      refine z_if_lt 24 14 hC dX1_isOnBeach_11 (by decide) rfl (by omega) (fun c_3 => ?_) (fun c_3 => ?_)
      · skip
        refine z_iconst 25 hC dX1_isOnBeach_24 rfl ?_
        exact hret () dX1_isOnBeach_25 (by decide) (by omega)
      · skip
        refine z_iloadn 15 hC 1 dX1_isOnBeach_14 rfl rfl rfl ?_
        refine z_bipush 17 hC dX1_isOnBeach_15 (by decide) rfl ?_
        refine z_icmp_ge 24 20 hC dX1_isOnBeach_17 (by decide) rfl (by omega) (by omega) (fun c_4 => ?_) (fun c_4 => ?_)
        · skip
          refine z_iconst 25 hC dX1_isOnBeach_24 rfl ?_
          exact hret () dX1_isOnBeach_25 (by decide) (by omega)
        · skip
          refine z_iconst 21 hC dX1_isOnBeach_20 rfl ?_
          refine z_goto 25 hC dX1_isOnBeach_21 (by decide) ?_
          exact hret () dX1_isOnBeach_25 (by decide) (by omega)
set_option maxHeartbeats 4000000 in
set_option maxRecDepth 100000 in
theorem c_X0_sumOfArea (l : Launch) (D : va_G) (g : Nat → ClassId) (x : Nat) (f : Int → Int) (k : Int) (hk : -1000000 ≤ k ∧ k ≤ 1000000) : ZMi (S := Unit) l yX0_sumOfArea wsX0_sumOfArea ({ frames := 1, cells := 0, slots := 0, locals := 40 }) D g [.ref x, .int (iI k)] ([(x, ar g 120 f)]) (fun z _ => z = sumI (fun j => if j % 12 / 3 = k then f j else 0) 120) (fun _ => [(x, ar g 120 f)]) 0 0 := by
  refine ZMi.of (own := RX0) cX0_sumOfArea 4 [(0, .ref x), (1, .int (iI k))] (by decide +kernel) rfl (nle rfl) rfl rfl ?_
  intro E hC hN hret
  refine z_iconst 1 hC dX0_sumOfArea_0 rfl ?_
  refine z_istoren (lv' := [(2, .int (iI 0)), (0, .ref x), (1, .int (iI k))]) 2 hC dX0_sumOfArea_1 rfl rfl (by decide) rfl ?_
  refine z_iconst 3 hC dX0_sumOfArea_2 rfl ?_
  refine z_istoren (lv' := [(3, .int (iI 0)), (2, .int (iI 0)), (0, .ref x), (1, .int (iI k))]) 4 hC dX0_sumOfArea_3 rfl rfl (by decide) rfl ?_
  have loop4 : ∀ (N4 : Nat) (i : Int), 0 ≤ i ∧ i ≤ 120 → (120 - i : Int) < N4 → Z E ([(x, ar g 120 f)]) [(0, .ref x), (1, .int (iI k)), (2, .int (iI (sumI (fun j => if j % 12 / 3 = k then f j else 0) i))), (3, .int (iI i))] 0 0 4 [] := by
    intro N4
    induction N4 with
    | zero => intro i hi hm4; exact absurd hm4 (by omega)
    | succ N4 ih4 =>
      intro i hi hm4
      refine z_iloadn 5 hC 3 dX0_sumOfArea_4 rfl rfl rfl ?_
      refine z_bipush 7 hC dX0_sumOfArea_5 (by decide) rfl ?_
      refine z_icmp_ge 36 10 hC dX0_sumOfArea_7 (by decide) rfl (by omega) (by omega) (fun c_1 => ?_) (fun c_1 => ?_)
      · skip
        obtain rfl : i = 120 := by omega
        refine z_iloadn 37 hC 2 dX0_sumOfArea_36 rfl rfl rfl ?_
        exact hret () dX0_sumOfArea_37 rfl (by rfl)
      · skip
        refine z_iloadn 11 hC 3 dX0_sumOfArea_10 rfl rfl rfl ?_
        refine z_aloadn 12 hC 0 dX0_sumOfArea_11 rfl rfl rfl ?_
        refine z_alen 13 0 hC dX0_sumOfArea_12 rfl rfl rfl ?_
        refine z_icmp_ge 36 16 hC dX0_sumOfArea_13 (by decide) rfl (by omega) (by omega) (fun c_2 => ?_) (fun c_2 => ?_)
        · exfalso; omega
        · skip
          refine z_iloadn 17 hC 1 dX0_sumOfArea_16 rfl rfl rfl ?_
          refine z_iloadn 18 hC 3 dX0_sumOfArea_17 rfl rfl rfl ?_
          refine z_calli (wr := [(x, ar g 120 f)]) (w2 := fun _ => [(x, ar g 120 f)]) 21 hC [] [0] [0] (z_runSN (host := RX1) (nA := 2) hC hN (c_X1_isInArea l D g k i (by omega) (by omega)) [] rfl (by decide) gX0_sumOfArea_X1_isInArea_n115 (by decide +kernel) (by decide +kernel) (by decide +kernel) (by decide +kernel) rfl rfl rfl ⟨by decide, by decide⟩ rfl rfl (nle rfl) dX0_sumOfArea_18 ⟨by decide, by decide⟩) rfl rfl (by decide) (by decide) (fun _ => rfl) (by decide) rfl (k2 := 0) (n2 := 0) rfl rfl (fun z_3 _ p_4 => ?_)
          refine z_if_eq 30 24 hC dX0_sumOfArea_21 (by decide) rfl (by omega) (fun c_5 => ?_) (fun c_5 => ?_)
          · skip
            refine z_iinc (lv' := [(3, .int (iI (i + 1))), (0, .ref x), (1, .int (iI k)), (2, .int (iI (sumI (fun j => if j % 12 / 3 = k then f j else 0) i)))]) 33 3 hC dX0_sumOfArea_30 rfl rfl (by decide) rfl ?_
            refine z_goto 4 hC dX0_sumOfArea_33 (by decide) ?_
            refine z_lv (lv' := [(0, .ref x), (1, .int (iI k)), (2, .int (iI (sumI (fun j => if j % 12 / 3 = k then f j else 0) i))), (3, .int (iI (i + 1)))]) [1, 2, 3, 0] rfl ?_
            refine z_lveq (lv' := [(0, .ref x), (1, .int (iI k)), (2, .int (iI (sumI (fun j => if j % 12 / 3 = k then f j else 0) (i + 1)))), (3, .int (iI (i + 1)))]) (zfk (zfk (zlc (by first | exact sumI_n (by omega) (if_neg (by omega)) | exact sumI_y (by omega) (if_pos (by omega)).symm) (zfk rfl)))) ?_
            exact ih4 (i + 1) (by omega) (by omega)
          · skip
            refine z_iloadn 25 hC 2 dX0_sumOfArea_24 rfl rfl rfl ?_
            refine z_aloadn 26 hC 0 dX0_sumOfArea_25 rfl rfl rfl ?_
            refine z_iloadn 27 hC 3 dX0_sumOfArea_26 rfl rfl rfl ?_
            refine z_iald 28 0 hC dX0_sumOfArea_27 rfl rfl (by decide) (by omega) ?_
            refine z_iadd 29 hC dX0_sumOfArea_28 rfl ?_
            refine z_istoren (lv' := [(2, .int (iI ((sumI (fun j => if j % 12 / 3 = k then f j else 0) i) + (f i)))), (0, .ref x), (1, .int (iI k)), (3, .int (iI i))]) 30 hC dX0_sumOfArea_29 rfl rfl (by decide) rfl ?_
            refine z_iinc (lv' := [(3, .int (iI (i + 1))), (2, .int (iI ((sumI (fun j => if j % 12 / 3 = k then f j else 0) i) + (f i)))), (0, .ref x), (1, .int (iI k))]) 33 3 hC dX0_sumOfArea_30 rfl rfl (by decide) rfl ?_
            refine z_goto 4 hC dX0_sumOfArea_33 (by decide) ?_
            refine z_lv (lv' := [(0, .ref x), (1, .int (iI k)), (2, .int (iI ((sumI (fun j => if j % 12 / 3 = k then f j else 0) i) + (f i)))), (3, .int (iI (i + 1)))]) [2, 3, 1, 0] rfl ?_
            refine z_lveq (lv' := [(0, .ref x), (1, .int (iI k)), (2, .int (iI (sumI (fun j => if j % 12 / 3 = k then f j else 0) (i + 1)))), (3, .int (iI (i + 1)))]) (zfk (zfk (zlc (by first | exact sumI_n (by omega) (if_neg (by omega)) | exact sumI_y (by omega) (if_pos (by omega)).symm) (zfk rfl)))) ?_
            exact ih4 (i + 1) (by omega) (by omega)
  refine z_lv (lv' := [(0, .ref x), (1, .int (iI k)), (2, .int (iI 0)), (3, .int (iI 0))]) [2, 3, 1, 0] rfl ?_
  refine z_lveq (lv' := [(0, .ref x), (1, .int (iI k)), (2, .int (iI (sumI (fun j => if j % 12 / 3 = k then f j else 0) 0))), (3, .int (iI 0))]) (zfk (zfk (zlc (by rfl) (zfk rfl)))) ?_
  exact loop4 ((120 - 0 + 1 : Int).toNat) 0 (by omega) (by omega)
set_option maxHeartbeats 4000000 in
set_option maxRecDepth 100000 in
theorem c_X0_sandOfArea (l : Launch) (D : va_G) (g : Nat → ClassId) (h : Nat) (a : Nat → Nat) (s f w o p t : Int → Int) (lo sl fa : Int) (k : Int) (hk : -1000000 ≤ k ∧ k ≤ 1000000) : ZMi (S := Unit) l yX0_sandOfArea wsX0_sandOfArea ({ frames := 2, cells := 0, slots := 0, locals := 80 }) D g [.ref h, .int (iI k)] (wSh g h a s f w o p t lo sl fa) (fun z _ => z = sumI (fun j => if j % 12 / 3 = k then s j else 0) 120) (fun _ => wSh g h a s f w o p t lo sl fa) 0 0 := by
  have hinX0 : ∀ w ∈ u_ws RX0 TX0 9, w ∈ wsX0_sandOfArea := by decide +kernel
  have L9 : Cond.fieldLink RX0 9 "SandcastleLeague$Shore" "sand" "[I" ∈ wsX0_sandOfArea := by decide +kernel
  refine ZMi.of (own := RX0) cX0_sandOfArea 2 [(0, .ref h), (1, .int (iI k))] (by decide +kernel) rfl (nle rfl) rfl rfl ?_
  intro E hC hN hret
  refine z_aloadn 1 hC 0 dX0_sandOfArea_0 rfl rfl rfl ?_
  refine z_get 4 0 0 hC hinX0 L9 dX0_sandOfArea_1 rfl rfl rfl (by decide) rfl ?_
  refine z_iloadn 5 hC 1 dX0_sandOfArea_4 rfl rfl rfl ?_
  refine z_calli (wr := [(h, .inr (0, [.ref (a 0), .ref (a 1), .ref (a 2), .ref (a 3), .ref (a 4), .ref (a 5), .int (iI lo), .int (iI sl), .int (iI fa)])), ((a 1), ar g 120 f), ((a 2), ar g 120 w), ((a 3), ar g 120 o), ((a 4), ar g 120 p), ((a 5), ar g 120 t)]) (w2 := fun _ => wSh g h a s f w o p t lo sl fa) 8 hC [1] [0, 2, 3, 4, 5, 6] [0, 6, 1, 2, 3, 4, 5] (z_runS (nA := 2) hC hN (c_X0_sumOfArea l D g (a 0) s k (by omega)) [1] rfl (by decide) gX0_sandOfArea_X0_sumOfArea (by decide +kernel) rfl rfl rfl ⟨by decide, by decide⟩ rfl rfl (nle rfl) dX0_sandOfArea_5 ⟨by decide, by decide⟩) rfl rfl (by decide) (by decide) (fun _ => rfl) (by decide) rfl (k2 := 0) (n2 := 0) rfl rfl (fun z_1 _ p_2 => ?_)
  subst p_2
  exact hret () dX0_sandOfArea_8 rfl (by rfl)
set_option maxHeartbeats 4000000 in
set_option maxRecDepth 100000 in
theorem c_X0_waterOfArea (l : Launch) (D : va_G) (g : Nat → ClassId) (h : Nat) (a : Nat → Nat) (s f w o p t : Int → Int) (lo sl fa : Int) (k : Int) (hk : -1000000 ≤ k ∧ k ≤ 1000000) : ZMi (S := Unit) l yX0_waterOfArea wsX0_waterOfArea ({ frames := 2, cells := 0, slots := 0, locals := 80 }) D g [.ref h, .int (iI k)] (wSh g h a s f w o p t lo sl fa) (fun z _ => z = sumI (fun j => if j % 12 / 3 = k then w j else 0) 120) (fun _ => wSh g h a s f w o p t lo sl fa) 0 0 := by
  have hinX0 : ∀ w ∈ u_ws RX0 TX0 9, w ∈ wsX0_waterOfArea := by decide +kernel
  have L18 : Cond.fieldLink RX0 18 "SandcastleLeague$Shore" "water" "[I" ∈ wsX0_waterOfArea := by decide +kernel
  refine ZMi.of (own := RX0) cX0_waterOfArea 2 [(0, .ref h), (1, .int (iI k))] (by decide +kernel) rfl (nle rfl) rfl rfl ?_
  intro E hC hN hret
  refine z_aloadn 1 hC 0 dX0_waterOfArea_0 rfl rfl rfl ?_
  refine z_get 4 0 2 hC hinX0 L18 dX0_waterOfArea_1 rfl rfl rfl (by decide) rfl ?_
  refine z_iloadn 5 hC 1 dX0_waterOfArea_4 rfl rfl rfl ?_
  refine z_calli (wr := [(h, .inr (0, [.ref (a 0), .ref (a 1), .ref (a 2), .ref (a 3), .ref (a 4), .ref (a 5), .int (iI lo), .int (iI sl), .int (iI fa)])), ((a 0), ar g 120 s), ((a 1), ar g 120 f), ((a 3), ar g 120 o), ((a 4), ar g 120 p), ((a 5), ar g 120 t)]) (w2 := fun _ => wSh g h a s f w o p t lo sl fa) 8 hC [3] [0, 1, 2, 4, 5, 6] [0, 1, 2, 6, 3, 4, 5] (z_runS (nA := 2) hC hN (c_X0_sumOfArea l D g (a 2) w k (by omega)) [3] rfl (by decide) gX0_waterOfArea_X0_sumOfArea (by decide +kernel) rfl rfl rfl ⟨by decide, by decide⟩ rfl rfl (nle rfl) dX0_waterOfArea_5 ⟨by decide, by decide⟩) rfl rfl (by decide) (by decide) (fun _ => rfl) (by decide) rfl (k2 := 0) (n2 := 0) rfl rfl (fun z_1 _ p_2 => ?_)
  subst p_2
  exact hret () dX0_waterOfArea_8 rfl (by rfl)
set_option maxHeartbeats 4000000 in
set_option maxRecDepth 100000 in
theorem c_X0_greatestHeightOfArea (l : Launch) (D : va_G) (g : Nat → ClassId) (h : Nat) (a : Nat → Nat) (s f w o p t : Int → Int) (lo sl fa : Int) (k : Int) (hs : Bd s 120 0 20) (hk : -1000000 ≤ k ∧ k ≤ 1000000) : ZMi (S := Unit) l yX0_greatestHeightOfArea wsX0_greatestHeightOfArea ({ frames := 1, cells := 0, slots := 0, locals := 60 }) D g [.ref h, .int (iI k)] (wSh g h a s f w o p t lo sl fa) (fun z _ => z = gha s k 120) (fun _ => wSh g h a s f w o p t lo sl fa) 0 0 := by
  refine ZMi.of (own := RX0) cX0_greatestHeightOfArea 4 [(0, .ref h), (1, .int (iI k))] (by decide +kernel) rfl (nle rfl) rfl rfl ?_
  intro E hC hN hret
  refine z_iconst 1 hC dX0_greatestHeightOfArea_0 rfl ?_
  refine z_istoren (lv' := [(2, .int (iI 0)), (0, .ref h), (1, .int (iI k))]) 2 hC dX0_greatestHeightOfArea_1 rfl rfl (by decide) rfl ?_
  refine z_iconst 3 hC dX0_greatestHeightOfArea_2 rfl ?_
  refine z_istoren (lv' := [(3, .int (iI 0)), (2, .int (iI 0)), (0, .ref h), (1, .int (iI k))]) 4 hC dX0_greatestHeightOfArea_3 rfl rfl (by decide) rfl ?_
  have loop4 : ∀ (N4 : Nat) (i : Int), 0 ≤ i ∧ i ≤ 120 → (120 - i : Int) < N4 → Z E (wSh g h a s f w o p t lo sl fa) [(0, .ref h), (1, .int (iI k)), (2, .int (iI (gha s k i))), (3, .int (iI i))] 0 0 4 [] := by
    intro N4
    induction N4 with
    | zero => intro i hi hm4; exact absurd hm4 (by omega)
    | succ N4 ih4 =>
      intro i hi hm4
      have qg := gha_bd hs k hi.1 hi.2
      refine z_iloadn 5 hC 3 dX0_greatestHeightOfArea_4 rfl rfl rfl ?_
      refine z_bipush 7 hC dX0_greatestHeightOfArea_5 (by decide) rfl ?_
      refine z_icmp_ge 34 10 hC dX0_greatestHeightOfArea_7 (by decide) rfl (by omega) (by omega) (fun c_1 => ?_) (fun c_1 => ?_)
      · skip
        obtain rfl : i = 120 := by omega
        refine z_iloadn 35 hC 2 dX0_greatestHeightOfArea_34 rfl rfl rfl ?_
        exact hret () dX0_greatestHeightOfArea_35 rfl (by rfl)
      · skip
        refine z_iloadn 11 hC 1 dX0_greatestHeightOfArea_10 rfl rfl rfl ?_
        refine z_iloadn 12 hC 3 dX0_greatestHeightOfArea_11 rfl rfl rfl ?_
        refine z_calli (wr := [(h, .inr (0, [.ref (a 0), .ref (a 1), .ref (a 2), .ref (a 3), .ref (a 4), .ref (a 5), .int (iI lo), .int (iI sl), .int (iI fa)])), ((a 0), ar g 120 s), ((a 1), ar g 120 f), ((a 2), ar g 120 w), ((a 3), ar g 120 o), ((a 4), ar g 120 p), ((a 5), ar g 120 t)]) (w2 := fun _ => wSh g h a s f w o p t lo sl fa) 15 hC [] [0, 1, 2, 3, 4, 5, 6] [0, 1, 2, 3, 4, 5, 6] (z_runSN (host := RX1) (nA := 2) hC hN (c_X1_isInArea l D g k i (by omega) (by omega)) [] rfl (by decide) gX0_greatestHeightOfArea_X1_isInArea_n115 (by decide +kernel) (by decide +kernel) (by decide +kernel) (by decide +kernel) rfl rfl rfl ⟨by decide, by decide⟩ rfl rfl (nle rfl) dX0_greatestHeightOfArea_12 ⟨by decide, by decide⟩) rfl rfl (by decide) (by decide) (fun _ => rfl) (by decide) rfl (k2 := 0) (n2 := 0) rfl rfl (fun z_2 _ p_3 => ?_)
        refine z_if_eq 28 18 hC dX0_greatestHeightOfArea_15 (by decide) rfl (by omega) (fun c_4 => ?_) (fun c_4 => ?_)
        · skip
          refine z_iinc (lv' := [(3, .int (iI (i + 1))), (0, .ref h), (1, .int (iI k)), (2, .int (iI (gha s k i)))]) 31 3 hC dX0_greatestHeightOfArea_28 rfl rfl (by decide) rfl ?_
          refine z_goto 4 hC dX0_greatestHeightOfArea_31 (by decide) ?_
          refine z_lv (lv' := [(0, .ref h), (1, .int (iI k)), (2, .int (iI (gha s k i))), (3, .int (iI (i + 1)))]) [1, 2, 3, 0] rfl ?_
          refine z_lveq (lv' := [(0, .ref h), (1, .int (iI k)), (2, .int (iI (gha s k (i + 1)))), (3, .int (iI (i + 1)))]) (zfk (zfk (zlc (by rw [gha_s s k (by omega)]; first | rw [if_neg (by omega)] | rw [if_pos (by omega)]) (zfk rfl)))) ?_
          exact ih4 (i + 1) (by omega) (by omega)
        · skip
          refine z_iloadn 19 hC 2 dX0_greatestHeightOfArea_18 rfl rfl rfl ?_
          refine z_aloadn 20 hC 0 dX0_greatestHeightOfArea_19 rfl rfl rfl ?_
          refine z_iloadn 21 hC 3 dX0_greatestHeightOfArea_20 rfl rfl rfl ?_
          refine z_calli (wr := []) (w2 := fun _ => wSh g h a s f w o p t lo sl fa) 24 hC [0, 1, 2, 3, 4, 5, 6] [] [0, 1, 2, 3, 4, 5, 6] (z_runV (nA := 1) hC hN (c_X0_height l D g h a s f w o p t lo sl fa i (by omega)) [0, 1, 2, 3, 4, 5, 6] rfl (by decide) gX0_greatestHeightOfArea_X0_height (by decide +kernel) rfl rfl rfl ⟨by decide, by decide⟩ rfl rfl (nle rfl) dX0_greatestHeightOfArea_21 ⟨by decide, by decide⟩ 0 rfl rfl) rfl rfl (by decide) (by decide) (fun _ => rfl) (by decide) rfl (k2 := 0) (n2 := 0) rfl rfl (fun z_6 _ p_7 => ?_)
          subst p_7
          have y_5 := hg_bd hs (c := i) (by omega)
          refine z_mmax 27 hC (by decide +kernel) (by decide +kernel) (by decide +kernel) (by decide +kernel) (by decide) (nle rfl) (by decide) (by decide) (by omega) (by omega) dX0_greatestHeightOfArea_24 rfl ?_
          refine z_istoren (lv' := [(2, .int (iI (max (gha s k i) (hg s i)))), (0, .ref h), (1, .int (iI k)), (3, .int (iI i))]) 28 hC dX0_greatestHeightOfArea_27 rfl rfl (by decide) rfl ?_
          refine z_iinc (lv' := [(3, .int (iI (i + 1))), (2, .int (iI (max (gha s k i) (hg s i)))), (0, .ref h), (1, .int (iI k))]) 31 3 hC dX0_greatestHeightOfArea_28 rfl rfl (by decide) rfl ?_
          refine z_goto 4 hC dX0_greatestHeightOfArea_31 (by decide) ?_
          refine z_lv (lv' := [(0, .ref h), (1, .int (iI k)), (2, .int (iI (max (gha s k i) (hg s i)))), (3, .int (iI (i + 1)))]) [2, 3, 1, 0] rfl ?_
          refine z_lveq (lv' := [(0, .ref h), (1, .int (iI k)), (2, .int (iI (gha s k (i + 1)))), (3, .int (iI (i + 1)))]) (zfk (zfk (zlc (by rw [gha_s s k (by omega)]; first | rw [if_neg (by omega)] | rw [if_pos (by omega)]) (zfk rfl)))) ?_
          exact ih4 (i + 1) (by omega) (by omega)
  refine z_lv (lv' := [(0, .ref h), (1, .int (iI k)), (2, .int (iI 0)), (3, .int (iI 0))]) [2, 3, 1, 0] rfl ?_
  refine z_lveq (lv' := [(0, .ref h), (1, .int (iI k)), (2, .int (iI (gha s k 0))), (3, .int (iI 0))]) (zfk (zfk (zlc (by rfl) (zfk rfl)))) ?_
  exact loop4 ((120 - 0 + 1 : Int).toNat) 0 (by omega) (by omega)
set_option maxHeartbeats 4000000 in
set_option maxRecDepth 100000 in
theorem c_X1_requireLevel (l : Launch) (hlf : l.stackTraces = false) (D : va_G) (g : Nat → ClassId) (v : Int) (hv : -2147483648 ≤ v ∧ v ≤ 2147483647) : ZXv (S := Unit) l yX1_requireLevel wsX1_requireLevel ({ frames := 6, cells := 1, slots := 6, locals := 90 }) D g [.int (iI v)] ([]) (fun _ => 0 ≤ v ∧ v ≤ 30) (fun _ => []) (fun Ex => Ex = zXa ∧ ¬ (0 ≤ v ∧ v ≤ 30)) 1 6 := by
  refine ZXv.of hlf (ty := .int) cX1_requireLevel 1 [(0, .int (iI v))] (by decide +kernel) rfl (nle rfl) rfl rfl ?_
  intro E hC hN hX hret hnew hprop
  refine z_iloadn 1 hC 0 dX1_requireLevel_0 rfl rfl rfl ?_
  refine z_if_lt 10 4 hC dX1_requireLevel_1 (by decide) rfl (by omega) (fun c_1 => ?_) (fun c_1 => ?_)
  · skip
    exact hnew (cls := zXa) (text := "the level is not 0 to 30") (by decide +kernel) (by decide +kernel) (by decide +kernel) (by decide +kernel) (by decide +kernel) zn_a zg_a dX1_requireLevel_10 dX1_requireLevel_13 dX1_requireLevel_14 dX1_requireLevel_16 dX1_requireLevel_19 (by decide) (nle rfl) (by decide) (by decide) (by decide) (by decide) (by exact ⟨rfl, by omega⟩)
  · skip
    refine z_iloadn 5 hC 0 dX1_requireLevel_4 rfl rfl rfl ?_
    refine z_bipush 7 hC dX1_requireLevel_5 (by decide) rfl ?_
    refine z_icmp_le 20 10 hC dX1_requireLevel_7 (by decide) rfl (by omega) (by omega) (fun c_2 => ?_) (fun c_2 => ?_)
    · skip
      refine z_widen (k2 := 1) (n2 := 6) (by omega) (by omega) ?_
      exact hret () dX1_requireLevel_20 (by omega)
    · skip
      exact hnew (cls := zXa) (text := "the level is not 0 to 30") (by decide +kernel) (by decide +kernel) (by decide +kernel) (by decide +kernel) (by decide +kernel) zn_a zg_a dX1_requireLevel_10 dX1_requireLevel_13 dX1_requireLevel_14 dX1_requireLevel_16 dX1_requireLevel_19 (by decide) (nle rfl) (by decide) (by decide) (by decide) (by decide) (by exact ⟨rfl, by omega⟩)
set_option maxHeartbeats 4000000 in
set_option maxRecDepth 100000 in
theorem c_X1_requireAmount (l : Launch) (hlf : l.stackTraces = false) (D : va_G) (g : Nat → ClassId) (v : Int) (hv : -2147483648 ≤ v ∧ v ≤ 2147483647) : ZXv (S := Unit) l yX1_requireAmount wsX1_requireAmount ({ frames := 6, cells := 1, slots := 6, locals := 90 }) D g [.int (iI v)] ([]) (fun _ => 1 ≤ v ∧ v ≤ 5) (fun _ => []) (fun Ex => Ex = zXa ∧ ¬ (1 ≤ v ∧ v ≤ 5)) 1 6 := by
  refine ZXv.of hlf (ty := .int) cX1_requireAmount 1 [(0, .int (iI v))] (by decide +kernel) rfl (nle rfl) rfl rfl ?_
  intro E hC hN hX hret hnew hprop
  refine z_iloadn 1 hC 0 dX1_requireAmount_0 rfl rfl rfl ?_
  refine z_iconst 2 hC dX1_requireAmount_1 rfl ?_
  refine z_icmp_lt 10 5 hC dX1_requireAmount_2 (by decide) rfl (by omega) (by omega) (fun c_1 => ?_) (fun c_1 => ?_)
  · skip
    exact hnew (cls := zXa) (text := "n is not 1 to 5") (by decide +kernel) (by decide +kernel) (by decide +kernel) (by decide +kernel) (by decide +kernel) zn_a zg_a dX1_requireAmount_10 dX1_requireAmount_13 dX1_requireAmount_14 dX1_requireAmount_16 dX1_requireAmount_19 (by decide) (nle rfl) (by decide) (by decide) (by decide) (by decide) (by exact ⟨rfl, by omega⟩)
  · skip
    refine z_iloadn 6 hC 0 dX1_requireAmount_5 rfl rfl rfl ?_
    refine z_iconst 7 hC dX1_requireAmount_6 rfl ?_
    refine z_icmp_le 20 10 hC dX1_requireAmount_7 (by decide) rfl (by omega) (by omega) (fun c_2 => ?_) (fun c_2 => ?_)
    · skip
      refine z_widen (k2 := 1) (n2 := 6) (by omega) (by omega) ?_
      exact hret () dX1_requireAmount_20 (by omega)
    · skip
      exact hnew (cls := zXa) (text := "n is not 1 to 5") (by decide +kernel) (by decide +kernel) (by decide +kernel) (by decide +kernel) (by decide +kernel) zn_a zg_a dX1_requireAmount_10 dX1_requireAmount_13 dX1_requireAmount_14 dX1_requireAmount_16 dX1_requireAmount_19 (by decide) (nle rfl) (by decide) (by decide) (by decide) (by decide) (by exact ⟨rfl, by omega⟩)
set_option maxHeartbeats 4000000 in
set_option maxRecDepth 100000 in
theorem c_X1_requireHours (l : Launch) (hlf : l.stackTraces = false) (D : va_G) (g : Nat → ClassId) (v : Int) (M : Int) (hv : -2147483648 ≤ v ∧ v ≤ 2147483647) (hM : -2147483648 ≤ M ∧ M ≤ 2147483647) : ZXv (S := Unit) l yX1_requireHours wsX1_requireHours ({ frames := 6, cells := 1, slots := 6, locals := 90 }) D g [.int (iI v), .int (iI M)] ([]) (fun _ => 1 ≤ v ∧ v ≤ M) (fun _ => []) (fun Ex => Ex = zXa ∧ ¬ (1 ≤ v ∧ v ≤ M)) 1 6 := by
  refine ZXv.of hlf (ty := .int) cX1_requireHours 2 [(0, .int (iI v)), (1, .int (iI M))] (by decide +kernel) rfl (nle rfl) rfl rfl ?_
  intro E hC hN hX hret hnew hprop
  refine z_iloadn 1 hC 0 dX1_requireHours_0 rfl rfl rfl ?_
  refine z_iconst 2 hC dX1_requireHours_1 rfl ?_
  refine z_icmp_lt 10 5 hC dX1_requireHours_2 (by decide) rfl (by omega) (by omega) (fun c_1 => ?_) (fun c_1 => ?_)
  · skip
    exact hnew (cls := zXa) (text := "so many hours are not allowed") (by decide +kernel) (by decide +kernel) (by decide +kernel) (by decide +kernel) (by decide +kernel) zn_a zg_a dX1_requireHours_10 dX1_requireHours_13 dX1_requireHours_14 dX1_requireHours_16 dX1_requireHours_19 (by decide) (nle rfl) (by decide) (by decide) (by decide) (by decide) (by exact ⟨rfl, by omega⟩)
  · skip
    refine z_iloadn 6 hC 0 dX1_requireHours_5 rfl rfl rfl ?_
    refine z_iloadn 7 hC 1 dX1_requireHours_6 rfl rfl rfl ?_
    refine z_icmp_le 20 10 hC dX1_requireHours_7 (by decide) rfl (by omega) (by omega) (fun c_2 => ?_) (fun c_2 => ?_)
    · skip
      refine z_widen (k2 := 1) (n2 := 6) (by omega) (by omega) ?_
      exact hret () dX1_requireHours_20 (by omega)
    · skip
      exact hnew (cls := zXa) (text := "so many hours are not allowed") (by decide +kernel) (by decide +kernel) (by decide +kernel) (by decide +kernel) (by decide +kernel) zn_a zg_a dX1_requireHours_10 dX1_requireHours_13 dX1_requireHours_14 dX1_requireHours_16 dX1_requireHours_19 (by decide) (nle rfl) (by decide) (by decide) (by decide) (by decide) (by exact ⟨rfl, by omega⟩)
set_option maxHeartbeats 4000000 in
set_option maxRecDepth 100000 in
theorem c_X1_requireWhat (l : Launch) (hlf : l.stackTraces = false) (D : va_G) (g : Nat → ClassId) (v : Int) (M : Int) (hv : -2147483648 ≤ v ∧ v ≤ 2147483647) (hM : -2147483648 ≤ M ∧ M ≤ 2147483647) : ZXv (S := Unit) l yX1_requireWhat wsX1_requireWhat ({ frames := 6, cells := 1, slots := 6, locals := 90 }) D g [.int (iI v), .int (iI M)] ([]) (fun _ => 0 ≤ v ∧ v < M) (fun _ => []) (fun Ex => Ex = zXi ∧ ¬ (0 ≤ v ∧ v < M)) 1 6 := by
  refine ZXv.of hlf (ty := .int) cX1_requireWhat 2 [(0, .int (iI v)), (1, .int (iI M))] (by decide +kernel) rfl (nle rfl) rfl rfl ?_
  intro E hC hN hX hret hnew hprop
  refine z_iloadn 1 hC 0 dX1_requireWhat_0 rfl rfl rfl ?_
  refine z_if_lt 9 4 hC dX1_requireWhat_1 (by decide) rfl (by omega) (fun c_1 => ?_) (fun c_1 => ?_)
  · skip
    exact hnew (cls := zXi) (text := "there is no such number to tell") (by decide +kernel) (by decide +kernel) (by decide +kernel) (by decide +kernel) (by decide +kernel) zn_i zg_i dX1_requireWhat_9 dX1_requireWhat_12 dX1_requireWhat_13 dX1_requireWhat_15 dX1_requireWhat_18 (by decide) (nle rfl) (by decide) (by decide) (by decide) (by decide) (by exact ⟨rfl, by omega⟩)
  · skip
    refine z_iloadn 5 hC 0 dX1_requireWhat_4 rfl rfl rfl ?_
    refine z_iloadn 6 hC 1 dX1_requireWhat_5 rfl rfl rfl ?_
    refine z_icmp_lt 19 9 hC dX1_requireWhat_6 (by decide) rfl (by omega) (by omega) (fun c_2 => ?_) (fun c_2 => ?_)
    · skip
      refine z_widen (k2 := 1) (n2 := 6) (by omega) (by omega) ?_
      exact hret () dX1_requireWhat_19 (by omega)
    · skip
      exact hnew (cls := zXi) (text := "there is no such number to tell") (by decide +kernel) (by decide +kernel) (by decide +kernel) (by decide +kernel) (by decide +kernel) zn_i zg_i dX1_requireWhat_9 dX1_requireWhat_12 dX1_requireWhat_13 dX1_requireWhat_15 dX1_requireWhat_18 (by decide) (nle rfl) (by decide) (by decide) (by decide) (by decide) (by exact ⟨rfl, by omega⟩)
set_option maxHeartbeats 4000000 in
set_option maxRecDepth 100000 in
theorem c_X1_requireCell (l : Launch) (hlf : l.stackTraces = false) (D : va_G) (g : Nat → ClassId) (c : Int) (d : Int) (hc : -2147483648 ≤ c ∧ c ≤ 2147483647) (hd : -2147483648 ≤ d ∧ d ≤ 2147483647) : ZXv (S := Unit) l yX1_requireCell wsX1_requireCell ({ frames := 6, cells := 1, slots := 6, locals := 90 }) D g [.int (iI c), .int (iI d)] ([]) (fun _ => 0 ≤ c ∧ c < 12 ∧ 0 ≤ d ∧ d < 10) (fun _ => []) (fun Ex => Ex = zXi ∧ ¬ (0 ≤ c ∧ c < 12 ∧ 0 ≤ d ∧ d < 10)) 1 6 := by
  refine ZXv.of hlf (ty := .int) cX1_requireCell 2 [(0, .int (iI c)), (1, .int (iI d))] (by decide +kernel) rfl (nle rfl) rfl rfl ?_
  intro E hC hN hX hret hnew hprop
  refine z_iloadn 1 hC 0 dX1_requireCell_0 rfl rfl rfl ?_
  refine z_iloadn 2 hC 1 dX1_requireCell_1 rfl rfl rfl ?_
  refine z_calli (wr := []) (w2 := fun _ => []) 5 hC [] [] [] (z_runS (nA := 2) hC hN (c_X1_isOnBeach l D g c d (by omega) (by omega)) [] rfl (by decide) gX1_requireCell_X1_isOnBeach (by decide +kernel) rfl rfl rfl ⟨by decide, by decide⟩ rfl rfl (nle rfl) dX1_requireCell_2 ⟨by decide, by decide⟩) rfl rfl (by decide) (by decide) (fun _ => rfl) (by decide) rfl (k2 := 0) (n2 := 0) rfl rfl (fun z_1 _ p_2 => ?_)
  refine z_if_ne 18 8 hC dX1_requireCell_5 (by decide) rfl (by omega) (fun c_3 => ?_) (fun c_3 => ?_)
  · skip
    refine z_widen (k2 := 1) (n2 := 6) (by omega) (by omega) ?_
    exact hret () dX1_requireCell_18 (by omega)
  · skip
    exact hnew (cls := zXi) (text := "there is no such cell") (by decide +kernel) (by decide +kernel) (by decide +kernel) (by decide +kernel) (by decide +kernel) zn_i zg_i dX1_requireCell_8 dX1_requireCell_11 dX1_requireCell_12 dX1_requireCell_14 dX1_requireCell_17 (by decide) (nle rfl) (by decide) (by decide) (by decide) (by decide) (by exact ⟨rfl, by omega⟩)
set_option maxHeartbeats 4000000 in
set_option maxRecDepth 100000 in
theorem c_X1_requireArea (l : Launch) (hlf : l.stackTraces = false) (D : va_G) (g : Nat → ClassId) (k : Int) (c : Int) (d : Int) (hk : -2147483648 ≤ k ∧ k ≤ 2147483647) (hc : -2147483648 ≤ c ∧ c ≤ 2147483647) (hd : -2147483648 ≤ d ∧ d ≤ 2147483647) : ZXv (S := Unit) l yX1_requireArea wsX1_requireArea ({ frames := 6, cells := 1, slots := 6, locals := 90 }) D g [.int (iI k), .int (iI c), .int (iI d)] ([]) (fun _ => 0 ≤ c ∧ c < 12 ∧ 0 ≤ d ∧ d < 10 ∧ c / 3 = k) (fun _ => []) (fun Ex => Ex = zXa ∧ ¬ (0 ≤ c ∧ c < 12 ∧ 0 ≤ d ∧ d < 10 ∧ c / 3 = k)) 1 6 := by
  refine ZXv.of hlf (ty := .int) cX1_requireArea 3 [(0, .int (iI k)), (1, .int (iI c)), (2, .int (iI d))] (by decide +kernel) rfl (nle rfl) rfl rfl ?_
  intro E hC hN hX hret hnew hprop
  refine z_iloadn 1 hC 1 dX1_requireArea_0 rfl rfl rfl ?_
  refine z_iloadn 2 hC 2 dX1_requireArea_1 rfl rfl rfl ?_
  refine z_calli (wr := []) (w2 := fun _ => []) 5 hC [] [] [] (z_runS (nA := 2) hC hN (c_X1_isOnBeach l D g c d (by omega) (by omega)) [] rfl (by decide) gX1_requireArea_X1_isOnBeach (by decide +kernel) rfl rfl rfl ⟨by decide, by decide⟩ rfl rfl (nle rfl) dX1_requireArea_2 ⟨by decide, by decide⟩) rfl rfl (by decide) (by decide) (fun _ => rfl) (by decide) rfl (k2 := 0) (n2 := 0) rfl rfl (fun z_1 _ p_2 => ?_)
  refine z_if_eq 20 8 hC dX1_requireArea_5 (by decide) rfl (by omega) (fun c_3 => ?_) (fun c_3 => ?_)
  · skip
    exact hnew (cls := zXa) (text := "the cell is not in the area of the team") (by decide +kernel) (by decide +kernel) (by decide +kernel) (by decide +kernel) (by decide +kernel) zn_a zg_a dX1_requireArea_20 dX1_requireArea_23 dX1_requireArea_24 dX1_requireArea_26 dX1_requireArea_29 (by decide) (nle rfl) (by decide) (by decide) (by decide) (by decide) (by exact ⟨rfl, by omega⟩)
  · skip
    refine z_iloadn 9 hC 0 dX1_requireArea_8 rfl rfl rfl ?_
    refine z_iloadn 10 hC 1 dX1_requireArea_9 rfl rfl rfl ?_
    refine z_iloadn 11 hC 2 dX1_requireArea_10 rfl rfl rfl ?_
    refine z_calli (wr := []) (w2 := fun _ => []) 14 hC [] [] [] (z_runS (nA := 2) hC hN (c_X1_cellAt l D g c d ) [] rfl (by decide) gX1_requireArea_X1_cellAt (by decide +kernel) rfl rfl rfl ⟨by decide, by decide⟩ rfl rfl (nle rfl) dX1_requireArea_11 ⟨by decide, by decide⟩) rfl rfl (by decide) (by decide) (fun _ => rfl) (by decide) rfl (k2 := 0) (n2 := 0) rfl rfl (fun z_4 _ p_5 => ?_)
    subst p_5
    refine z_calli (wr := []) (w2 := fun _ => []) 17 hC [] [] [] (z_runS (nA := 2) hC hN (c_X1_isInArea l D g k (c + 12 * d) (by omega) (by omega)) [] rfl (by decide) gX1_requireArea_X1_isInArea (by decide +kernel) rfl rfl rfl ⟨by decide, by decide⟩ rfl rfl (nle rfl) dX1_requireArea_14 ⟨by decide, by decide⟩) rfl rfl (by decide) (by decide) (fun _ => rfl) (by decide) rfl (k2 := 0) (n2 := 0) rfl rfl (fun z_6 _ p_7 => ?_)
    refine z_if_ne 30 20 hC dX1_requireArea_17 (by decide) rfl (by omega) (fun c_8 => ?_) (fun c_8 => ?_)
    · skip
      refine z_widen (k2 := 1) (n2 := 6) (by omega) (by omega) ?_
      exact hret () dX1_requireArea_30 (by omega)
    · skip
      exact hnew (cls := zXa) (text := "the cell is not in the area of the team") (by decide +kernel) (by decide +kernel) (by decide +kernel) (by decide +kernel) (by decide +kernel) zn_a zg_a dX1_requireArea_20 dX1_requireArea_23 dX1_requireArea_24 dX1_requireArea_26 dX1_requireArea_29 (by decide) (nle rfl) (by decide) (by decide) (by decide) (by decide) (by exact ⟨rfl, by omega⟩)
set_option maxHeartbeats 4000000 in
set_option maxRecDepth 100000 in
theorem c_X1_requireTeam (l : Launch) (hlf : l.stackTraces = false) (D : va_G) (g : Nat → ClassId) (x : Nat) (b : Nat → Nat) (sh tr : Nat) (td bu sr lg : Int → Int) (tm hr en : Int) (k : Int) (hk : -2147483648 ≤ k ∧ k ≤ 2147483647) (htm : 0 ≤ tm ∧ tm ≤ 4) : ZXv (S := Unit) l yX1_requireTeam wsX1_requireTeam ({ frames := 6, cells := 1, slots := 6, locals := 90 }) D g [.ref x, .int (iI k)] (wLe g x b sh tr td bu sr lg tm hr en) (fun _ => 0 ≤ k ∧ k < tm) (fun _ => wLe g x b sh tr td bu sr lg tm hr en) (fun Ex => Ex = zXi ∧ ¬ (0 ≤ k ∧ k < tm)) 1 6 := by
  have hinX1 : ∀ w ∈ u_ws RX1 TX1 9, w ∈ wsX1_requireTeam := by decide +kernel
  have L43 : Cond.fieldLink RX1 43 "SandcastleLeague" "teams" "I" ∈ wsX1_requireTeam := by decide +kernel
  refine ZXv.of hlf (ty := .int) cX1_requireTeam 2 [(0, .ref x), (1, .int (iI k))] (by decide +kernel) rfl (nle rfl) rfl rfl ?_
  intro E hC hN hX hret hnew hprop
  refine z_iloadn 1 hC 1 dX1_requireTeam_0 rfl rfl rfl ?_
  refine z_if_lt 12 4 hC dX1_requireTeam_1 (by decide) rfl (by omega) (fun c_1 => ?_) (fun c_1 => ?_)
  · skip
    exact hnew (cls := zXi) (text := "there is no such team") (by decide +kernel) (by decide +kernel) (by decide +kernel) (by decide +kernel) (by decide +kernel) zn_i zg_i dX1_requireTeam_12 dX1_requireTeam_15 dX1_requireTeam_16 dX1_requireTeam_18 dX1_requireTeam_21 (by decide) (nle rfl) (by decide) (by decide) (by decide) (by decide) (by exact ⟨rfl, by omega⟩)
  · skip
    refine z_iloadn 5 hC 1 dX1_requireTeam_4 rfl rfl rfl ?_
    refine z_aloadn 6 hC 0 dX1_requireTeam_5 rfl rfl rfl ?_
    refine z_get 9 0 6 hC hinX1 L43 dX1_requireTeam_6 rfl rfl rfl (by decide) rfl ?_
    refine z_icmp_lt 22 12 hC dX1_requireTeam_9 (by decide) rfl (by omega) (by omega) (fun c_2 => ?_) (fun c_2 => ?_)
    · skip
      refine z_widen (k2 := 1) (n2 := 6) (by omega) (by omega) ?_
      exact hret () dX1_requireTeam_22 (by omega)
    · skip
      exact hnew (cls := zXi) (text := "there is no such team") (by decide +kernel) (by decide +kernel) (by decide +kernel) (by decide +kernel) (by decide +kernel) zn_i zg_i dX1_requireTeam_12 dX1_requireTeam_15 dX1_requireTeam_16 dX1_requireTeam_18 dX1_requireTeam_21 (by decide) (nle rfl) (by decide) (by decide) (by decide) (by decide) (by exact ⟨rfl, by omega⟩)
set_option maxHeartbeats 4000000 in
set_option maxRecDepth 100000 in
theorem c_X1_requireStrength (l : Launch) (hlf : l.stackTraces = false) (D : va_G) (g : Nat → ClassId) (x : Nat) (b : Nat → Nat) (sh tr : Nat) (td bu sr lg : Int → Int) (tm hr en : Int) (k : Int) (hk : 0 ≤ k ∧ k < 4) (hsr : Bd sr 4 0 20) : ZXv (S := Unit) l yX1_requireStrength wsX1_requireStrength ({ frames := 6, cells := 1, slots := 6, locals := 90 }) D g [.ref x, .int (iI k)] (wLe g x b sh tr td bu sr lg tm hr en) (fun _ => 0 < sr k) (fun _ => wLe g x b sh tr td bu sr lg tm hr en) (fun Ex => Ex = zXs ∧ sr k ≤ 0) 1 6 := by
  have hinX1 : ∀ w ∈ u_ws RX1 TX1 9, w ∈ wsX1_requireStrength := by decide +kernel
  have L34 : Cond.fieldLink RX1 34 "SandcastleLeague" "strength" "[I" ∈ wsX1_requireStrength := by decide +kernel
  refine ZXv.of hlf (ty := .int) cX1_requireStrength 2 [(0, .ref x), (1, .int (iI k))] (by decide +kernel) rfl (nle rfl) rfl rfl ?_
  intro E hC hN hX hret hnew hprop
  refine z_aloadn 1 hC 0 dX1_requireStrength_0 rfl rfl rfl ?_
  refine z_get 4 0 4 hC hinX1 L34 dX1_requireStrength_1 rfl rfl rfl (by decide) rfl ?_
  refine z_iloadn 5 hC 1 dX1_requireStrength_4 rfl rfl rfl ?_
  refine z_iald 6 3 hC dX1_requireStrength_5 rfl rfl (by decide) (by omega) ?_
  have b_1 := hsr k (by omega) (by omega)
  refine z_if_gt 19 9 hC dX1_requireStrength_6 (by decide) rfl (by omega) (fun c_2 => ?_) (fun c_2 => ?_)
  · skip
    refine z_widen (k2 := 1) (n2 := 6) (by omega) (by omega) ?_
    exact hret () dX1_requireStrength_19 (by omega)
  · skip
    exact hnew (cls := zXs) (text := "the team has no strength left") (by decide +kernel) (by decide +kernel) (by decide +kernel) (by decide +kernel) (by decide +kernel) zn_s zg_s dX1_requireStrength_9 dX1_requireStrength_12 dX1_requireStrength_13 dX1_requireStrength_15 dX1_requireStrength_18 (by decide) (nle rfl) (by decide) (by decide) (by decide) (by decide) (by exact ⟨rfl, by omega⟩)
