/-! the model -/
/-- the cells of a model -/
def wMo (g : Nat → ClassId) (m : Nat) (b : Nat → Nat) (th hr tm en lo sl fa : Int) (s f w k q td ov : Int → Int) : va_W := [(m, .inr (2, [.int (iI th), .int (iI hr), .int (iI tm), .int (iI en), .int (iI lo), .int (iI sl), .int (iI fa), .ref (b 0), .ref (b 1), .ref (b 2), .ref (b 3), .ref (b 4), .ref (b 5), .ref (b 6)])), (b 0, ar g 120 s), (b 1, ar g 120 f), (b 2, ar g 120 w), (b 3, ar g 120 k), (b 4, ar g 16 q), (b 5, ar g 12 td), (b 6, ar g 120 ov)]
def tbl (tm : Int) (bu sr lg t : Int → Int) : Int → Int := fun j => if tm ≤ j / 4 then 0 else if j % 4 = 0 then bu (j / 4) else if j % 4 = 1 then sr (j / 4) else if j % 4 = 2 then t (j / 4) else lg (j / 4)
theorem tbl_0 {tm : Int} {bu sr lg t : Int → Int} {k : Int} (h : 0 ≤ k ∧ k < tm) : tbl tm bu sr lg t (4 * k + 0) = bu k := by
  have e : (4 * k + 0) / 4 = k := by omega
  unfold tbl
  rw [e, if_neg (by omega), if_pos (by omega)]
theorem tbl_1 {tm : Int} {bu sr lg t : Int → Int} {k : Int} (h : 0 ≤ k ∧ k < tm) : tbl tm bu sr lg t (4 * k + 1) = sr k := by
  have e : (4 * k + 1) / 4 = k := by omega
  unfold tbl
  rw [e, if_neg (by omega), if_neg (by omega), if_pos (by omega)]
theorem tbl_2 {tm : Int} {bu sr lg t : Int → Int} {k : Int} (h : 0 ≤ k ∧ k < tm) : tbl tm bu sr lg t (4 * k + 2) = t k := by
  have e : (4 * k + 2) / 4 = k := by omega
  unfold tbl
  rw [e, if_neg (by omega), if_neg (by omega), if_neg (by omega), if_pos (by omega)]
theorem tbl_3 {tm : Int} {bu sr lg t : Int → Int} {k : Int} (h : 0 ≤ k ∧ k < tm) : tbl tm bu sr lg t (4 * k + 3) = lg k := by
  have e : (4 * k + 3) / 4 = k := by omega
  unfold tbl
  rw [e, if_neg (by omega), if_neg (by omega), if_neg (by omega), if_neg (by omega)]
theorem tbl_u0 {tm : Int} {bu sr lg t : Int → Int} {k v : Int} (h : 0 ≤ k ∧ k < tm) (j : Int) : up (tbl tm bu sr lg t) (4 * k + 0) v j = tbl tm (up bu k v) sr lg t j := by
  by_cases e : j = 4 * k + 0
  · rw [e, up_same, tbl_0 h, up_same]
  · rw [up_ne e]
    unfold tbl
    rcases (by omega : ¬ j % 4 = 0 ∨ ¬ j / 4 = k) with c | c
    · simp only [c, if_false]
    · rw [up_ne c]
theorem tbl_u1 {tm : Int} {bu sr lg t : Int → Int} {k v : Int} (h : 0 ≤ k ∧ k < tm) (j : Int) : up (tbl tm bu sr lg t) (4 * k + 1) v j = tbl tm bu (up sr k v) lg t j := by
  by_cases e : j = 4 * k + 1
  · rw [e, up_same, tbl_1 h, up_same]
  · rw [up_ne e]
    unfold tbl
    rcases (by omega : ¬ j % 4 = 1 ∨ ¬ j / 4 = k) with c | c
    · simp only [c, if_false]
    · rw [up_ne c]
theorem tbl_u2 {tm : Int} {bu sr lg t : Int → Int} {k v : Int} (h : 0 ≤ k ∧ k < tm) (j : Int) : up (tbl tm bu sr lg t) (4 * k + 2) v j = tbl tm bu sr lg (up t k v) j := by
  by_cases e : j = 4 * k + 2
  · rw [e, up_same, tbl_2 h, up_same]
  · rw [up_ne e]
    unfold tbl
    rcases (by omega : ¬ j % 4 = 2 ∨ ¬ j / 4 = k) with c | c
    · simp only [c, if_false]
    · rw [up_ne c]
theorem tbl_u3 {tm : Int} {bu sr lg t : Int → Int} {k v : Int} (h : 0 ≤ k ∧ k < tm) (j : Int) : up (tbl tm bu sr lg t) (4 * k + 3) v j = tbl tm bu sr (up lg k v) t j := by
  by_cases e : j = 4 * k + 3
  · rw [e, up_same, tbl_3 h, up_same]
  · rw [up_ne e]
    unfold tbl
    rcases (by omega : j % 4 = 0 ∨ j % 4 = 1 ∨ j % 4 = 2 ∨ ¬ j / 4 = k) with c | c | c | c
    · simp only [c, if_true]
    · simp [c]
    · simp [c]
    · rw [up_ne c]
/-- sticks as the model keeps them -/
def kOf (o p : Int → Int) : Int → Int := fun j => if o j = -1 then 0 else p j + 1
def mst (k : Int → Int) (t : Int) : Int := sumI (fun j => if 0 < k j ∧ (t = -1 ∨ j % 12 / 3 = t) then 1 else 0) 120
def mar (s w : Int → Int) (t x i : Int) : Int := foI (fun j y => if t ≠ -1 ∧ j % 12 / 3 ≠ t then y else if x = 5 then max y (hg s j) else y + (if x = 4 then s j else w j)) 0 i
theorem mar_s (s w : Int → Int) (t x : Int) {i : Int} (h : 0 ≤ i) : mar s w t x (i + 1) = if t ≠ -1 ∧ i % 12 / 3 ≠ t then mar s w t x i else if x = 5 then max (mar s w t x i) (hg s i) else mar s w t x i + (if x = 4 then s i else w i) := foI_s _ _ h
theorem mar_bd {s w : Int → Int} (hs : Bd s 120 0 20) (hw : Bd w 120 0 1) (t x : Int) {i : Int} (h0 : 0 ≤ i) (h1 : i ≤ 120) : 0 ≤ mar s w t x i ∧ mar s w t x i ≤ 38 * i := by
  have key : ∀ n : Nat, (n : Int) ≤ 120 → 0 ≤ mar s w t x (n : Int) ∧ mar s w t x (n : Int) ≤ 38 * (n : Int) := by
    intro n
    induction n with
    | zero => intro _; exact ⟨Int.le_refl 0, Int.le_refl 0⟩
    | succ n ih =>
      intro hn
      have e : ((n + 1 : Nat) : Int) = (n : Int) + 1 := by omega
      have h2 := hg_bd hs (c := (n : Int)) (by omega)
      have h3 := hs n (by omega) (by omega)
      have h4 := hw n (by omega) (by omega)
      have h5 := ih (by omega)
      rw [e, mar_s s w t x (by omega)]
      split
      · omega
      · split
        · omega
        · split <;> omega
  have := key i.toNat (by omega)
  rwa [Int.toNat_of_nonneg h0] at this
def mcT (s f w k : Int → Int) (c x : Int) : Int := if x = 0 then s c else if x = 1 then f c else if x = 2 then hg s c else if x = 3 then w c else if x = 4 then (if 0 < k c then 1 else 0) else max 0 (k c - 1)
def SI (tm : Int) (S : SS) : Prop := ∀ j : Int, 0 ≤ j → j < 120 → (ssO S j = -1 ∧ ssP S j = 0) ∨ (ssO S j = j % 12 / 3 ∧ j % 12 / 3 < tm ∧ 0 ≤ ssP S j)
theorem kOf_bd {S : SS} (h : SB S) : Bd (kOf (ssO S) (ssP S)) 120 0 39 := by
  intro j a b
  have := h.2.2.2.2 j a b
  unfold kOf
  split <;> omega
theorem mst_bd (k : Int → Int) (t : Int) : 0 ≤ mst k t ∧ mst k t ≤ 120 := by
  have h2 : Bd (fun j => if 0 < k j ∧ (t = -1 ∨ j % 12 / 3 = t) then 1 else 0) 120 0 1 := fun j _ _ => by
    show 0 ≤ (if 0 < k j ∧ (t = -1 ∨ j % 12 / 3 = t) then (1 : Int) else 0) ∧ (if 0 < k j ∧ (t = -1 ∨ j % 12 / 3 = t) then (1 : Int) else 0) ≤ 1
    omega
  have := sumI_bd h2 (i := 120) (by omega) (by omega)
  unfold mst
  omega
set_option maxHeartbeats 4000000 in
set_option maxRecDepth 100000 in
theorem c_X2_fill (l : Launch) (D : va_G) (g : Nat → ClassId) (x N : Nat) (f : Int → Int) (v : Int) (hN : N < 2147483647) : ZMv (S := Unit) l yX2_fill wsX2_fill ({ frames := 0, cells := 0, slots := 0, locals := 0 }) D g [.ref x, .int (iI v)] ([(x, ar g N f)]) (fun _ => True) (fun _ => [(x, ar g N (fun _ => v))]) 0 0 := by
  refine ZMv.of (ty := .int) (own := RX2) cX2_fill 3 [(0, .ref x), (1, .int (iI v))] (by decide +kernel) rfl (nle rfl) rfl rfl ?_
  intro E hC hN hret
  refine z_iconst 1 hC dX2_fill_0 rfl ?_
  refine z_istoren (lv' := [(2, .int (iI 0)), (0, .ref x), (1, .int (iI v))]) 2 hC dX2_fill_1 rfl rfl (by decide) rfl ?_
  have loop2 : ∀ (N2 : Nat) (i : Int), 0 ≤ i ∧ i ≤ ((N : Nat) : Int) → (((N : Nat) : Int) - i : Int) < N2 → Z E ([(x, ar g N (fun j => if j < i then v else f j))]) [(0, .ref x), (1, .int (iI v)), (2, .int (iI i))] 0 0 2 [] := by
    intro N2
    induction N2 with
    | zero => intro i hi hm2; exact absurd hm2 (by omega)
    | succ N2 ih2 =>
      intro i hi hm2
      refine z_iloadn 3 hC 2 dX2_fill_2 rfl rfl rfl ?_
      refine z_aloadn 4 hC 0 dX2_fill_3 rfl rfl rfl ?_
      refine z_alen 5 0 hC dX2_fill_4 rfl rfl (by unfold iI; exact (Int32.ofInt_eq_ofNat).symm) ?_
      refine z_icmp_ge 18 8 hC dX2_fill_5 (by decide) rfl (by omega) (by omega) (fun c_1 => ?_) (fun c_1 => ?_)
      · skip
        refine z_weq (ws' := [(x, ar g N (fun _ => v))]) (zEq.cons (zE1.arr (by first | (intro j h0 h1; rfl) | (intro j h0 h1; exact if_pos (by omega)))) zEq.nil) ?_
        exact hret () dX2_fill_18 (by trivial)
      · skip
        refine z_aloadn 9 hC 0 dX2_fill_8 rfl rfl rfl ?_
        refine z_iloadn 10 hC 2 dX2_fill_9 rfl rfl rfl ?_
        refine z_iloadn 11 hC 1 dX2_fill_10 rfl rfl rfl ?_
        refine z_iast (ws' := [(x, ar g N (up (fun j => if j < i then v else f j) i v))]) 12 0 hC dX2_fill_11 rfl rfl (by omega) (by omega) rfl ?_
        refine z_iinc (lv' := [(2, .int (iI (i + 1))), (0, .ref x), (1, .int (iI v))]) 15 2 hC dX2_fill_12 rfl rfl (by decide) rfl ?_
        refine z_goto 2 hC dX2_fill_15 (by decide) ?_
        refine z_lv (lv' := [(0, .ref x), (1, .int (iI v)), (2, .int (iI (i + 1)))]) [1, 2, 0] rfl ?_
        refine z_weq (ws' := [(x, ar g N (fun j => if j < (i + 1) then v else f j))]) (zEq.cons (zE1.arr (by first | (intro j h0 h1; rfl) | (intro j h0 h1; by_cases e : j = i; exact (if_pos e).trans (if_pos (by omega)).symm; refine (if_neg e).trans ?_; by_cases e2 : j < i; exact (if_pos e2).trans (if_pos (by omega)).symm; exact (if_neg e2).trans (if_neg (by omega)).symm))) zEq.nil) ?_
        exact ih2 (i + 1) (by omega) (by omega)
  refine z_lv (lv' := [(0, .ref x), (1, .int (iI v)), (2, .int (iI 0))]) [1, 2, 0] rfl ?_
  refine z_weq (ws' := [(x, ar g N (fun j => if j < 0 then v else f j))]) (zEq.cons (zE1.arr (by first | (intro j h0 h1; rfl) | (intro j h0 h1; exact (if_neg (by omega)).symm))) zEq.nil) ?_
  exact loop2 ((((N : Nat) : Int) - 0 + 1 : Int).toNat) 0 (by omega) (by omega)
set_option maxHeartbeats 4000000 in
set_option maxRecDepth 100000 in
theorem c_X2_thrown (l : Launch) (D : va_G) (g : Nat → ClassId) (m : Nat) (b : Nat → Nat) (th hr tm en lo sl fa : Int) (s f w k q td ov : Int → Int)  : ZMi (S := Unit) l yX2_thrown wsX2_thrown ({ frames := 0, cells := 0, slots := 0, locals := 0 }) D g [.ref m] (wMo g m b th hr tm en lo sl fa s f w k q td ov) (fun z _ => z = th) (fun _ => wMo g m b th hr tm en lo sl fa s f w k q td ov) 0 0 := by
  have hinX2 : ∀ w ∈ u_ws RX2 TX2 14, w ∈ wsX2_thrown := by decide +kernel
  have L35 : Cond.fieldLink RX2 35 "SandcastleLeagueModel" "thrown" "I" ∈ wsX2_thrown := by decide +kernel
  refine ZMi.of (own := RX2) cX2_thrown 1 [(0, .ref m)] (by decide +kernel) rfl (nle rfl) rfl rfl ?_
  intro E hC hN hret
  refine z_aloadn 1 hC 0 dX2_thrown_0 rfl rfl rfl ?_
  refine z_get 4 0 0 hC hinX2 L35 dX2_thrown_1 rfl rfl rfl (by decide) rfl ?_
  exact hret () dX2_thrown_4 rfl (by rfl)
set_option maxHeartbeats 4000000 in
set_option maxRecDepth 100000 in
theorem c_X2_fail (l : Launch) (D : va_G) (g : Nat → ClassId) (m : Nat) (b : Nat → Nat) (th hr tm en lo sl fa : Int) (s f w k q td ov : Int → Int) (c : Int) : ZMi (S := Unit) l yX2_fail wsX2_fail ({ frames := 0, cells := 0, slots := 0, locals := 0 }) D g [.ref m, .int (iI c)] (wMo g m b th hr tm en lo sl fa s f w k q td ov) (fun z _ => z = 0) (fun _ => wMo g m b c hr tm en lo sl fa s f w k q td ov) 0 0 := by
  have hinX2 : ∀ w ∈ u_ws RX2 TX2 14, w ∈ wsX2_fail := by decide +kernel
  have L35 : Cond.fieldLink RX2 35 "SandcastleLeagueModel" "thrown" "I" ∈ wsX2_fail := by decide +kernel
  refine ZMi.of (own := RX2) cX2_fail 2 [(0, .ref m), (1, .int (iI c))] (by decide +kernel) rfl (nle rfl) rfl rfl ?_
  intro E hC hN hret
  refine z_aloadn 1 hC 0 dX2_fail_0 rfl rfl rfl ?_
  refine z_iloadn 2 hC 1 dX2_fail_1 rfl rfl rfl ?_
  refine z_put (ty := .int) (ws' := wMo g m b c hr tm en lo sl fa s f w k q td ov) 5 0 0 hC tyX2 tyX2_ok nmX2 hinX2 L35 dX2_fail_2 rfl rfl rfl (by decide) rfl (by decide +kernel) rfl rfl (nle rfl) rfl ?_
  refine z_iconst 6 hC dX2_fail_5 rfl ?_
  exact hret () dX2_fail_6 rfl (by rfl)
set_option maxHeartbeats 4000000 in
set_option maxRecDepth 100000 in
theorem c_X2_isIn (l : Launch) (D : va_G) (g : Nat → ClassId) (v : Int) (c : Int) (d : Int) (hv : -2147483648 ≤ v ∧ v ≤ 2147483647) (hc : -2147483648 ≤ c ∧ c ≤ 2147483647) (hd : -2147483648 ≤ d ∧ d ≤ 2147483647) : ZMi (S := Unit) l yX2_isIn wsX2_isIn ({ frames := 0, cells := 0, slots := 0, locals := 0 }) D g [.int (iI v), .int (iI c), .int (iI d)] ([]) (fun z _ => (z = 0 ∨ z = 1) ∧ (z = 1 ↔ c ≤ v ∧ v ≤ d)) (fun _ => []) 0 0 := by
  refine ZMi.of (own := RX2) cX2_isIn 3 [(0, .int (iI v)), (1, .int (iI c)), (2, .int (iI d))] (by decide +kernel) rfl (nle rfl) rfl rfl ?_
  intro E hC hN hret
  refine z_iloadn 1 hC 0 dX2_isIn_0 rfl rfl rfl ?_
  refine z_iloadn 2 hC 1 dX2_isIn_1 rfl rfl rfl ?_
  refine z_icmp_lt 14 5 hC dX2_isIn_2 (by decide) rfl (by omega) (by omega) (fun c_1 => ?_) (fun c_1 => ?_)
  · skip
    refine z_iconst 15 hC dX2_isIn_14 rfl ?_
    exact hret () dX2_isIn_15 (by decide) (by omega)
  · skip
    refine z_iloadn 6 hC 0 dX2_isIn_5 rfl rfl rfl ?_
    refine z_iloadn 7 hC 2 dX2_isIn_6 rfl rfl rfl ?_
    refine z_icmp_gt 14 10 hC dX2_isIn_7 (by decide) rfl (by omega) (by omega) (fun c_2 => ?_) (fun c_2 => ?_)
    · skip
      refine z_iconst 15 hC dX2_isIn_14 rfl ?_
      exact hret () dX2_isIn_15 (by decide) (by omega)
    · skip
      refine z_iconst 11 hC dX2_isIn_10 rfl ?_
      refine z_goto 15 hC dX2_isIn_11 (by decide) ?_
      exact hret () dX2_isIn_15 (by decide) (by omega)
set_option maxHeartbeats 4000000 in
set_option maxRecDepth 100000 in
theorem c_X2_isTeam (l : Launch) (D : va_G) (g : Nat → ClassId) (m : Nat) (b : Nat → Nat) (th hr tm en lo sl fa : Int) (s f w k q td ov : Int → Int) (c : Int) (hc : -2147483648 ≤ c ∧ c ≤ 2147483647) (htm : 0 ≤ tm ∧ tm ≤ 4) : ZMi (S := Unit) l yX2_isTeam wsX2_isTeam ({ frames := 1, cells := 0, slots := 0, locals := 40 }) D g [.ref m, .int (iI c)] (wMo g m b th hr tm en lo sl fa s f w k q td ov) (fun z _ => (z = 0 ∨ z = 1) ∧ (z = 1 ↔ 0 ≤ c ∧ c < tm)) (fun _ => wMo g m b th hr tm en lo sl fa s f w k q td ov) 0 0 := by
  have hinX2 : ∀ w ∈ u_ws RX2 TX2 14, w ∈ wsX2_isTeam := by decide +kernel
  have L39 : Cond.fieldLink RX2 39 "SandcastleLeagueModel" "teams" "I" ∈ wsX2_isTeam := by decide +kernel
  refine ZMi.of (own := RX2) cX2_isTeam 2 [(0, .ref m), (1, .int (iI c))] (by decide +kernel) rfl (nle rfl) rfl rfl ?_
  intro E hC hN hret
  refine z_iloadn 1 hC 1 dX2_isTeam_0 rfl rfl rfl ?_
  refine z_iconst 2 hC dX2_isTeam_1 rfl ?_
  refine z_aloadn 3 hC 0 dX2_isTeam_2 rfl rfl rfl ?_
  refine z_get 6 0 2 hC hinX2 L39 dX2_isTeam_3 rfl rfl rfl (by decide) rfl ?_
  refine z_iconst 7 hC dX2_isTeam_6 rfl ?_
  refine z_isub 8 hC dX2_isTeam_7 rfl ?_
  refine z_calli (wr := [(m, .inr (2, [.int (iI th), .int (iI hr), .int (iI tm), .int (iI en), .int (iI lo), .int (iI sl), .int (iI fa), .ref (b 0), .ref (b 1), .ref (b 2), .ref (b 3), .ref (b 4), .ref (b 5), .ref (b 6)])), ((b 0), ar g 120 s), ((b 1), ar g 120 f), ((b 2), ar g 120 w), ((b 3), ar g 120 k), ((b 4), ar g 16 q), ((b 5), ar g 12 td), ((b 6), ar g 120 ov)]) (w2 := fun _ => wMo g m b th hr tm en lo sl fa s f w k q td ov) 11 hC [] [0, 1, 2, 3, 4, 5, 6, 7] [0, 1, 2, 3, 4, 5, 6, 7] (z_runS (nA := 3) hC hN (c_X2_isIn l D g c 0 (tm - 1) (by omega) (by omega) (by omega)) [] rfl (by decide) gX2_isTeam_X2_isIn (by decide +kernel) rfl rfl rfl ⟨by decide, by decide⟩ rfl rfl (nle rfl) dX2_isTeam_8 ⟨by decide, by decide⟩) rfl rfl (by decide) (by decide) (fun _ => rfl) (by decide) rfl (k2 := 0) (n2 := 0) rfl rfl (fun z_1 _ p_2 => ?_)
  exact hret () dX2_isTeam_11 (znb (by omega)) (by omega)
set_option maxHeartbeats 4000000 in
set_option maxRecDepth 100000 in
theorem c_X2_get (l : Launch) (D : va_G) (g : Nat → ClassId) (m : Nat) (b : Nat → Nat) (th hr tm en lo sl fa : Int) (s f w k q td ov : Int → Int) (c : Int) (v : Int) (hc : 0 ≤ c ∧ c < 4) (hv : 0 ≤ v ∧ v < 4) : ZMi (S := Unit) l yX2_get wsX2_get ({ frames := 0, cells := 0, slots := 0, locals := 0 }) D g [.ref m, .int (iI c), .int (iI v)] (wMo g m b th hr tm en lo sl fa s f w k q td ov) (fun z _ => z = q (4 * c + v)) (fun _ => wMo g m b th hr tm en lo sl fa s f w k q td ov) 0 0 := by
  have hinX2 : ∀ w ∈ u_ws RX2 TX2 14, w ∈ wsX2_get := by decide +kernel
  have L22 : Cond.fieldLink RX2 22 "SandcastleLeagueModel" "table" "[I" ∈ wsX2_get := by decide +kernel
  refine ZMi.of (own := RX2) cX2_get 3 [(0, .ref m), (1, .int (iI c)), (2, .int (iI v))] (by decide +kernel) rfl (nle rfl) rfl rfl ?_
  intro E hC hN hret
  refine z_aloadn 1 hC 0 dX2_get_0 rfl rfl rfl ?_
  refine z_get 4 0 11 hC hinX2 L22 dX2_get_1 rfl rfl rfl (by decide) rfl ?_
  refine z_iconst 5 hC dX2_get_4 rfl ?_
  refine z_iloadn 6 hC 1 dX2_get_5 rfl rfl rfl ?_
  refine z_imul 7 hC dX2_get_6 rfl ?_
  refine z_iloadn 8 hC 2 dX2_get_7 rfl rfl rfl ?_
  refine z_iadd 9 hC dX2_get_8 rfl ?_
  refine z_iald 10 5 hC dX2_get_9 rfl rfl (by decide) (by omega) ?_
  exact hret () dX2_get_10 rfl (by rfl)
set_option maxHeartbeats 4000000 in
set_option maxRecDepth 100000 in
theorem c_X2_add (l : Launch) (D : va_G) (g : Nat → ClassId) (m : Nat) (b : Nat → Nat) (th hr tm en lo sl fa : Int) (s f w k q td ov : Int → Int) (c : Int) (v : Int) (d : Int) (hc : 0 ≤ c ∧ c < 4) (hv : 0 ≤ v ∧ v < 4) : ZMv (S := Unit) l yX2_add wsX2_add ({ frames := 0, cells := 0, slots := 0, locals := 0 }) D g [.ref m, .int (iI c), .int (iI v), .int (iI d)] (wMo g m b th hr tm en lo sl fa s f w k q td ov) (fun _ => True) (fun _ => wMo g m b th hr tm en lo sl fa s f w k (up q (4 * c + v) (q (4 * c + v) + d)) td ov) 0 0 := by
  have hinX2 : ∀ w ∈ u_ws RX2 TX2 14, w ∈ wsX2_add := by decide +kernel
  have L22 : Cond.fieldLink RX2 22 "SandcastleLeagueModel" "table" "[I" ∈ wsX2_add := by decide +kernel
  refine ZMv.of (ty := .int) (own := RX2) cX2_add 4 [(0, .ref m), (1, .int (iI c)), (2, .int (iI v)), (3, .int (iI d))] (by decide +kernel) rfl (nle rfl) rfl rfl ?_
  intro E hC hN hret
  refine z_aloadn 1 hC 0 dX2_add_0 rfl rfl rfl ?_
  refine z_get 4 0 11 hC hinX2 L22 dX2_add_1 rfl rfl rfl (by decide) rfl ?_
  refine z_iconst 5 hC dX2_add_4 rfl ?_
  refine z_iloadn 6 hC 1 dX2_add_5 rfl rfl rfl ?_
  refine z_imul 7 hC dX2_add_6 rfl ?_
  refine z_iloadn 8 hC 2 dX2_add_7 rfl rfl rfl ?_
  refine z_iadd 9 hC dX2_add_8 rfl ?_
  refine z_dup2 10 hC dX2_add_9 rfl rfl rfl ?_
  refine z_iald 11 5 hC dX2_add_10 rfl rfl (by decide) (by omega) ?_
  refine z_iloadn 12 hC 3 dX2_add_11 rfl rfl rfl ?_
  refine z_iadd 13 hC dX2_add_12 rfl ?_
  refine z_iast (ws' := wMo g m b th hr tm en lo sl fa s f w k (up q ((4 * c) + v) ((q ((4 * c) + v)) + d)) td ov) 14 5 hC dX2_add_13 rfl rfl (by decide) (by omega) rfl ?_
  refine z_weq (ws' := wMo g m b th hr tm en lo sl fa s f w k (up q (4 * c + v) (q (4 * c + v) + d)) td ov) (zEq.cons zE1.rf (zEq.cons zE1.rf (zEq.cons zE1.rf (zEq.cons zE1.rf (zEq.cons zE1.rf (zEq.cons (zE1.arr (by first | (intro j h0 h1; rfl) | (intro j h0 h1; first | rfl | omega))) (zEq.cons zE1.rf (zEq.cons zE1.rf zEq.nil)))))))) ?_
  exact hret () dX2_add_14 (by trivial)
set_option maxHeartbeats 4000000 in
set_option maxRecDepth 100000 in
theorem c_X2_height (l : Launch) (D : va_G) (g : Nat → ClassId) (m : Nat) (b : Nat → Nat) (th hr tm en lo sl fa : Int) (s f w k q td ov : Int → Int) (c : Int) (hc : 0 ≤ c ∧ c < 120) : ZMi (S := Unit) l yX2_height wsX2_height ({ frames := 0, cells := 0, slots := 0, locals := 0 }) D g [.ref m, .int (iI c)] (wMo g m b th hr tm en lo sl fa s f w k q td ov) (fun z _ => z = hg s c) (fun _ => wMo g m b th hr tm en lo sl fa s f w k q td ov) 0 0 := by
  have hinX2 : ∀ w ∈ u_ws RX2 TX2 14, w ∈ wsX2_height := by decide +kernel
  have L9 : Cond.fieldLink RX2 9 "SandcastleLeagueModel" "sand" "[I" ∈ wsX2_height := by decide +kernel
  refine ZMi.of (own := RX2) cX2_height 2 [(0, .ref m), (1, .int (iI c))] (by decide +kernel) rfl (nle rfl) rfl rfl ?_
  intro E hC hN hret
  refine z_iconst 1 hC dX2_height_0 rfl ?_
  refine z_iloadn 2 hC 1 dX2_height_1 rfl rfl rfl ?_
  refine z_bipush 4 hC dX2_height_2 (by decide) rfl ?_
  refine z_idiv 5 hC dX2_height_4 rfl (by omega) (by omega) ?_
  refine z_imul 6 hC dX2_height_5 rfl ?_
  refine z_aloadn 7 hC 0 dX2_height_6 rfl rfl rfl ?_
  refine z_get 10 0 7 hC hinX2 L9 dX2_height_7 rfl rfl rfl (by decide) rfl ?_
  refine z_iloadn 11 hC 1 dX2_height_10 rfl rfl rfl ?_
  refine z_iald 12 1 hC dX2_height_11 rfl rfl (by decide) (by omega) ?_
  refine z_iadd 13 hC dX2_height_12 rfl ?_
  exact hret () dX2_height_13 rfl (by rfl)
set_option maxHeartbeats 4000000 in
set_option maxRecDepth 100000 in
theorem c_X2_teamOf (l : Launch) (D : va_G) (g : Nat → ClassId) (c : Int) (hc : 0 ≤ c ∧ c < 120) : ZMi (S := Unit) l yX2_teamOf wsX2_teamOf ({ frames := 0, cells := 0, slots := 0, locals := 0 }) D g [.int (iI c)] ([]) (fun z _ => z = c % 12 / 3) (fun _ => []) 0 0 := by
  refine ZMi.of (own := RX2) cX2_teamOf 1 [(0, .int (iI c))] (by decide +kernel) rfl (nle rfl) rfl rfl ?_
  intro E hC hN hret
  refine z_iloadn 1 hC 0 dX2_teamOf_0 rfl rfl rfl ?_
  refine z_bipush 3 hC dX2_teamOf_1 (by decide) rfl ?_
  refine z_irem 4 hC dX2_teamOf_3 rfl (by omega) (by omega) ?_
  refine z_iconst 5 hC dX2_teamOf_4 rfl ?_
  refine z_idiv 6 hC dX2_teamOf_5 rfl (by omega) (by omega) ?_
  exact hret () dX2_teamOf_6 rfl (by rfl)
set_option maxHeartbeats 4000000 in
set_option maxRecDepth 100000 in
theorem c_X2_beside (l : Launch) (D : va_G) (g : Nat → ClassId) (c : Int) (d : Int) (hc : 0 ≤ c ∧ c < 120) (hd : 0 ≤ d ∧ d < 4) : ZMi (S := Unit) l yX2_beside wsX2_beside ({ frames := 0, cells := 0, slots := 0, locals := 0 }) D g [.int (iI c), .int (iI d)] ([]) (fun z _ => z = bsd c d) (fun _ => []) 0 0 := by
  refine ZMi.of (own := RX2) cX2_beside 2 [(0, .int (iI c)), (1, .int (iI d))] (by decide +kernel) rfl (nle rfl) rfl rfl ?_
  intro E hC hN hret
  refine z_iloadn 1 hC 1 dX2_beside_0 rfl rfl rfl ?_
  refine z_if_ne 19 4 hC dX2_beside_1 (by decide) rfl (by omega) (fun c_1 => ?_) (fun c_1 => ?_)
  · skip
    refine z_iloadn 20 hC 1 dX2_beside_19 rfl rfl rfl ?_
    refine z_iconst 21 hC dX2_beside_20 rfl ?_
    refine z_icmp_ne 39 24 hC dX2_beside_21 (by decide) rfl (by omega) (by omega) (fun c_2 => ?_) (fun c_2 => ?_)
    · skip
      refine z_iloadn 40 hC 1 dX2_beside_39 rfl rfl rfl ?_
      refine z_iconst 41 hC dX2_beside_40 rfl ?_
      refine z_icmp_ne 61 44 hC dX2_beside_41 (by decide) rfl (by omega) (by omega) (fun c_3 => ?_) (fun c_3 => ?_)
      · skip
        refine z_iloadn 62 hC 0 dX2_beside_61 rfl rfl rfl ?_
        refine z_bipush 64 hC dX2_beside_62 (by decide) rfl ?_
        refine z_icmp_lt 71 67 hC dX2_beside_64 (by decide) rfl (by omega) (by omega) (fun c_4 => ?_) (fun c_4 => ?_)
        · skip
          refine z_iloadn 72 hC 0 dX2_beside_71 rfl rfl rfl ?_
          refine z_bipush 74 hC dX2_beside_72 (by decide) rfl ?_
          refine z_iadd 75 hC dX2_beside_74 rfl ?_
          exact hret () dX2_beside_75 rfl (by unfold bsd; omega)
        · skip
          refine z_iconst 68 hC dX2_beside_67 rfl ?_
          refine z_goto 75 hC dX2_beside_68 (by decide) ?_
          exact hret () dX2_beside_75 rfl (by unfold bsd; omega)
      · skip
        refine z_iloadn 45 hC 0 dX2_beside_44 rfl rfl rfl ?_
        refine z_bipush 47 hC dX2_beside_45 (by decide) rfl ?_
        refine z_irem 48 hC dX2_beside_47 rfl (by omega) (by omega) ?_
        refine z_bipush 50 hC dX2_beside_48 (by decide) rfl ?_
        refine z_icmp_ne 57 53 hC dX2_beside_50 (by decide) rfl (by omega) (by omega) (fun c_5 => ?_) (fun c_5 => ?_)
        · skip
          refine z_iloadn 58 hC 0 dX2_beside_57 rfl rfl rfl ?_
          refine z_iconst 59 hC dX2_beside_58 rfl ?_
          refine z_iadd 60 hC dX2_beside_59 rfl ?_
          exact hret () dX2_beside_60 rfl (by unfold bsd; omega)
        · skip
          refine z_iconst 54 hC dX2_beside_53 rfl ?_
          refine z_goto 60 hC dX2_beside_54 (by decide) ?_
          exact hret () dX2_beside_60 rfl (by unfold bsd; omega)
    · skip
      refine z_iloadn 25 hC 0 dX2_beside_24 rfl rfl rfl ?_
      refine z_bipush 27 hC dX2_beside_25 (by decide) rfl ?_
      refine z_irem 28 hC dX2_beside_27 rfl (by omega) (by omega) ?_
      refine z_if_ne 35 31 hC dX2_beside_28 (by decide) rfl (by omega) (fun c_6 => ?_) (fun c_6 => ?_)
      · skip
        refine z_iloadn 36 hC 0 dX2_beside_35 rfl rfl rfl ?_
        refine z_iconst 37 hC dX2_beside_36 rfl ?_
        refine z_isub 38 hC dX2_beside_37 rfl ?_
        exact hret () dX2_beside_38 rfl (by unfold bsd; omega)
      · skip
        refine z_iconst 32 hC dX2_beside_31 rfl ?_
        refine z_goto 38 hC dX2_beside_32 (by decide) ?_
        exact hret () dX2_beside_38 rfl (by unfold bsd; omega)
  · skip
    refine z_iloadn 5 hC 0 dX2_beside_4 rfl rfl rfl ?_
    refine z_bipush 7 hC dX2_beside_5 (by decide) rfl ?_
    refine z_icmp_ge 14 10 hC dX2_beside_7 (by decide) rfl (by omega) (by omega) (fun c_7 => ?_) (fun c_7 => ?_)
    · skip
      refine z_iloadn 15 hC 0 dX2_beside_14 rfl rfl rfl ?_
      refine z_bipush 17 hC dX2_beside_15 (by decide) rfl ?_
      refine z_isub 18 hC dX2_beside_17 rfl ?_
      exact hret () dX2_beside_18 rfl (by unfold bsd; omega)
    · skip
      refine z_iconst 11 hC dX2_beside_10 rfl ?_
      refine z_goto 18 hC dX2_beside_11 (by decide) ?_
      exact hret () dX2_beside_18 rfl (by unfold bsd; omega)
set_option maxHeartbeats 4000000 in
set_option maxRecDepth 100000 in
theorem c_X2_sticksOf (l : Launch) (D : va_G) (g : Nat → ClassId) (m : Nat) (b : Nat → Nat) (th hr tm en lo sl fa : Int) (s f w k q td ov : Int → Int) (c : Int) (hkb : Bd k 120 0 39) (hc : -1 ≤ c ∧ c < 120) : ZMi (S := Unit) l yX2_sticksOf wsX2_sticksOf ({ frames := 1, cells := 0, slots := 0, locals := 40 }) D g [.ref m, .int (iI c)] (wMo g m b th hr tm en lo sl fa s f w k q td ov) (fun z _ => z = mst k c) (fun _ => wMo g m b th hr tm en lo sl fa s f w k q td ov) 0 0 := by
  have hinX2 : ∀ w ∈ u_ws RX2 TX2 14, w ∈ wsX2_sticksOf := by decide +kernel
  have L19 : Cond.fieldLink RX2 19 "SandcastleLeagueModel" "sticks" "[I" ∈ wsX2_sticksOf := by decide +kernel
  refine ZMi.of (own := RX2) cX2_sticksOf 4 [(0, .ref m), (1, .int (iI c))] (by decide +kernel) rfl (nle rfl) rfl rfl ?_
  intro E hC hN hret
  refine z_iconst 1 hC dX2_sticksOf_0 rfl ?_
  refine z_istoren (lv' := [(2, .int (iI 0)), (0, .ref m), (1, .int (iI c))]) 2 hC dX2_sticksOf_1 rfl rfl (by decide) rfl ?_
  refine z_iconst 3 hC dX2_sticksOf_2 rfl ?_
  refine z_istoren (lv' := [(3, .int (iI 0)), (2, .int (iI 0)), (0, .ref m), (1, .int (iI c))]) 4 hC dX2_sticksOf_3 rfl rfl (by decide) rfl ?_
  have loop4 : ∀ (N4 : Nat) (i : Int), 0 ≤ i ∧ i ≤ 120 → (120 - i : Int) < N4 → Z E (wMo g m b th hr tm en lo sl fa s f w k q td ov) [(0, .ref m), (1, .int (iI c)), (2, .int (iI (sumI (fun j => if 0 < k j ∧ (c = -1 ∨ j % 12 / 3 = c) then 1 else 0) i))), (3, .int (iI i))] 0 0 4 [] := by
    intro N4
    induction N4 with
    | zero => intro i hi hm4; exact absurd hm4 (by omega)
    | succ N4 ih4 =>
      intro i hi hm4
      refine z_iloadn 5 hC 3 dX2_sticksOf_4 rfl rfl rfl ?_
      refine z_bipush 7 hC dX2_sticksOf_5 (by decide) rfl ?_
      refine z_icmp_ge 46 10 hC dX2_sticksOf_7 (by decide) rfl (by omega) (by omega) (fun c_1 => ?_) (fun c_1 => ?_)
      · skip
        obtain rfl : i = 120 := by omega
        refine z_iloadn 47 hC 2 dX2_sticksOf_46 rfl rfl rfl ?_
        exact hret () dX2_sticksOf_47 rfl (by rfl)
      · skip
        refine z_iloadn 11 hC 2 dX2_sticksOf_10 rfl rfl rfl ?_
        refine z_aloadn 12 hC 0 dX2_sticksOf_11 rfl rfl rfl ?_
        refine z_get 15 0 10 hC hinX2 L19 dX2_sticksOf_12 rfl rfl rfl (by decide) rfl ?_
        refine z_iloadn 16 hC 3 dX2_sticksOf_15 rfl rfl rfl ?_
        refine z_iald 17 4 hC dX2_sticksOf_16 rfl rfl (by decide) (by omega) ?_
        have b_2 := hkb i (by omega) (by omega)
        refine z_if_le 37 20 hC dX2_sticksOf_17 (by decide) rfl (by omega) (fun c_3 => ?_) (fun c_3 => ?_)
        · skip
          refine z_iconst 38 hC dX2_sticksOf_37 rfl ?_
          refine z_iadd 39 hC dX2_sticksOf_38 rfl ?_
          refine z_istoren (lv' := [(2, .int (iI ((sumI (fun j => if 0 < k j ∧ (c = -1 ∨ j % 12 / 3 = c) then 1 else 0) i) + 0))), (0, .ref m), (1, .int (iI c)), (3, .int (iI i))]) 40 hC dX2_sticksOf_39 rfl rfl (by decide) rfl ?_
          refine z_iinc (lv' := [(3, .int (iI (i + 1))), (2, .int (iI ((sumI (fun j => if 0 < k j ∧ (c = -1 ∨ j % 12 / 3 = c) then 1 else 0) i) + 0))), (0, .ref m), (1, .int (iI c))]) 43 3 hC dX2_sticksOf_40 rfl rfl (by decide) rfl ?_
          refine z_goto 4 hC dX2_sticksOf_43 (by decide) ?_
          refine z_lv (lv' := [(0, .ref m), (1, .int (iI c)), (2, .int (iI ((sumI (fun j => if 0 < k j ∧ (c = -1 ∨ j % 12 / 3 = c) then 1 else 0) i) + 0))), (3, .int (iI (i + 1)))]) [2, 3, 1, 0] rfl ?_
          refine z_lveq (lv' := [(0, .ref m), (1, .int (iI c)), (2, .int (iI (sumI (fun j => if 0 < k j ∧ (c = -1 ∨ j % 12 / 3 = c) then 1 else 0) (i + 1)))), (3, .int (iI (i + 1)))]) (zfk (zfk (zlc (by first | exact sumI_y (by omega) (if_pos (by omega)).symm | exact sumI_y (by omega) (if_neg (by omega)).symm) (zfk rfl)))) ?_
          exact ih4 (i + 1) (by omega) (by omega)
        · skip
          refine z_iloadn 21 hC 1 dX2_sticksOf_20 rfl rfl rfl ?_
          refine z_iconst 22 hC dX2_sticksOf_21 rfl ?_
          refine z_icmp_eq 33 25 hC dX2_sticksOf_22 (by decide) rfl (by omega) (by omega) (fun c_4 => ?_) (fun c_4 => ?_)
          · skip
            refine z_iconst 34 hC dX2_sticksOf_33 rfl ?_
            refine z_goto 38 hC dX2_sticksOf_34 (by decide) ?_
            refine z_iadd 39 hC dX2_sticksOf_38 rfl ?_
            refine z_istoren (lv' := [(2, .int (iI ((sumI (fun j => if 0 < k j ∧ (c = -1 ∨ j % 12 / 3 = c) then 1 else 0) i) + 1))), (0, .ref m), (1, .int (iI c)), (3, .int (iI i))]) 40 hC dX2_sticksOf_39 rfl rfl (by decide) rfl ?_
            refine z_iinc (lv' := [(3, .int (iI (i + 1))), (2, .int (iI ((sumI (fun j => if 0 < k j ∧ (c = -1 ∨ j % 12 / 3 = c) then 1 else 0) i) + 1))), (0, .ref m), (1, .int (iI c))]) 43 3 hC dX2_sticksOf_40 rfl rfl (by decide) rfl ?_
            refine z_goto 4 hC dX2_sticksOf_43 (by decide) ?_
            refine z_lv (lv' := [(0, .ref m), (1, .int (iI c)), (2, .int (iI ((sumI (fun j => if 0 < k j ∧ (c = -1 ∨ j % 12 / 3 = c) then 1 else 0) i) + 1))), (3, .int (iI (i + 1)))]) [2, 3, 1, 0] rfl ?_
            refine z_lveq (lv' := [(0, .ref m), (1, .int (iI c)), (2, .int (iI (sumI (fun j => if 0 < k j ∧ (c = -1 ∨ j % 12 / 3 = c) then 1 else 0) (i + 1)))), (3, .int (iI (i + 1)))]) (zfk (zfk (zlc (by first | exact sumI_y (by omega) (if_pos (by omega)).symm | exact sumI_y (by omega) (if_neg (by omega)).symm) (zfk rfl)))) ?_
            exact ih4 (i + 1) (by omega) (by omega)
          · skip
            refine z_iloadn 26 hC 3 dX2_sticksOf_25 rfl rfl rfl ?_
            refine z_calli (wr := [(m, .inr (2, [.int (iI th), .int (iI hr), .int (iI tm), .int (iI en), .int (iI lo), .int (iI sl), .int (iI fa), .ref (b 0), .ref (b 1), .ref (b 2), .ref (b 3), .ref (b 4), .ref (b 5), .ref (b 6)])), ((b 0), ar g 120 s), ((b 1), ar g 120 f), ((b 2), ar g 120 w), ((b 3), ar g 120 k), ((b 4), ar g 16 q), ((b 5), ar g 12 td), ((b 6), ar g 120 ov)]) (w2 := fun _ => wMo g m b th hr tm en lo sl fa s f w k q td ov) 29 hC [] [0, 1, 2, 3, 4, 5, 6, 7] [0, 1, 2, 3, 4, 5, 6, 7] (z_runS (nA := 1) hC hN (c_X2_teamOf l D g i (by omega)) [] rfl (by decide) gX2_sticksOf_X2_teamOf (by decide +kernel) rfl rfl rfl ⟨by decide, by decide⟩ rfl rfl (nle rfl) dX2_sticksOf_26 ⟨by decide, by decide⟩) rfl rfl (by decide) (by decide) (fun _ => rfl) (by decide) rfl (k2 := 0) (n2 := 0) rfl rfl (fun z_5 _ p_6 => ?_)
            subst p_6
            refine z_iloadn 30 hC 1 dX2_sticksOf_29 rfl rfl rfl ?_
            refine z_icmp_ne 37 33 hC dX2_sticksOf_30 (by decide) rfl (by omega) (by omega) (fun c_7 => ?_) (fun c_7 => ?_)
            · skip
              refine z_iconst 38 hC dX2_sticksOf_37 rfl ?_
              refine z_iadd 39 hC dX2_sticksOf_38 rfl ?_
              refine z_istoren (lv' := [(2, .int (iI ((sumI (fun j => if 0 < k j ∧ (c = -1 ∨ j % 12 / 3 = c) then 1 else 0) i) + 0))), (0, .ref m), (1, .int (iI c)), (3, .int (iI i))]) 40 hC dX2_sticksOf_39 rfl rfl (by decide) rfl ?_
              refine z_iinc (lv' := [(3, .int (iI (i + 1))), (2, .int (iI ((sumI (fun j => if 0 < k j ∧ (c = -1 ∨ j % 12 / 3 = c) then 1 else 0) i) + 0))), (0, .ref m), (1, .int (iI c))]) 43 3 hC dX2_sticksOf_40 rfl rfl (by decide) rfl ?_
              refine z_goto 4 hC dX2_sticksOf_43 (by decide) ?_
              refine z_lv (lv' := [(0, .ref m), (1, .int (iI c)), (2, .int (iI ((sumI (fun j => if 0 < k j ∧ (c = -1 ∨ j % 12 / 3 = c) then 1 else 0) i) + 0))), (3, .int (iI (i + 1)))]) [2, 3, 1, 0] rfl ?_
              refine z_lveq (lv' := [(0, .ref m), (1, .int (iI c)), (2, .int (iI (sumI (fun j => if 0 < k j ∧ (c = -1 ∨ j % 12 / 3 = c) then 1 else 0) (i + 1)))), (3, .int (iI (i + 1)))]) (zfk (zfk (zlc (by first | exact sumI_y (by omega) (if_pos (by omega)).symm | exact sumI_y (by omega) (if_neg (by omega)).symm) (zfk rfl)))) ?_
              exact ih4 (i + 1) (by omega) (by omega)
            · skip
              refine z_iconst 34 hC dX2_sticksOf_33 rfl ?_
              refine z_goto 38 hC dX2_sticksOf_34 (by decide) ?_
              refine z_iadd 39 hC dX2_sticksOf_38 rfl ?_
              refine z_istoren (lv' := [(2, .int (iI ((sumI (fun j => if 0 < k j ∧ (c = -1 ∨ j % 12 / 3 = c) then 1 else 0) i) + 1))), (0, .ref m), (1, .int (iI c)), (3, .int (iI i))]) 40 hC dX2_sticksOf_39 rfl rfl (by decide) rfl ?_
              refine z_iinc (lv' := [(3, .int (iI (i + 1))), (2, .int (iI ((sumI (fun j => if 0 < k j ∧ (c = -1 ∨ j % 12 / 3 = c) then 1 else 0) i) + 1))), (0, .ref m), (1, .int (iI c))]) 43 3 hC dX2_sticksOf_40 rfl rfl (by decide) rfl ?_
              refine z_goto 4 hC dX2_sticksOf_43 (by decide) ?_
              refine z_lv (lv' := [(0, .ref m), (1, .int (iI c)), (2, .int (iI ((sumI (fun j => if 0 < k j ∧ (c = -1 ∨ j % 12 / 3 = c) then 1 else 0) i) + 1))), (3, .int (iI (i + 1)))]) [2, 3, 1, 0] rfl ?_
              refine z_lveq (lv' := [(0, .ref m), (1, .int (iI c)), (2, .int (iI (sumI (fun j => if 0 < k j ∧ (c = -1 ∨ j % 12 / 3 = c) then 1 else 0) (i + 1)))), (3, .int (iI (i + 1)))]) (zfk (zfk (zlc (by first | exact sumI_y (by omega) (if_pos (by omega)).symm | exact sumI_y (by omega) (if_neg (by omega)).symm) (zfk rfl)))) ?_
              exact ih4 (i + 1) (by omega) (by omega)
  refine z_lv (lv' := [(0, .ref m), (1, .int (iI c)), (2, .int (iI 0)), (3, .int (iI 0))]) [2, 3, 1, 0] rfl ?_
  refine z_lveq (lv' := [(0, .ref m), (1, .int (iI c)), (2, .int (iI (sumI (fun j => if 0 < k j ∧ (c = -1 ∨ j % 12 / 3 = c) then 1 else 0) 0))), (3, .int (iI 0))]) (zfk (zfk (zlc (by rfl) (zfk rfl)))) ?_
  exact loop4 ((120 - 0 + 1 : Int).toNat) 0 (by omega) (by omega)
set_option maxHeartbeats 4000000 in
set_option maxRecDepth 100000 in
theorem c_X2_areaOf (l : Launch) (D : va_G) (g : Nat → ClassId) (m : Nat) (b : Nat → Nat) (th hr tm en lo sl fa : Int) (s f w k q td ov : Int → Int) (c : Int) (v : Int) (hs : Bd s 120 0 20) (hw : Bd w 120 0 1) (hc : -1 ≤ c ∧ c < 120) (hv : 0 ≤ v ∧ v < 100) : ZMi (S := Unit) l yX2_areaOf wsX2_areaOf ({ frames := 1, cells := 0, slots := 0, locals := 60 }) D g [.ref m, .int (iI c), .int (iI v)] (wMo g m b th hr tm en lo sl fa s f w k q td ov) (fun z _ => z = mar s w c v 120) (fun _ => wMo g m b th hr tm en lo sl fa s f w k q td ov) 0 0 := by
  have hinX2 : ∀ w ∈ u_ws RX2 TX2 14, w ∈ wsX2_areaOf := by decide +kernel
  have L9 : Cond.fieldLink RX2 9 "SandcastleLeagueModel" "sand" "[I" ∈ wsX2_areaOf := by decide +kernel
  have L16 : Cond.fieldLink RX2 16 "SandcastleLeagueModel" "water" "[I" ∈ wsX2_areaOf := by decide +kernel
  refine ZMi.of (own := RX2) cX2_areaOf 5 [(0, .ref m), (1, .int (iI c)), (2, .int (iI v))] (by decide +kernel) rfl (nle rfl) rfl rfl ?_
  intro E hC hN hret
  refine z_iconst 1 hC dX2_areaOf_0 rfl ?_
  refine z_istoren (lv' := [(3, .int (iI 0)), (0, .ref m), (1, .int (iI c)), (2, .int (iI v))]) 2 hC dX2_areaOf_1 rfl rfl (by decide) rfl ?_
  refine z_iconst 3 hC dX2_areaOf_2 rfl ?_
  refine z_istore (lv' := [(4, .int (iI 0)), (3, .int (iI 0)), (0, .ref m), (1, .int (iI c)), (2, .int (iI v))]) 5 hC dX2_areaOf_3 rfl (by decide) rfl ?_
  have loop5 : ∀ (N5 : Nat) (i : Int), 0 ≤ i ∧ i ≤ 120 → (120 - i : Int) < N5 → Z E (wMo g m b th hr tm en lo sl fa s f w k q td ov) [(0, .ref m), (1, .int (iI c)), (2, .int (iI v)), (3, .int (iI (mar s w c v i))), (4, .int (iI i))] 0 0 5 [] := by
    intro N5
    induction N5 with
    | zero => intro i hi hm5; exact absurd hm5 (by omega)
    | succ N5 ih5 =>
      intro i hi hm5
      have qm := mar_bd hs hw c v hi.1 hi.2
      refine z_iload 7 hC 4 dX2_areaOf_5 rfl rfl ?_
      refine z_bipush 9 hC dX2_areaOf_7 (by decide) rfl ?_
      refine z_icmp_ge 78 12 hC dX2_areaOf_9 (by decide) rfl (by omega) (by omega) (fun c_1 => ?_) (fun c_1 => ?_)
      · skip
        obtain rfl : i = 120 := by omega
        refine z_iloadn 79 hC 3 dX2_areaOf_78 rfl rfl rfl ?_
        exact hret () dX2_areaOf_79 rfl (by rfl)
      · skip
        refine z_iloadn 13 hC 1 dX2_areaOf_12 rfl rfl rfl ?_
        refine z_iconst 14 hC dX2_areaOf_13 rfl ?_
        refine z_icmp_eq 29 17 hC dX2_areaOf_14 (by decide) rfl (by omega) (by omega) (fun c_2 => ?_) (fun c_2 => ?_)
        · skip
          refine z_iloadn 30 hC 2 dX2_areaOf_29 rfl rfl rfl ?_
          refine z_iconst 31 hC dX2_areaOf_30 rfl ?_
          refine z_icmp_ne 47 34 hC dX2_areaOf_31 (by decide) rfl (by omega) (by omega) (fun c_3 => ?_) (fun c_3 => ?_)
          · skip
            refine z_iloadn 48 hC 3 dX2_areaOf_47 rfl rfl rfl ?_
            refine z_iloadn 49 hC 2 dX2_areaOf_48 rfl rfl rfl ?_
            refine z_iconst 50 hC dX2_areaOf_49 rfl ?_
            refine z_icmp_ne 63 53 hC dX2_areaOf_50 (by decide) rfl (by omega) (by omega) (fun c_4 => ?_) (fun c_4 => ?_)
            · skip
              refine z_aloadn 64 hC 0 dX2_areaOf_63 rfl rfl rfl ?_
              refine z_get 67 0 9 hC hinX2 L16 dX2_areaOf_64 rfl rfl rfl (by decide) rfl ?_
              refine z_iload 69 hC 4 dX2_areaOf_67 rfl rfl ?_
              refine z_iald 70 3 hC dX2_areaOf_69 rfl rfl (by decide) (by omega) ?_
              have b_5 := hw i (by omega) (by omega)
              refine z_iadd 71 hC dX2_areaOf_70 rfl ?_
              refine z_istoren (lv' := [(3, .int (iI ((mar s w c v i) + (w i)))), (0, .ref m), (1, .int (iI c)), (2, .int (iI v)), (4, .int (iI i))]) 72 hC dX2_areaOf_71 rfl rfl (by decide) rfl ?_
              refine z_iinc (lv' := [(4, .int (iI (i + 1))), (3, .int (iI ((mar s w c v i) + (w i)))), (0, .ref m), (1, .int (iI c)), (2, .int (iI v))]) 75 4 hC dX2_areaOf_72 rfl rfl (by decide) rfl ?_
              refine z_goto 5 hC dX2_areaOf_75 (by decide) ?_
              refine z_lv (lv' := [(0, .ref m), (1, .int (iI c)), (2, .int (iI v)), (3, .int (iI ((mar s w c v i) + (w i)))), (4, .int (iI (i + 1)))]) [2, 3, 4, 1, 0] rfl ?_
              refine z_lveq (lv' := [(0, .ref m), (1, .int (iI c)), (2, .int (iI v)), (3, .int (iI (mar s w c v (i + 1)))), (4, .int (iI (i + 1)))]) (zfk (zfk (zfk (zlc (by rw [mar_s s w c v hi.1]; omega) (zfk rfl))))) ?_
              exact ih5 (i + 1) (by omega) (by omega)
            · skip
              refine z_aloadn 54 hC 0 dX2_areaOf_53 rfl rfl rfl ?_
              refine z_get 57 0 7 hC hinX2 L9 dX2_areaOf_54 rfl rfl rfl (by decide) rfl ?_
              refine z_iload 59 hC 4 dX2_areaOf_57 rfl rfl ?_
              refine z_iald 60 1 hC dX2_areaOf_59 rfl rfl (by decide) (by omega) ?_
              have b_6 := hs i (by omega) (by omega)
              refine z_goto 70 hC dX2_areaOf_60 (by decide) ?_
              refine z_iadd 71 hC dX2_areaOf_70 rfl ?_
              refine z_istoren (lv' := [(3, .int (iI ((mar s w c v i) + (s i)))), (0, .ref m), (1, .int (iI c)), (2, .int (iI v)), (4, .int (iI i))]) 72 hC dX2_areaOf_71 rfl rfl (by decide) rfl ?_
              refine z_iinc (lv' := [(4, .int (iI (i + 1))), (3, .int (iI ((mar s w c v i) + (s i)))), (0, .ref m), (1, .int (iI c)), (2, .int (iI v))]) 75 4 hC dX2_areaOf_72 rfl rfl (by decide) rfl ?_
              refine z_goto 5 hC dX2_areaOf_75 (by decide) ?_
              refine z_lv (lv' := [(0, .ref m), (1, .int (iI c)), (2, .int (iI v)), (3, .int (iI ((mar s w c v i) + (s i)))), (4, .int (iI (i + 1)))]) [2, 3, 4, 1, 0] rfl ?_
              refine z_lveq (lv' := [(0, .ref m), (1, .int (iI c)), (2, .int (iI v)), (3, .int (iI (mar s w c v (i + 1)))), (4, .int (iI (i + 1)))]) (zfk (zfk (zfk (zlc (by rw [mar_s s w c v hi.1]; omega) (zfk rfl))))) ?_
              exact ih5 (i + 1) (by omega) (by omega)
          · skip
            refine z_iloadn 35 hC 3 dX2_areaOf_34 rfl rfl rfl ?_
            refine z_aloadn 36 hC 0 dX2_areaOf_35 rfl rfl rfl ?_
            refine z_iload 38 hC 4 dX2_areaOf_36 rfl rfl ?_
            refine z_calli (wr := []) (w2 := fun _ => wMo g m b th hr tm en lo sl fa s f w k q td ov) 41 hC [0, 1, 2, 3, 4, 5, 6, 7] [] [0, 1, 2, 3, 4, 5, 6, 7] (z_runV (nA := 1) hC hN (c_X2_height l D g m b th hr tm en lo sl fa s f w k q td ov i (by omega)) [0, 1, 2, 3, 4, 5, 6, 7] rfl (by decide) gX2_areaOf_X2_height (by decide +kernel) rfl rfl rfl ⟨by decide, by decide⟩ rfl rfl (nle rfl) dX2_areaOf_38 ⟨by decide, by decide⟩ 0 rfl rfl) rfl rfl (by decide) (by decide) (fun _ => rfl) (by decide) rfl (k2 := 0) (n2 := 0) rfl rfl (fun z_8 _ p_9 => ?_)
            subst p_9
            have y_7 := hg_bd hs (c := i) (by omega)
            refine z_mmax 44 hC (by decide +kernel) (by decide +kernel) (by decide +kernel) (by decide +kernel) (by decide) (nle rfl) (by decide) (by decide) (by omega) (by omega) dX2_areaOf_41 rfl ?_
            refine z_goto 71 hC dX2_areaOf_44 (by decide) ?_
            refine z_istoren (lv' := [(3, .int (iI (max (mar s w c v i) (hg s i)))), (0, .ref m), (1, .int (iI c)), (2, .int (iI v)), (4, .int (iI i))]) 72 hC dX2_areaOf_71 rfl rfl (by decide) rfl ?_
            refine z_iinc (lv' := [(4, .int (iI (i + 1))), (3, .int (iI (max (mar s w c v i) (hg s i)))), (0, .ref m), (1, .int (iI c)), (2, .int (iI v))]) 75 4 hC dX2_areaOf_72 rfl rfl (by decide) rfl ?_
            refine z_goto 5 hC dX2_areaOf_75 (by decide) ?_
            refine z_lv (lv' := [(0, .ref m), (1, .int (iI c)), (2, .int (iI v)), (3, .int (iI (max (mar s w c v i) (hg s i)))), (4, .int (iI (i + 1)))]) [2, 3, 4, 1, 0] rfl ?_
            refine z_lveq (lv' := [(0, .ref m), (1, .int (iI c)), (2, .int (iI v)), (3, .int (iI (mar s w c v (i + 1)))), (4, .int (iI (i + 1)))]) (zfk (zfk (zfk (zlc (by rw [mar_s s w c v hi.1]; omega) (zfk rfl))))) ?_
            exact ih5 (i + 1) (by omega) (by omega)
        · skip
          refine z_iload 19 hC 4 dX2_areaOf_17 rfl rfl ?_
          refine z_calli (wr := [(m, .inr (2, [.int (iI th), .int (iI hr), .int (iI tm), .int (iI en), .int (iI lo), .int (iI sl), .int (iI fa), .ref (b 0), .ref (b 1), .ref (b 2), .ref (b 3), .ref (b 4), .ref (b 5), .ref (b 6)])), ((b 0), ar g 120 s), ((b 1), ar g 120 f), ((b 2), ar g 120 w), ((b 3), ar g 120 k), ((b 4), ar g 16 q), ((b 5), ar g 12 td), ((b 6), ar g 120 ov)]) (w2 := fun _ => wMo g m b th hr tm en lo sl fa s f w k q td ov) 22 hC [] [0, 1, 2, 3, 4, 5, 6, 7] [0, 1, 2, 3, 4, 5, 6, 7] (z_runS (nA := 1) hC hN (c_X2_teamOf l D g i (by omega)) [] rfl (by decide) gX2_areaOf_X2_teamOf (by decide +kernel) rfl rfl rfl ⟨by decide, by decide⟩ rfl rfl (nle rfl) dX2_areaOf_19 ⟨by decide, by decide⟩) rfl rfl (by decide) (by decide) (fun _ => rfl) (by decide) rfl (k2 := 0) (n2 := 0) rfl rfl (fun z_10 _ p_11 => ?_)
          subst p_11
          refine z_iloadn 23 hC 1 dX2_areaOf_22 rfl rfl rfl ?_
          refine z_icmp_eq 29 26 hC dX2_areaOf_23 (by decide) rfl (by omega) (by omega) (fun c_12 => ?_) (fun c_12 => ?_)
          · skip
            refine z_iloadn 30 hC 2 dX2_areaOf_29 rfl rfl rfl ?_
            refine z_iconst 31 hC dX2_areaOf_30 rfl ?_
            refine z_icmp_ne 47 34 hC dX2_areaOf_31 (by decide) rfl (by omega) (by omega) (fun c_13 => ?_) (fun c_13 => ?_)
            · skip
              refine z_iloadn 48 hC 3 dX2_areaOf_47 rfl rfl rfl ?_
              refine z_iloadn 49 hC 2 dX2_areaOf_48 rfl rfl rfl ?_
              refine z_iconst 50 hC dX2_areaOf_49 rfl ?_
              refine z_icmp_ne 63 53 hC dX2_areaOf_50 (by decide) rfl (by omega) (by omega) (fun c_14 => ?_) (fun c_14 => ?_)
              · skip
                refine z_aloadn 64 hC 0 dX2_areaOf_63 rfl rfl rfl ?_
                refine z_get 67 0 9 hC hinX2 L16 dX2_areaOf_64 rfl rfl rfl (by decide) rfl ?_
                refine z_iload 69 hC 4 dX2_areaOf_67 rfl rfl ?_
                refine z_iald 70 3 hC dX2_areaOf_69 rfl rfl (by decide) (by omega) ?_
                have b_15 := hw i (by omega) (by omega)
                refine z_iadd 71 hC dX2_areaOf_70 rfl ?_
                refine z_istoren (lv' := [(3, .int (iI ((mar s w c v i) + (w i)))), (0, .ref m), (1, .int (iI c)), (2, .int (iI v)), (4, .int (iI i))]) 72 hC dX2_areaOf_71 rfl rfl (by decide) rfl ?_
                refine z_iinc (lv' := [(4, .int (iI (i + 1))), (3, .int (iI ((mar s w c v i) + (w i)))), (0, .ref m), (1, .int (iI c)), (2, .int (iI v))]) 75 4 hC dX2_areaOf_72 rfl rfl (by decide) rfl ?_
                refine z_goto 5 hC dX2_areaOf_75 (by decide) ?_
                refine z_lv (lv' := [(0, .ref m), (1, .int (iI c)), (2, .int (iI v)), (3, .int (iI ((mar s w c v i) + (w i)))), (4, .int (iI (i + 1)))]) [2, 3, 4, 1, 0] rfl ?_
                refine z_lveq (lv' := [(0, .ref m), (1, .int (iI c)), (2, .int (iI v)), (3, .int (iI (mar s w c v (i + 1)))), (4, .int (iI (i + 1)))]) (zfk (zfk (zfk (zlc (by rw [mar_s s w c v hi.1]; omega) (zfk rfl))))) ?_
                exact ih5 (i + 1) (by omega) (by omega)
              · skip
                refine z_aloadn 54 hC 0 dX2_areaOf_53 rfl rfl rfl ?_
                refine z_get 57 0 7 hC hinX2 L9 dX2_areaOf_54 rfl rfl rfl (by decide) rfl ?_
                refine z_iload 59 hC 4 dX2_areaOf_57 rfl rfl ?_
                refine z_iald 60 1 hC dX2_areaOf_59 rfl rfl (by decide) (by omega) ?_
                have b_16 := hs i (by omega) (by omega)
                refine z_goto 70 hC dX2_areaOf_60 (by decide) ?_
                refine z_iadd 71 hC dX2_areaOf_70 rfl ?_
                refine z_istoren (lv' := [(3, .int (iI ((mar s w c v i) + (s i)))), (0, .ref m), (1, .int (iI c)), (2, .int (iI v)), (4, .int (iI i))]) 72 hC dX2_areaOf_71 rfl rfl (by decide) rfl ?_
                refine z_iinc (lv' := [(4, .int (iI (i + 1))), (3, .int (iI ((mar s w c v i) + (s i)))), (0, .ref m), (1, .int (iI c)), (2, .int (iI v))]) 75 4 hC dX2_areaOf_72 rfl rfl (by decide) rfl ?_
                refine z_goto 5 hC dX2_areaOf_75 (by decide) ?_
                refine z_lv (lv' := [(0, .ref m), (1, .int (iI c)), (2, .int (iI v)), (3, .int (iI ((mar s w c v i) + (s i)))), (4, .int (iI (i + 1)))]) [2, 3, 4, 1, 0] rfl ?_
                refine z_lveq (lv' := [(0, .ref m), (1, .int (iI c)), (2, .int (iI v)), (3, .int (iI (mar s w c v (i + 1)))), (4, .int (iI (i + 1)))]) (zfk (zfk (zfk (zlc (by rw [mar_s s w c v hi.1]; omega) (zfk rfl))))) ?_
                exact ih5 (i + 1) (by omega) (by omega)
            · skip
              refine z_iloadn 35 hC 3 dX2_areaOf_34 rfl rfl rfl ?_
              refine z_aloadn 36 hC 0 dX2_areaOf_35 rfl rfl rfl ?_
              refine z_iload 38 hC 4 dX2_areaOf_36 rfl rfl ?_
              refine z_calli (wr := []) (w2 := fun _ => wMo g m b th hr tm en lo sl fa s f w k q td ov) 41 hC [0, 1, 2, 3, 4, 5, 6, 7] [] [0, 1, 2, 3, 4, 5, 6, 7] (z_runV (nA := 1) hC hN (c_X2_height l D g m b th hr tm en lo sl fa s f w k q td ov i (by omega)) [0, 1, 2, 3, 4, 5, 6, 7] rfl (by decide) gX2_areaOf_X2_height (by decide +kernel) rfl rfl rfl ⟨by decide, by decide⟩ rfl rfl (nle rfl) dX2_areaOf_38 ⟨by decide, by decide⟩ 0 rfl rfl) rfl rfl (by decide) (by decide) (fun _ => rfl) (by decide) rfl (k2 := 0) (n2 := 0) rfl rfl (fun z_18 _ p_19 => ?_)
              subst p_19
              have y_17 := hg_bd hs (c := i) (by omega)
              refine z_mmax 44 hC (by decide +kernel) (by decide +kernel) (by decide +kernel) (by decide +kernel) (by decide) (nle rfl) (by decide) (by decide) (by omega) (by omega) dX2_areaOf_41 rfl ?_
              refine z_goto 71 hC dX2_areaOf_44 (by decide) ?_
              refine z_istoren (lv' := [(3, .int (iI (max (mar s w c v i) (hg s i)))), (0, .ref m), (1, .int (iI c)), (2, .int (iI v)), (4, .int (iI i))]) 72 hC dX2_areaOf_71 rfl rfl (by decide) rfl ?_
              refine z_iinc (lv' := [(4, .int (iI (i + 1))), (3, .int (iI (max (mar s w c v i) (hg s i)))), (0, .ref m), (1, .int (iI c)), (2, .int (iI v))]) 75 4 hC dX2_areaOf_72 rfl rfl (by decide) rfl ?_
              refine z_goto 5 hC dX2_areaOf_75 (by decide) ?_
              refine z_lv (lv' := [(0, .ref m), (1, .int (iI c)), (2, .int (iI v)), (3, .int (iI (max (mar s w c v i) (hg s i)))), (4, .int (iI (i + 1)))]) [2, 3, 4, 1, 0] rfl ?_
              refine z_lveq (lv' := [(0, .ref m), (1, .int (iI c)), (2, .int (iI v)), (3, .int (iI (mar s w c v (i + 1)))), (4, .int (iI (i + 1)))]) (zfk (zfk (zfk (zlc (by rw [mar_s s w c v hi.1]; omega) (zfk rfl))))) ?_
              exact ih5 (i + 1) (by omega) (by omega)
          · skip
            refine z_goto 72 hC dX2_areaOf_26 (by decide) ?_
            refine z_iinc (lv' := [(4, .int (iI (i + 1))), (0, .ref m), (1, .int (iI c)), (2, .int (iI v)), (3, .int (iI (mar s w c v i)))]) 75 4 hC dX2_areaOf_72 rfl rfl (by decide) rfl ?_
            refine z_goto 5 hC dX2_areaOf_75 (by decide) ?_
            refine z_lv (lv' := [(0, .ref m), (1, .int (iI c)), (2, .int (iI v)), (3, .int (iI (mar s w c v i))), (4, .int (iI (i + 1)))]) [1, 2, 3, 4, 0] rfl ?_
            refine z_lveq (lv' := [(0, .ref m), (1, .int (iI c)), (2, .int (iI v)), (3, .int (iI (mar s w c v (i + 1)))), (4, .int (iI (i + 1)))]) (zfk (zfk (zfk (zlc (by rw [mar_s s w c v hi.1]; omega) (zfk rfl))))) ?_
            exact ih5 (i + 1) (by omega) (by omega)
  refine z_lv (lv' := [(0, .ref m), (1, .int (iI c)), (2, .int (iI v)), (3, .int (iI 0)), (4, .int (iI 0))]) [2, 3, 4, 1, 0] rfl ?_
  refine z_lveq (lv' := [(0, .ref m), (1, .int (iI c)), (2, .int (iI v)), (3, .int (iI (mar s w c v 0))), (4, .int (iI 0))]) (zfk (zfk (zfk (zlc (by rfl) (zfk rfl))))) ?_
  exact loop5 ((120 - 0 + 1 : Int).toNat) 0 (by omega) (by omega)
set_option maxHeartbeats 4000000 in
set_option maxRecDepth 100000 in
theorem c_X2_cellTold (l : Launch) (D : va_G) (g : Nat → ClassId) (m : Nat) (b : Nat → Nat) (th hr tm en lo sl fa : Int) (s f w k q td ov : Int → Int) (c : Int) (v : Int) (hkb : Bd k 120 0 39) (hc : 0 ≤ c ∧ c < 120) (hv : 0 ≤ v ∧ v ≤ 5) : ZMi (S := Unit) l yX2_cellTold wsX2_cellTold ({ frames := 1, cells := 0, slots := 0, locals := 40 }) D g [.ref m, .int (iI c), .int (iI v)] (wMo g m b th hr tm en lo sl fa s f w k q td ov) (fun z _ => z = mcT s f w k c v) (fun _ => wMo g m b th hr tm en lo sl fa s f w k q td ov) 0 0 := by
  have hinX2 : ∀ w ∈ u_ws RX2 TX2 14, w ∈ wsX2_cellTold := by decide +kernel
  have L9 : Cond.fieldLink RX2 9 "SandcastleLeagueModel" "sand" "[I" ∈ wsX2_cellTold := by decide +kernel
  have L13 : Cond.fieldLink RX2 13 "SandcastleLeagueModel" "firm" "[I" ∈ wsX2_cellTold := by decide +kernel
  have L16 : Cond.fieldLink RX2 16 "SandcastleLeagueModel" "water" "[I" ∈ wsX2_cellTold := by decide +kernel
  have L19 : Cond.fieldLink RX2 19 "SandcastleLeagueModel" "sticks" "[I" ∈ wsX2_cellTold := by decide +kernel
  refine ZMi.of (own := RX2) cX2_cellTold 3 [(0, .ref m), (1, .int (iI c)), (2, .int (iI v))] (by decide +kernel) rfl (nle rfl) rfl rfl ?_
  intro E hC hN hret
  refine z_iloadn 1 hC 2 dX2_cellTold_0 rfl rfl rfl ?_
  by_cases e_1 : v = 0
  · refine z_tabIn 36 0 hC dX2_cellTold_1 e_1 (by decide) rfl rfl (by decide) ?_
    refine z_aloadn 37 hC 0 dX2_cellTold_36 rfl rfl rfl ?_
    refine z_get 40 0 7 hC hinX2 L9 dX2_cellTold_37 rfl rfl rfl (by decide) rfl ?_
    refine z_iloadn 41 hC 1 dX2_cellTold_40 rfl rfl rfl ?_
    refine z_iald 42 1 hC dX2_cellTold_41 rfl rfl (by decide) (by omega) ?_
    exact hret () dX2_cellTold_42 rfl (by unfold mcT; omega)
  by_cases e_2 : v = 1
  · refine z_tabIn 43 1 hC dX2_cellTold_1 e_2 (by decide) rfl rfl (by decide) ?_
    refine z_aloadn 44 hC 0 dX2_cellTold_43 rfl rfl rfl ?_
    refine z_get 47 0 8 hC hinX2 L13 dX2_cellTold_44 rfl rfl rfl (by decide) rfl ?_
    refine z_iloadn 48 hC 1 dX2_cellTold_47 rfl rfl rfl ?_
    refine z_iald 49 2 hC dX2_cellTold_48 rfl rfl (by decide) (by omega) ?_
    exact hret () dX2_cellTold_49 rfl (by unfold mcT; omega)
  by_cases e_3 : v = 2
  · refine z_tabIn 50 2 hC dX2_cellTold_1 e_3 (by decide) rfl rfl (by decide) ?_
    refine z_aloadn 51 hC 0 dX2_cellTold_50 rfl rfl rfl ?_
    refine z_iloadn 52 hC 1 dX2_cellTold_51 rfl rfl rfl ?_
    refine z_calli (wr := []) (w2 := fun _ => wMo g m b th hr tm en lo sl fa s f w k q td ov) 55 hC [0, 1, 2, 3, 4, 5, 6, 7] [] [0, 1, 2, 3, 4, 5, 6, 7] (z_runV (nA := 1) hC hN (c_X2_height l D g m b th hr tm en lo sl fa s f w k q td ov c (by omega)) [0, 1, 2, 3, 4, 5, 6, 7] rfl (by decide) gX2_cellTold_X2_height (by decide +kernel) rfl rfl rfl ⟨by decide, by decide⟩ rfl rfl (nle rfl) dX2_cellTold_52 ⟨by decide, by decide⟩ 0 rfl rfl) rfl rfl (by decide) (by decide) (fun _ => rfl) (by decide) rfl (k2 := 0) (n2 := 0) rfl rfl (fun z_4 _ p_5 => ?_)
    subst p_5
    exact hret () dX2_cellTold_55 rfl (by unfold mcT; omega)
  by_cases e_6 : v = 3
  · refine z_tabIn 56 3 hC dX2_cellTold_1 e_6 (by decide) rfl rfl (by decide) ?_
    refine z_aloadn 57 hC 0 dX2_cellTold_56 rfl rfl rfl ?_
    refine z_get 60 0 9 hC hinX2 L16 dX2_cellTold_57 rfl rfl rfl (by decide) rfl ?_
    refine z_iloadn 61 hC 1 dX2_cellTold_60 rfl rfl rfl ?_
    refine z_iald 62 3 hC dX2_cellTold_61 rfl rfl (by decide) (by omega) ?_
    exact hret () dX2_cellTold_62 rfl (by unfold mcT; omega)
  by_cases e_7 : v = 4
  · refine z_tabIn 63 4 hC dX2_cellTold_1 e_7 (by decide) rfl rfl (by decide) ?_
    refine z_aloadn 64 hC 0 dX2_cellTold_63 rfl rfl rfl ?_
    refine z_get 67 0 10 hC hinX2 L19 dX2_cellTold_64 rfl rfl rfl (by decide) rfl ?_
    refine z_iloadn 68 hC 1 dX2_cellTold_67 rfl rfl rfl ?_
    refine z_iald 69 4 hC dX2_cellTold_68 rfl rfl (by decide) (by omega) ?_
    have b_8 := hkb c (by omega) (by omega)
    refine z_if_le 76 72 hC dX2_cellTold_69 (by decide) rfl (by omega) (fun c_9 => ?_) (fun c_9 => ?_)
    · skip
      refine z_iconst 77 hC dX2_cellTold_76 rfl ?_
      exact hret () dX2_cellTold_77 rfl (by unfold mcT; omega)
    · skip
      refine z_iconst 73 hC dX2_cellTold_72 rfl ?_
      refine z_goto 77 hC dX2_cellTold_73 (by decide) ?_
      exact hret () dX2_cellTold_77 rfl (by unfold mcT; omega)
  refine z_tabOut 78 hC dX2_cellTold_1 (by omega) (by omega) (by decide) ?_
  refine z_iconst 79 hC dX2_cellTold_78 rfl ?_
  refine z_aloadn 80 hC 0 dX2_cellTold_79 rfl rfl rfl ?_
  refine z_get 83 0 10 hC hinX2 L19 dX2_cellTold_80 rfl rfl rfl (by decide) rfl ?_
  refine z_iloadn 84 hC 1 dX2_cellTold_83 rfl rfl rfl ?_
  refine z_iald 85 4 hC dX2_cellTold_84 rfl rfl (by decide) (by omega) ?_
  have b_10 := hkb c (by omega) (by omega)
  refine z_iconst 86 hC dX2_cellTold_85 rfl ?_
  refine z_isub 87 hC dX2_cellTold_86 rfl ?_
  refine z_mmax 90 hC (by decide +kernel) (by decide +kernel) (by decide +kernel) (by decide +kernel) (by decide) (nle rfl) (by decide) (by decide) (by omega) (by omega) dX2_cellTold_87 rfl ?_
  exact hret () dX2_cellTold_90 rfl (by unfold mcT; omega)
