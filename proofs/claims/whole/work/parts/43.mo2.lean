theorem thrP_0 {tm : Int} {sr o w : Int → Int} {k x y : Int} (h : thrD tm sr k x y 1 = 0) : thrP tm sr o w k x y = if 3 ≤ cntS o k ∨ o (x + 12 * y) ≠ -1 ∨ w (x + 12 * y) ≠ 0 then 3 else 0 := by
  unfold thrP
  rw [if_neg (by omega)]
theorem thrP_n {tm : Int} {sr o w : Int → Int} {k x y : Int} (h : thrD tm sr k x y 1 ≠ 0) : thrP tm sr o w k x y = thrD tm sr k x y 1 := by
  unfold thrP
  rw [if_pos h]
/-- sticks stay on the areas of teams, three to a team -/
def S3 (tm : Int) (S : SS) : Prop := ∀ t : Int, 0 ≤ t → t < tm → cntS (ssO S) t ≤ 3
theorem mst_up {tm : Int} {S : SS} (h : SI tm S) {c t x : Int} (ht : 0 ≤ t) (hc : 0 ≤ c ∧ c < 120) (hct : c % 12 / 3 = t) (hx : 0 ≤ x) : mst (kOf (up (ssO S) c t) (up (ssP S) c x)) t = cntS (up (ssO S) c t) t := by
  unfold mst cntS
  refine sumI_congr (fun j a b => ?_)
  have h2 := h j a b
  by_cases e : j = c
  · subst e
    rw [up_same, if_pos rfl, if_pos]
    refine ⟨?_, Or.inr hct⟩
    unfold kOf
    rw [up_same, up_same, if_neg (by omega)]
    omega
  · have h1 := kOf_pos h ⟨a, b⟩
    have h3 : kOf (up (ssO S) c t) (up (ssP S) c x) j = kOf (ssO S) (ssP S) j := by
      unfold kOf
      rw [up_ne e, up_ne e]
    rw [h3, up_ne e]
    by_cases q : ssO S j = t
    · rw [if_pos q, if_pos ⟨h1.mpr (by omega), Or.inr (by omega)⟩]
    · rw [if_neg q, if_neg]
      intro y
      have := h1.mp y.1
      omega
theorem kOf_bd2 {o p : Int → Int} (h : Bd p 120 0 38) : Bd (kOf o p) 120 0 39 := by
  intro j a b
  have := h j a b
  unfold kOf
  split <;> omega
set_option maxHeartbeats 4000000 in
set_option maxRecDepth 100000 in
theorem c_X2_plant (l : Launch) (D : va_G) (g : Nat → ClassId) (m : Nat) (b : Nat → Nat) (th hr tm en : Int) (td bu sr lg ov : Int → Int) (S : SS) (k : Int) (cx : Int) (cy : Int) (hI : LI td bu sr lg tm hr S) (hSI : SI tm S) (hk : -2147483648 ≤ k ∧ k ≤ 2147483647) (hcx : -2147483648 ≤ cx ∧ cx ≤ 2147483647) (hcy : -2147483648 ≤ cy ∧ cy ≤ 2147483647) (h3 : S3 tm S) : ZMi (S := Unit) l yX2_plant wsX2_plant ({ frames := 3, cells := 0, slots := 0, locals := 160 }) D g [.ref m, .int (iI k), .int (iI cx), .int (iI cy)] (wMo g m b th hr tm en (ssLo S) (ssSl S) (ssFa S) (ssS S) (ssF S) (ssW S) (kOf (ssO S) (ssP S)) (tbl tm bu sr lg (ssT S)) td ov) (fun z _ => thrP tm sr (ssO S) (ssW S) k cx cy = 0 → z = cntS (up (ssO S) (cx + 12 * cy) k) k) (fun _ => wMo g m b (thrP tm sr (ssO S) (ssW S) k cx cy) hr tm en (ssLo S) (ssSl S) (ssFa S) (ssS S) (ssF S) (ssW S) (if thrP tm sr (ssO S) (ssW S) k cx cy = 0 then kOf (up (ssO S) (cx + 12 * cy) k) (up (ssP S) (cx + 12 * cy) (hg (ssS S) (cx + 12 * cy))) else kOf (ssO S) (ssP S)) (if thrP tm sr (ssO S) (ssW S) k cx cy = 0 then tbl tm bu (up sr k (sr k + (-1))) lg (ssT S) else tbl tm bu sr lg (ssT S)) td ov) 0 0 := by
  have hinX2 : ∀ w ∈ u_ws RX2 TX2 14, w ∈ wsX2_plant := by decide +kernel
  have L16 : Cond.fieldLink RX2 16 "SandcastleLeagueModel" "water" "[I" ∈ wsX2_plant := by decide +kernel
  have L19 : Cond.fieldLink RX2 19 "SandcastleLeagueModel" "sticks" "[I" ∈ wsX2_plant := by decide +kernel
  obtain ⟨htd, hbu, hsr, hlg, htm, hhr, hSB, hT⟩ := id hI
  obtain ⟨hs, hf, hw, ho, hp⟩ := id hSB
  refine ZMi.of (own := RX2) cX2_plant 5 [(0, .ref m), (1, .int (iI k)), (2, .int (iI cx)), (3, .int (iI cy))] (by decide +kernel) rfl (nle rfl) rfl rfl ?_
  intro E hC hN hret
  refine z_aloadn 1 hC 0 dX2_plant_0 rfl rfl rfl ?_
  refine z_iloadn 2 hC 1 dX2_plant_1 rfl rfl rfl ?_
  refine z_iloadn 3 hC 2 dX2_plant_2 rfl rfl rfl ?_
  refine z_iloadn 4 hC 3 dX2_plant_3 rfl rfl rfl ?_
  refine z_iconst 5 hC dX2_plant_4 rfl ?_
  refine z_calli (wr := []) (w2 := fun _ => wMo g m b (thrD tm sr k cx cy 1) hr tm en (ssLo S) (ssSl S) (ssFa S) (ssS S) (ssF S) (ssW S) (kOf (ssO S) (ssP S)) (tbl tm bu sr lg (ssT S)) td ov) 8 hC [0, 1, 2, 3, 4, 5, 6, 7] [] [0, 1, 2, 3, 4, 5, 6, 7] (z_runV (nA := 4) hC hN (c_X2_deed l D g m b th hr tm en td bu sr lg ov S k cx cy 1 hI hSI (by omega) (by omega) (by omega) (by omega)) [0, 1, 2, 3, 4, 5, 6, 7] rfl (by decide) gX2_plant_X2_deed (by decide +kernel) rfl rfl rfl ⟨by decide, by decide⟩ rfl rfl (nle rfl) dX2_plant_5 ⟨by decide, by decide⟩ 0 rfl rfl) rfl rfl (by decide) (by decide) (fun _ => rfl) (by decide) rfl (k2 := 0) (n2 := 0) rfl rfl (fun z_1 _ p_2 => ?_)
  refine z_istore (lv' := [(4, .int (iI z_1)), (0, .ref m), (1, .int (iI k)), (2, .int (iI cx)), (3, .int (iI cy))]) 10 hC dX2_plant_8 rfl (by decide) rfl ?_
  refine z_iload 12 hC 0 dX2_plant_10 rfl rfl ?_
  refine z_iconst 13 hC dX2_plant_12 rfl ?_
  refine z_icmp_ne 18 16 hC dX2_plant_13 (by decide) rfl (by omega) (by omega) (fun c_3 => ?_) (fun c_3 => ?_)
  · skip
    have hD : (thrD tm sr k cx cy 1 = 0 ∧ 0 ≤ k ∧ k < tm ∧ 0 ≤ cx ∧ cx < 12 ∧ 0 ≤ cy ∧ cy < 10 ∧ cx / 3 = k ∧ 1 ≤ 1 ∧ 1 ≤ 5 ∧ 0 < sr k) := by omega
    obtain rfl : z_1 = cx + 12 * cy := by omega
    clear p_2
    have b7 := hsr k (by omega) (by omega)
    have b6 := hs (cx + 12 * cy) (by omega) (by omega)
    have b4 := hw (cx + 12 * cy) (by omega) (by omega)
    have eP := thrP_0 (o := ssO S) (w := ssW S) hD.1
    have eM := mst_cnt hSI (t := k) (by omega)
    have e3 := h3 k (by omega) (by omega)
    have eK := kOf_pos hSI (j := cx + 12 * cy) (by omega)
    have eO := ho (cx + 12 * cy) (by omega) (by omega)
    have eH := hg_bd hs (c := cx + 12 * cy) (by omega)
    refine z_aloadn 19 hC 1 dX2_plant_18 rfl rfl rfl ?_
    refine z_iloadn 20 hC 2 dX2_plant_19 rfl rfl rfl ?_
    refine z_calli (wr := []) (w2 := fun _ => wMo g m b (thrD tm sr k cx cy 1) hr tm en (ssLo S) (ssSl S) (ssFa S) (ssS S) (ssF S) (ssW S) (kOf (ssO S) (ssP S)) (tbl tm bu sr lg (ssT S)) td ov) 23 hC [0, 1, 2, 3, 4, 5, 6, 7] [] [0, 1, 2, 3, 4, 5, 6, 7] (z_runV (nA := 1) hC hN (c_X2_sticksOf l D g m b (thrD tm sr k cx cy 1) hr tm en (ssLo S) (ssSl S) (ssFa S) (ssS S) (ssF S) (ssW S) (kOf (ssO S) (ssP S)) (tbl tm bu sr lg (ssT S)) td ov k (kOf_bd hSB) (by omega)) [0, 1, 2, 3, 4, 5, 6, 7] rfl (by decide) gX2_plant_X2_sticksOf (by decide +kernel) rfl rfl rfl ⟨by decide, by decide⟩ rfl rfl (nle rfl) dX2_plant_20 ⟨by decide, by decide⟩ 0 rfl rfl) rfl rfl (by decide) (by decide) (fun _ => rfl) (by decide) rfl (k2 := 0) (n2 := 0) rfl rfl (fun z_5 _ p_6 => ?_)
    subst p_6
    have y_4 := mst_bd (kOf (ssO S) (ssP S)) k
    refine z_iconst 24 hC dX2_plant_23 rfl ?_
    refine z_icmp_eq 48 27 hC dX2_plant_24 (by decide) rfl (by omega) (by omega) (fun c_7 => ?_) (fun c_7 => ?_)
    · skip
      refine z_aloadn 49 hC 1 dX2_plant_48 rfl rfl rfl ?_
      refine z_iconst 50 hC dX2_plant_49 rfl ?_
      refine z_calli (wr := []) (w2 := fun _ => wMo g m b 3 hr tm en (ssLo S) (ssSl S) (ssFa S) (ssS S) (ssF S) (ssW S) (kOf (ssO S) (ssP S)) (tbl tm bu sr lg (ssT S)) td ov) 53 hC [0, 1, 2, 3, 4, 5, 6, 7] [] [0, 1, 2, 3, 4, 5, 6, 7] (z_runV (nA := 1) hC hN (c_X2_fail l D g m b (thrD tm sr k cx cy 1) hr tm en (ssLo S) (ssSl S) (ssFa S) (ssS S) (ssF S) (ssW S) (kOf (ssO S) (ssP S)) (tbl tm bu sr lg (ssT S)) td ov 3 ) [0, 1, 2, 3, 4, 5, 6, 7] rfl (by decide) gX2_plant_X2_fail (by decide +kernel) rfl rfl rfl ⟨by decide, by decide⟩ rfl rfl (nle rfl) dX2_plant_50 ⟨by decide, by decide⟩ 0 rfl rfl) rfl rfl (by decide) (by decide) (fun _ => rfl) (by decide) rfl (k2 := 0) (n2 := 0) rfl rfl (fun z_8 _ p_9 => ?_)
      subst p_9
      refine z_weq (ws' := wMo g m b (thrP tm sr (ssO S) (ssW S) k cx cy) hr tm en (ssLo S) (ssSl S) (ssFa S) (ssS S) (ssF S) (ssW S) (if thrP tm sr (ssO S) (ssW S) k cx cy = 0 then kOf (up (ssO S) (cx + 12 * cy) k) (up (ssP S) (cx + 12 * cy) (hg (ssS S) (cx + 12 * cy))) else kOf (ssO S) (ssP S)) (if thrP tm sr (ssO S) (ssW S) k cx cy = 0 then tbl tm bu (up sr k (sr k + (-1))) lg (ssT S) else tbl tm bu sr lg (ssT S)) td ov) (zEq.cons (zE1.obj (zfc (by first | (have e9 := thrP_n (o := ssO S) (w := ssW S) (tm := tm) (sr := sr) (k := k) (x := cx) (y := cy) (by omega); omega) | omega) (zfk (zfk (zfk (zfk (zfk (zfk (zfk (zfk (zfk (zfk (zfk (zfk (zfk rfl))))))))))))))) (zEq.cons zE1.rf (zEq.cons zE1.rf (zEq.cons zE1.rf (zEq.cons (zE1.arr (by first | (intro j h0 h1; rfl) | (intro j h0 h1; first | rw [if_pos (by omega)] | rw [if_neg (by omega)] | (have e9 := thrP_n (o := ssO S) (w := ssW S) (tm := tm) (sr := sr) (k := k) (x := cx) (y := cy) (by omega); rw [if_neg (by omega)])))) (zEq.cons (zE1.arr (by first | (intro j h0 h1; rfl) | (intro j h0 h1; first | rw [if_pos (by omega)] | rw [if_neg (by omega)] | (have e9 := thrP_n (o := ssO S) (w := ssW S) (tm := tm) (sr := sr) (k := k) (x := cx) (y := cy) (by omega); rw [if_neg (by omega)])))) (zEq.cons zE1.rf (zEq.cons zE1.rf zEq.nil)))))))) ?_
      exact hret () dX2_plant_53 rfl (by intro q9; first | omega | (have e9 := thrP_n (o := ssO S) (w := ssW S) (tm := tm) (sr := sr) (k := k) (x := cx) (y := cy) (by omega); omega))
    · skip
      refine z_aloadn 28 hC 1 dX2_plant_27 rfl rfl rfl ?_
      refine z_get 31 0 10 hC hinX2 L19 dX2_plant_28 rfl rfl rfl (by decide) rfl ?_
      refine z_iload 33 hC 0 dX2_plant_31 rfl rfl ?_
      refine z_iald 34 4 hC dX2_plant_33 rfl rfl (by decide) (by omega) ?_
      have b_10 := (kOf_bd hSB) (cx + 12 * cy) (by omega) (by omega)
      refine z_if_gt 48 37 hC dX2_plant_34 (by decide) rfl (by omega) (fun c_11 => ?_) (fun c_11 => ?_)
      · skip
        refine z_aloadn 49 hC 1 dX2_plant_48 rfl rfl rfl ?_
        refine z_iconst 50 hC dX2_plant_49 rfl ?_
        refine z_calli (wr := []) (w2 := fun _ => wMo g m b 3 hr tm en (ssLo S) (ssSl S) (ssFa S) (ssS S) (ssF S) (ssW S) (kOf (ssO S) (ssP S)) (tbl tm bu sr lg (ssT S)) td ov) 53 hC [0, 1, 2, 3, 4, 5, 6, 7] [] [0, 1, 2, 3, 4, 5, 6, 7] (z_runV (nA := 1) hC hN (c_X2_fail l D g m b (thrD tm sr k cx cy 1) hr tm en (ssLo S) (ssSl S) (ssFa S) (ssS S) (ssF S) (ssW S) (kOf (ssO S) (ssP S)) (tbl tm bu sr lg (ssT S)) td ov 3 ) [0, 1, 2, 3, 4, 5, 6, 7] rfl (by decide) gX2_plant_X2_fail (by decide +kernel) rfl rfl rfl ⟨by decide, by decide⟩ rfl rfl (nle rfl) dX2_plant_50 ⟨by decide, by decide⟩ 0 rfl rfl) rfl rfl (by decide) (by decide) (fun _ => rfl) (by decide) rfl (k2 := 0) (n2 := 0) rfl rfl (fun z_12 _ p_13 => ?_)
        subst p_13
        refine z_weq (ws' := wMo g m b (thrP tm sr (ssO S) (ssW S) k cx cy) hr tm en (ssLo S) (ssSl S) (ssFa S) (ssS S) (ssF S) (ssW S) (if thrP tm sr (ssO S) (ssW S) k cx cy = 0 then kOf (up (ssO S) (cx + 12 * cy) k) (up (ssP S) (cx + 12 * cy) (hg (ssS S) (cx + 12 * cy))) else kOf (ssO S) (ssP S)) (if thrP tm sr (ssO S) (ssW S) k cx cy = 0 then tbl tm bu (up sr k (sr k + (-1))) lg (ssT S) else tbl tm bu sr lg (ssT S)) td ov) (zEq.cons (zE1.obj (zfc (by first | (have e9 := thrP_n (o := ssO S) (w := ssW S) (tm := tm) (sr := sr) (k := k) (x := cx) (y := cy) (by omega); omega) | omega) (zfk (zfk (zfk (zfk (zfk (zfk (zfk (zfk (zfk (zfk (zfk (zfk (zfk rfl))))))))))))))) (zEq.cons zE1.rf (zEq.cons zE1.rf (zEq.cons zE1.rf (zEq.cons (zE1.arr (by first | (intro j h0 h1; rfl) | (intro j h0 h1; first | rw [if_pos (by omega)] | rw [if_neg (by omega)] | (have e9 := thrP_n (o := ssO S) (w := ssW S) (tm := tm) (sr := sr) (k := k) (x := cx) (y := cy) (by omega); rw [if_neg (by omega)])))) (zEq.cons (zE1.arr (by first | (intro j h0 h1; rfl) | (intro j h0 h1; first | rw [if_pos (by omega)] | rw [if_neg (by omega)] | (have e9 := thrP_n (o := ssO S) (w := ssW S) (tm := tm) (sr := sr) (k := k) (x := cx) (y := cy) (by omega); rw [if_neg (by omega)])))) (zEq.cons zE1.rf (zEq.cons zE1.rf zEq.nil)))))))) ?_
        exact hret () dX2_plant_53 rfl (by intro q9; first | omega | (have e9 := thrP_n (o := ssO S) (w := ssW S) (tm := tm) (sr := sr) (k := k) (x := cx) (y := cy) (by omega); omega))
      · skip
        refine z_aloadn 38 hC 1 dX2_plant_37 rfl rfl rfl ?_
        refine z_get 41 0 9 hC hinX2 L16 dX2_plant_38 rfl rfl rfl (by decide) rfl ?_
        refine z_iload 43 hC 0 dX2_plant_41 rfl rfl ?_
        refine z_iald 44 3 hC dX2_plant_43 rfl rfl (by decide) (by omega) ?_
        have b_14 := hw (cx + 12 * cy) (by omega) (by omega)
        refine z_iconst 45 hC dX2_plant_44 rfl ?_
        refine z_icmp_ne 54 48 hC dX2_plant_45 (by decide) rfl (by omega) (by omega) (fun c_15 => ?_) (fun c_15 => ?_)
        · skip
          refine z_aloadn 55 hC 1 dX2_plant_54 rfl rfl rfl ?_
          refine z_get 58 0 10 hC hinX2 L19 dX2_plant_55 rfl rfl rfl (by decide) rfl ?_
          refine z_iload 60 hC 0 dX2_plant_58 rfl rfl ?_
          refine z_aloadn 61 hC 1 dX2_plant_60 rfl rfl rfl ?_
          refine z_iload 63 hC 0 dX2_plant_61 rfl rfl ?_
          refine z_calli (wr := []) (w2 := fun _ => wMo g m b (thrD tm sr k cx cy 1) hr tm en (ssLo S) (ssSl S) (ssFa S) (ssS S) (ssF S) (ssW S) (kOf (ssO S) (ssP S)) (tbl tm bu sr lg (ssT S)) td ov) 66 hC [0, 1, 2, 3, 4, 5, 6, 7] [] [0, 1, 2, 3, 4, 5, 6, 7] (z_runV (nA := 1) hC hN (c_X2_height l D g m b (thrD tm sr k cx cy 1) hr tm en (ssLo S) (ssSl S) (ssFa S) (ssS S) (ssF S) (ssW S) (kOf (ssO S) (ssP S)) (tbl tm bu sr lg (ssT S)) td ov (cx + 12 * cy) (by omega)) [0, 1, 2, 3, 4, 5, 6, 7] rfl (by decide) gX2_plant_X2_height (by decide +kernel) rfl rfl rfl ⟨by decide, by decide⟩ rfl rfl (nle rfl) dX2_plant_63 ⟨by decide, by decide⟩ 0 rfl rfl) rfl rfl (by decide) (by decide) (fun _ => rfl) (by decide) rfl (k2 := 0) (n2 := 0) rfl rfl (fun z_17 _ p_18 => ?_)
          subst p_18
          have y_16 := hg_bd hs (c := (cx + 12 * cy)) (by omega)
          refine z_iconst 67 hC dX2_plant_66 rfl ?_
          refine z_iadd 68 hC dX2_plant_67 rfl ?_
          refine z_iast (ws' := wMo g m b (thrD tm sr k cx cy 1) hr tm en (ssLo S) (ssSl S) (ssFa S) (ssS S) (ssF S) (ssW S) (up (kOf (ssO S) (ssP S)) (cx + 12 * cy) ((hg (ssS S) (cx + 12 * cy)) + 1)) (tbl tm bu sr lg (ssT S)) td ov) 69 4 hC dX2_plant_68 rfl rfl (by decide) (by omega) rfl ?_
          refine z_weq (ws' := wMo g m b (thrD tm sr k cx cy 1) hr tm en (ssLo S) (ssSl S) (ssFa S) (ssS S) (ssF S) (ssW S) (kOf (up (ssO S) (cx + 12 * cy) k) (up (ssP S) (cx + 12 * cy) (hg (ssS S) (cx + 12 * cy)))) (tbl tm bu sr lg (ssT S)) td ov) (zEq.cons zE1.rf (zEq.cons zE1.rf (zEq.cons zE1.rf (zEq.cons zE1.rf (zEq.cons (zE1.arr (by first | (intro j h0 h1; rfl) | (intro j h0 h1; exact kOf_up (by omega) j))) (zEq.cons zE1.rf (zEq.cons zE1.rf (zEq.cons zE1.rf zEq.nil)))))))) ?_
          have eU := mst_up hSI (c := cx + 12 * cy) (t := k) (x := hg (ssS S) (cx + 12 * cy)) (by omega) (by omega) (by omega) (by omega)
          refine z_aloadn 70 hC 1 dX2_plant_69 rfl rfl rfl ?_
          refine z_iloadn 71 hC 2 dX2_plant_70 rfl rfl rfl ?_
          refine z_iconst 72 hC dX2_plant_71 rfl ?_
          refine z_iconst 73 hC dX2_plant_72 rfl ?_
          refine z_callv (wr := []) (w2 := fun _ => wMo g m b (thrD tm sr k cx cy 1) hr tm en (ssLo S) (ssSl S) (ssFa S) (ssS S) (ssF S) (ssW S) (kOf (up (ssO S) (cx + 12 * cy) k) (up (ssP S) (cx + 12 * cy) (hg (ssS S) (cx + 12 * cy)))) (up (tbl tm bu sr lg (ssT S)) (4 * k + 1) ((tbl tm bu sr lg (ssT S)) (4 * k + 1) + (-1))) td ov) 76 hC [0, 1, 2, 3, 4, 5, 6, 7] [] [0, 1, 2, 3, 4, 5, 6, 7] (z_runV (nA := 3) hC hN (c_X2_add l D g m b (thrD tm sr k cx cy 1) hr tm en (ssLo S) (ssSl S) (ssFa S) (ssS S) (ssF S) (ssW S) (kOf (up (ssO S) (cx + 12 * cy) k) (up (ssP S) (cx + 12 * cy) (hg (ssS S) (cx + 12 * cy)))) (tbl tm bu sr lg (ssT S)) td ov k 1 (-1) (by omega) (by omega)) [0, 1, 2, 3, 4, 5, 6, 7] rfl (by decide) gX2_plant_X2_add (by decide +kernel) rfl rfl rfl ⟨by decide, by decide⟩ rfl rfl (nle rfl) dX2_plant_73 ⟨by decide, by decide⟩ 0 rfl rfl) rfl rfl (by decide) (by decide) (fun _ => rfl) (by decide) rfl (k2 := 0) (n2 := 0) rfl rfl (fun _ p_19 => ?_)
          refine z_weq (ws' := wMo g m b (thrD tm sr k cx cy 1) hr tm en (ssLo S) (ssSl S) (ssFa S) (ssS S) (ssF S) (ssW S) (kOf (up (ssO S) (cx + 12 * cy) k) (up (ssP S) (cx + 12 * cy) (hg (ssS S) (cx + 12 * cy)))) (tbl tm bu (up sr k (sr k + (-1))) lg (ssT S)) td ov) (zEq.cons zE1.rf (zEq.cons zE1.rf (zEq.cons zE1.rf (zEq.cons zE1.rf (zEq.cons zE1.rf (zEq.cons (zE1.arr (by first | (intro j h0 h1; rfl) | (intro j h0 h1; rw [tbl_1 (by omega)]; exact tbl_u1 (by omega) j))) (zEq.cons zE1.rf (zEq.cons zE1.rf zEq.nil)))))))) ?_
          refine z_aloadn 77 hC 1 dX2_plant_76 rfl rfl rfl ?_
          refine z_iloadn 78 hC 2 dX2_plant_77 rfl rfl rfl ?_
          refine z_calli (wr := []) (w2 := fun _ => wMo g m b (thrD tm sr k cx cy 1) hr tm en (ssLo S) (ssSl S) (ssFa S) (ssS S) (ssF S) (ssW S) (kOf (up (ssO S) (cx + 12 * cy) k) (up (ssP S) (cx + 12 * cy) (hg (ssS S) (cx + 12 * cy)))) (tbl tm bu (up sr k (sr k + (-1))) lg (ssT S)) td ov) 81 hC [0, 1, 2, 3, 4, 5, 6, 7] [] [0, 1, 2, 3, 4, 5, 6, 7] (z_runV (nA := 1) hC hN (c_X2_sticksOf l D g m b (thrD tm sr k cx cy 1) hr tm en (ssLo S) (ssSl S) (ssFa S) (ssS S) (ssF S) (ssW S) (kOf (up (ssO S) (cx + 12 * cy) k) (up (ssP S) (cx + 12 * cy) (hg (ssS S) (cx + 12 * cy)))) (tbl tm bu (up sr k (sr k + (-1))) lg (ssT S)) td ov k (kOf_bd2 (Bd_up hp (by omega))) (by omega)) [0, 1, 2, 3, 4, 5, 6, 7] rfl (by decide) gX2_plant_X2_sticksOf (by decide +kernel) rfl rfl rfl ⟨by decide, by decide⟩ rfl rfl (nle rfl) dX2_plant_78 ⟨by decide, by decide⟩ 0 rfl rfl) rfl rfl (by decide) (by decide) (fun _ => rfl) (by decide) rfl (k2 := 0) (n2 := 0) rfl rfl (fun z_21 _ p_22 => ?_)
          subst p_22
          have y_20 := mst_bd (kOf (up (ssO S) (cx + 12 * cy) k) (up (ssP S) (cx + 12 * cy) (hg (ssS S) (cx + 12 * cy)))) k
          refine z_weq (ws' := wMo g m b (thrP tm sr (ssO S) (ssW S) k cx cy) hr tm en (ssLo S) (ssSl S) (ssFa S) (ssS S) (ssF S) (ssW S) (if thrP tm sr (ssO S) (ssW S) k cx cy = 0 then kOf (up (ssO S) (cx + 12 * cy) k) (up (ssP S) (cx + 12 * cy) (hg (ssS S) (cx + 12 * cy))) else kOf (ssO S) (ssP S)) (if thrP tm sr (ssO S) (ssW S) k cx cy = 0 then tbl tm bu (up sr k (sr k + (-1))) lg (ssT S) else tbl tm bu sr lg (ssT S)) td ov) (zEq.cons (zE1.obj (zfc (by first | (have e9 := thrP_n (o := ssO S) (w := ssW S) (tm := tm) (sr := sr) (k := k) (x := cx) (y := cy) (by omega); omega) | omega) (zfk (zfk (zfk (zfk (zfk (zfk (zfk (zfk (zfk (zfk (zfk (zfk (zfk rfl))))))))))))))) (zEq.cons zE1.rf (zEq.cons zE1.rf (zEq.cons zE1.rf (zEq.cons (zE1.arr (by first | (intro j h0 h1; rfl) | (intro j h0 h1; first | rw [if_pos (by omega)] | rw [if_neg (by omega)] | (have e9 := thrP_n (o := ssO S) (w := ssW S) (tm := tm) (sr := sr) (k := k) (x := cx) (y := cy) (by omega); rw [if_neg (by omega)])))) (zEq.cons (zE1.arr (by first | (intro j h0 h1; rfl) | (intro j h0 h1; first | rw [if_pos (by omega)] | rw [if_neg (by omega)] | (have e9 := thrP_n (o := ssO S) (w := ssW S) (tm := tm) (sr := sr) (k := k) (x := cx) (y := cy) (by omega); rw [if_neg (by omega)])))) (zEq.cons zE1.rf (zEq.cons zE1.rf zEq.nil)))))))) ?_
          exact hret () dX2_plant_81 rfl (by intro q9; first | omega | (have e9 := thrP_n (o := ssO S) (w := ssW S) (tm := tm) (sr := sr) (k := k) (x := cx) (y := cy) (by omega); omega))
        · skip
          refine z_aloadn 49 hC 1 dX2_plant_48 rfl rfl rfl ?_
          refine z_iconst 50 hC dX2_plant_49 rfl ?_
          refine z_calli (wr := []) (w2 := fun _ => wMo g m b 3 hr tm en (ssLo S) (ssSl S) (ssFa S) (ssS S) (ssF S) (ssW S) (kOf (ssO S) (ssP S)) (tbl tm bu sr lg (ssT S)) td ov) 53 hC [0, 1, 2, 3, 4, 5, 6, 7] [] [0, 1, 2, 3, 4, 5, 6, 7] (z_runV (nA := 1) hC hN (c_X2_fail l D g m b (thrD tm sr k cx cy 1) hr tm en (ssLo S) (ssSl S) (ssFa S) (ssS S) (ssF S) (ssW S) (kOf (ssO S) (ssP S)) (tbl tm bu sr lg (ssT S)) td ov 3 ) [0, 1, 2, 3, 4, 5, 6, 7] rfl (by decide) gX2_plant_X2_fail (by decide +kernel) rfl rfl rfl ⟨by decide, by decide⟩ rfl rfl (nle rfl) dX2_plant_50 ⟨by decide, by decide⟩ 0 rfl rfl) rfl rfl (by decide) (by decide) (fun _ => rfl) (by decide) rfl (k2 := 0) (n2 := 0) rfl rfl (fun z_23 _ p_24 => ?_)
          subst p_24
          refine z_weq (ws' := wMo g m b (thrP tm sr (ssO S) (ssW S) k cx cy) hr tm en (ssLo S) (ssSl S) (ssFa S) (ssS S) (ssF S) (ssW S) (if thrP tm sr (ssO S) (ssW S) k cx cy = 0 then kOf (up (ssO S) (cx + 12 * cy) k) (up (ssP S) (cx + 12 * cy) (hg (ssS S) (cx + 12 * cy))) else kOf (ssO S) (ssP S)) (if thrP tm sr (ssO S) (ssW S) k cx cy = 0 then tbl tm bu (up sr k (sr k + (-1))) lg (ssT S) else tbl tm bu sr lg (ssT S)) td ov) (zEq.cons (zE1.obj (zfc (by first | (have e9 := thrP_n (o := ssO S) (w := ssW S) (tm := tm) (sr := sr) (k := k) (x := cx) (y := cy) (by omega); omega) | omega) (zfk (zfk (zfk (zfk (zfk (zfk (zfk (zfk (zfk (zfk (zfk (zfk (zfk rfl))))))))))))))) (zEq.cons zE1.rf (zEq.cons zE1.rf (zEq.cons zE1.rf (zEq.cons (zE1.arr (by first | (intro j h0 h1; rfl) | (intro j h0 h1; first | rw [if_pos (by omega)] | rw [if_neg (by omega)] | (have e9 := thrP_n (o := ssO S) (w := ssW S) (tm := tm) (sr := sr) (k := k) (x := cx) (y := cy) (by omega); rw [if_neg (by omega)])))) (zEq.cons (zE1.arr (by first | (intro j h0 h1; rfl) | (intro j h0 h1; first | rw [if_pos (by omega)] | rw [if_neg (by omega)] | (have e9 := thrP_n (o := ssO S) (w := ssW S) (tm := tm) (sr := sr) (k := k) (x := cx) (y := cy) (by omega); rw [if_neg (by omega)])))) (zEq.cons zE1.rf (zEq.cons zE1.rf zEq.nil)))))))) ?_
          exact hret () dX2_plant_53 rfl (by intro q9; first | omega | (have e9 := thrP_n (o := ssO S) (w := ssW S) (tm := tm) (sr := sr) (k := k) (x := cx) (y := cy) (by omega); omega))
  · skip
    refine z_iconst 17 hC dX2_plant_16 rfl ?_
    refine z_weq (ws' := wMo g m b (thrP tm sr (ssO S) (ssW S) k cx cy) hr tm en (ssLo S) (ssSl S) (ssFa S) (ssS S) (ssF S) (ssW S) (if thrP tm sr (ssO S) (ssW S) k cx cy = 0 then kOf (up (ssO S) (cx + 12 * cy) k) (up (ssP S) (cx + 12 * cy) (hg (ssS S) (cx + 12 * cy))) else kOf (ssO S) (ssP S)) (if thrP tm sr (ssO S) (ssW S) k cx cy = 0 then tbl tm bu (up sr k (sr k + (-1))) lg (ssT S) else tbl tm bu sr lg (ssT S)) td ov) (zEq.cons (zE1.obj (zfc (by first | (have e9 := thrP_n (o := ssO S) (w := ssW S) (tm := tm) (sr := sr) (k := k) (x := cx) (y := cy) (by omega); omega) | omega) (zfk (zfk (zfk (zfk (zfk (zfk (zfk (zfk (zfk (zfk (zfk (zfk (zfk rfl))))))))))))))) (zEq.cons zE1.rf (zEq.cons zE1.rf (zEq.cons zE1.rf (zEq.cons (zE1.arr (by first | (intro j h0 h1; rfl) | (intro j h0 h1; first | rw [if_pos (by omega)] | rw [if_neg (by omega)] | (have e9 := thrP_n (o := ssO S) (w := ssW S) (tm := tm) (sr := sr) (k := k) (x := cx) (y := cy) (by omega); rw [if_neg (by omega)])))) (zEq.cons (zE1.arr (by first | (intro j h0 h1; rfl) | (intro j h0 h1; first | rw [if_pos (by omega)] | rw [if_neg (by omega)] | (have e9 := thrP_n (o := ssO S) (w := ssW S) (tm := tm) (sr := sr) (k := k) (x := cx) (y := cy) (by omega); rw [if_neg (by omega)])))) (zEq.cons zE1.rf (zEq.cons zE1.rf zEq.nil)))))))) ?_
    exact hret () dX2_plant_17 rfl (by intro q9; first | omega | (have e9 := thrP_n (o := ssO S) (w := ssW S) (tm := tm) (sr := sr) (k := k) (x := cx) (y := cy) (by omega); omega))
set_option maxHeartbeats 4000000 in
set_option maxRecDepth 100000 in
theorem c_X2_cell (l : Launch) (D : va_G) (g : Nat → ClassId) (m : Nat) (b : Nat → Nat) (th hr tm en : Int) (td bu sr lg ov : Int → Int) (S : SS) (cx : Int) (cy : Int) (v : Int) (hI : LI td bu sr lg tm hr S) (hSI : SI tm S) (hcx : -2147483648 ≤ cx ∧ cx ≤ 2147483647) (hcy : -2147483648 ≤ cy ∧ cy ≤ 2147483647) (hv : -2147483648 ≤ v ∧ v ≤ 2147483647) : ZMi (S := Unit) l yX2_cell wsX2_cell ({ frames := 2, cells := 0, slots := 0, locals := 100 }) D g [.ref m, .int (iI cx), .int (iI cy), .int (iI v)] (wMo g m b th hr tm en (ssLo S) (ssSl S) (ssFa S) (ssS S) (ssF S) (ssW S) (kOf (ssO S) (ssP S)) (tbl tm bu sr lg (ssT S)) td ov) (fun z _ => (0 ≤ cx ∧ cx < 12 ∧ 0 ≤ cy ∧ cy < 10 ∧ 0 ≤ v ∧ v < 6) → z = tclS (ssS S) (ssF S) (ssW S) (ssO S) (ssP S) (cx + 12 * cy) v) (fun _ => wMo g m b (if 0 ≤ cx ∧ cx < 12 ∧ 0 ≤ cy ∧ cy < 10 ∧ 0 ≤ v ∧ v < 6 then 0 else 1) hr tm en (ssLo S) (ssSl S) (ssFa S) (ssS S) (ssF S) (ssW S) (kOf (ssO S) (ssP S)) (tbl tm bu sr lg (ssT S)) td ov) 0 0 := by
  have hinX2 : ∀ w ∈ u_ws RX2 TX2 14, w ∈ wsX2_cell := by decide +kernel
  have L35 : Cond.fieldLink RX2 35 "SandcastleLeagueModel" "thrown" "I" ∈ wsX2_cell := by decide +kernel
  obtain ⟨htd, hbu, hsr, hlg, htm, hhr, hSB, hT⟩ := id hI
  obtain ⟨hs, hf, hw, ho, hp⟩ := id hSB
  refine ZMi.of (own := RX2) cX2_cell 4 [(0, .ref m), (1, .int (iI cx)), (2, .int (iI cy)), (3, .int (iI v))] (by decide +kernel) rfl (nle rfl) rfl rfl ?_
  intro E hC hN hret
  refine z_aloadn 1 hC 0 dX2_cell_0 rfl rfl rfl ?_
  refine z_iconst 2 hC dX2_cell_1 rfl ?_
  refine z_put (ty := .int) (ws' := wMo g m b 0 hr tm en (ssLo S) (ssSl S) (ssFa S) (ssS S) (ssF S) (ssW S) (kOf (ssO S) (ssP S)) (tbl tm bu sr lg (ssT S)) td ov) 5 0 0 hC tyX2 tyX2_ok nmX2 hinX2 L35 dX2_cell_2 rfl rfl rfl (by decide) rfl (by decide +kernel) rfl rfl (nle rfl) rfl ?_
  refine z_iloadn 6 hC 1 dX2_cell_5 rfl rfl rfl ?_
  refine z_iconst 7 hC dX2_cell_6 rfl ?_
  refine z_bipush 9 hC dX2_cell_7 (by decide) rfl ?_
  refine z_calli (wr := [(m, .inr (2, [.int (iI 0), .int (iI hr), .int (iI tm), .int (iI en), .int (iI (ssLo S)), .int (iI (ssSl S)), .int (iI (ssFa S)), .ref (b 0), .ref (b 1), .ref (b 2), .ref (b 3), .ref (b 4), .ref (b 5), .ref (b 6)])), ((b 0), ar g 120 (ssS S)), ((b 1), ar g 120 (ssF S)), ((b 2), ar g 120 (ssW S)), ((b 3), ar g 120 (kOf (ssO S) (ssP S))), ((b 4), ar g 16 (tbl tm bu sr lg (ssT S))), ((b 5), ar g 12 td), ((b 6), ar g 120 ov)]) (w2 := fun _ => wMo g m b 0 hr tm en (ssLo S) (ssSl S) (ssFa S) (ssS S) (ssF S) (ssW S) (kOf (ssO S) (ssP S)) (tbl tm bu sr lg (ssT S)) td ov) 12 hC [] [0, 1, 2, 3, 4, 5, 6, 7] [0, 1, 2, 3, 4, 5, 6, 7] (z_runS (nA := 3) hC hN (c_X2_isIn l D g cx 0 11 (by omega) (by omega) (by omega)) [] rfl (by decide) gX2_cell_X2_isIn (by decide +kernel) rfl rfl rfl ⟨by decide, by decide⟩ rfl rfl (nle rfl) dX2_cell_9 ⟨by decide, by decide⟩) rfl rfl (by decide) (by decide) (fun _ => rfl) (by decide) rfl (k2 := 0) (n2 := 0) rfl rfl (fun z_1 _ p_2 => ?_)
  refine z_if_eq 48 15 hC dX2_cell_12 (by decide) rfl (by omega) (fun c_3 => ?_) (fun c_3 => ?_)
  · skip
    refine z_aloadn 49 hC 0 dX2_cell_48 rfl rfl rfl ?_
    refine z_iconst 50 hC dX2_cell_49 rfl ?_
    refine z_calli (wr := []) (w2 := fun _ => wMo g m b 1 hr tm en (ssLo S) (ssSl S) (ssFa S) (ssS S) (ssF S) (ssW S) (kOf (ssO S) (ssP S)) (tbl tm bu sr lg (ssT S)) td ov) 53 hC [0, 1, 2, 3, 4, 5, 6, 7] [] [0, 1, 2, 3, 4, 5, 6, 7] (z_runV (nA := 1) hC hN (c_X2_fail l D g m b 0 hr tm en (ssLo S) (ssSl S) (ssFa S) (ssS S) (ssF S) (ssW S) (kOf (ssO S) (ssP S)) (tbl tm bu sr lg (ssT S)) td ov 1 ) [0, 1, 2, 3, 4, 5, 6, 7] rfl (by decide) gX2_cell_X2_fail (by decide +kernel) rfl rfl rfl ⟨by decide, by decide⟩ rfl rfl (nle rfl) dX2_cell_50 ⟨by decide, by decide⟩ 0 rfl rfl) rfl rfl (by decide) (by decide) (fun _ => rfl) (by decide) rfl (k2 := 0) (n2 := 0) rfl rfl (fun z_4 _ p_5 => ?_)
    subst p_5
    refine z_weq (ws' := wMo g m b (if 0 ≤ cx ∧ cx < 12 ∧ 0 ≤ cy ∧ cy < 10 ∧ 0 ≤ v ∧ v < 6 then 0 else 1) hr tm en (ssLo S) (ssSl S) (ssFa S) (ssS S) (ssF S) (ssW S) (kOf (ssO S) (ssP S)) (tbl tm bu sr lg (ssT S)) td ov) (zEq.cons (zE1.obj (zfc (by omega) (zfk (zfk (zfk (zfk (zfk (zfk (zfk (zfk (zfk (zfk (zfk (zfk (zfk rfl))))))))))))))) (zEq.cons zE1.rf (zEq.cons zE1.rf (zEq.cons zE1.rf (zEq.cons zE1.rf (zEq.cons zE1.rf (zEq.cons zE1.rf (zEq.cons zE1.rf zEq.nil)))))))) ?_
    exact hret () dX2_cell_53 rfl (by intro q9; first | exact mcT_eq hSI (by omega) v | omega)
  · skip
    refine z_iloadn 16 hC 2 dX2_cell_15 rfl rfl rfl ?_
    refine z_iconst 17 hC dX2_cell_16 rfl ?_
    refine z_bipush 19 hC dX2_cell_17 (by decide) rfl ?_
    refine z_calli (wr := [(m, .inr (2, [.int (iI 0), .int (iI hr), .int (iI tm), .int (iI en), .int (iI (ssLo S)), .int (iI (ssSl S)), .int (iI (ssFa S)), .ref (b 0), .ref (b 1), .ref (b 2), .ref (b 3), .ref (b 4), .ref (b 5), .ref (b 6)])), ((b 0), ar g 120 (ssS S)), ((b 1), ar g 120 (ssF S)), ((b 2), ar g 120 (ssW S)), ((b 3), ar g 120 (kOf (ssO S) (ssP S))), ((b 4), ar g 16 (tbl tm bu sr lg (ssT S))), ((b 5), ar g 12 td), ((b 6), ar g 120 ov)]) (w2 := fun _ => wMo g m b 0 hr tm en (ssLo S) (ssSl S) (ssFa S) (ssS S) (ssF S) (ssW S) (kOf (ssO S) (ssP S)) (tbl tm bu sr lg (ssT S)) td ov) 22 hC [] [0, 1, 2, 3, 4, 5, 6, 7] [0, 1, 2, 3, 4, 5, 6, 7] (z_runS (nA := 3) hC hN (c_X2_isIn l D g cy 0 9 (by omega) (by omega) (by omega)) [] rfl (by decide) gX2_cell_X2_isIn (by decide +kernel) rfl rfl rfl ⟨by decide, by decide⟩ rfl rfl (nle rfl) dX2_cell_19 ⟨by decide, by decide⟩) rfl rfl (by decide) (by decide) (fun _ => rfl) (by decide) rfl (k2 := 0) (n2 := 0) rfl rfl (fun z_6 _ p_7 => ?_)
    refine z_if_eq 48 25 hC dX2_cell_22 (by decide) rfl (by omega) (fun c_8 => ?_) (fun c_8 => ?_)
    · skip
      refine z_aloadn 49 hC 0 dX2_cell_48 rfl rfl rfl ?_
      refine z_iconst 50 hC dX2_cell_49 rfl ?_
      refine z_calli (wr := []) (w2 := fun _ => wMo g m b 1 hr tm en (ssLo S) (ssSl S) (ssFa S) (ssS S) (ssF S) (ssW S) (kOf (ssO S) (ssP S)) (tbl tm bu sr lg (ssT S)) td ov) 53 hC [0, 1, 2, 3, 4, 5, 6, 7] [] [0, 1, 2, 3, 4, 5, 6, 7] (z_runV (nA := 1) hC hN (c_X2_fail l D g m b 0 hr tm en (ssLo S) (ssSl S) (ssFa S) (ssS S) (ssF S) (ssW S) (kOf (ssO S) (ssP S)) (tbl tm bu sr lg (ssT S)) td ov 1 ) [0, 1, 2, 3, 4, 5, 6, 7] rfl (by decide) gX2_cell_X2_fail (by decide +kernel) rfl rfl rfl ⟨by decide, by decide⟩ rfl rfl (nle rfl) dX2_cell_50 ⟨by decide, by decide⟩ 0 rfl rfl) rfl rfl (by decide) (by decide) (fun _ => rfl) (by decide) rfl (k2 := 0) (n2 := 0) rfl rfl (fun z_9 _ p_10 => ?_)
      subst p_10
      refine z_weq (ws' := wMo g m b (if 0 ≤ cx ∧ cx < 12 ∧ 0 ≤ cy ∧ cy < 10 ∧ 0 ≤ v ∧ v < 6 then 0 else 1) hr tm en (ssLo S) (ssSl S) (ssFa S) (ssS S) (ssF S) (ssW S) (kOf (ssO S) (ssP S)) (tbl tm bu sr lg (ssT S)) td ov) (zEq.cons (zE1.obj (zfc (by omega) (zfk (zfk (zfk (zfk (zfk (zfk (zfk (zfk (zfk (zfk (zfk (zfk (zfk rfl))))))))))))))) (zEq.cons zE1.rf (zEq.cons zE1.rf (zEq.cons zE1.rf (zEq.cons zE1.rf (zEq.cons zE1.rf (zEq.cons zE1.rf (zEq.cons zE1.rf zEq.nil)))))))) ?_
      exact hret () dX2_cell_53 rfl (by intro q9; first | exact mcT_eq hSI (by omega) v | omega)
    · skip
      refine z_iloadn 26 hC 3 dX2_cell_25 rfl rfl rfl ?_
      refine z_iconst 27 hC dX2_cell_26 rfl ?_
      refine z_iconst 28 hC dX2_cell_27 rfl ?_
      refine z_calli (wr := [(m, .inr (2, [.int (iI 0), .int (iI hr), .int (iI tm), .int (iI en), .int (iI (ssLo S)), .int (iI (ssSl S)), .int (iI (ssFa S)), .ref (b 0), .ref (b 1), .ref (b 2), .ref (b 3), .ref (b 4), .ref (b 5), .ref (b 6)])), ((b 0), ar g 120 (ssS S)), ((b 1), ar g 120 (ssF S)), ((b 2), ar g 120 (ssW S)), ((b 3), ar g 120 (kOf (ssO S) (ssP S))), ((b 4), ar g 16 (tbl tm bu sr lg (ssT S))), ((b 5), ar g 12 td), ((b 6), ar g 120 ov)]) (w2 := fun _ => wMo g m b 0 hr tm en (ssLo S) (ssSl S) (ssFa S) (ssS S) (ssF S) (ssW S) (kOf (ssO S) (ssP S)) (tbl tm bu sr lg (ssT S)) td ov) 31 hC [] [0, 1, 2, 3, 4, 5, 6, 7] [0, 1, 2, 3, 4, 5, 6, 7] (z_runS (nA := 3) hC hN (c_X2_isIn l D g v 0 5 (by omega) (by omega) (by omega)) [] rfl (by decide) gX2_cell_X2_isIn (by decide +kernel) rfl rfl rfl ⟨by decide, by decide⟩ rfl rfl (nle rfl) dX2_cell_28 ⟨by decide, by decide⟩) rfl rfl (by decide) (by decide) (fun _ => rfl) (by decide) rfl (k2 := 0) (n2 := 0) rfl rfl (fun z_11 _ p_12 => ?_)
      refine z_if_eq 48 34 hC dX2_cell_31 (by decide) rfl (by omega) (fun c_13 => ?_) (fun c_13 => ?_)
      · skip
        refine z_aloadn 49 hC 0 dX2_cell_48 rfl rfl rfl ?_
        refine z_iconst 50 hC dX2_cell_49 rfl ?_
        refine z_calli (wr := []) (w2 := fun _ => wMo g m b 1 hr tm en (ssLo S) (ssSl S) (ssFa S) (ssS S) (ssF S) (ssW S) (kOf (ssO S) (ssP S)) (tbl tm bu sr lg (ssT S)) td ov) 53 hC [0, 1, 2, 3, 4, 5, 6, 7] [] [0, 1, 2, 3, 4, 5, 6, 7] (z_runV (nA := 1) hC hN (c_X2_fail l D g m b 0 hr tm en (ssLo S) (ssSl S) (ssFa S) (ssS S) (ssF S) (ssW S) (kOf (ssO S) (ssP S)) (tbl tm bu sr lg (ssT S)) td ov 1 ) [0, 1, 2, 3, 4, 5, 6, 7] rfl (by decide) gX2_cell_X2_fail (by decide +kernel) rfl rfl rfl ⟨by decide, by decide⟩ rfl rfl (nle rfl) dX2_cell_50 ⟨by decide, by decide⟩ 0 rfl rfl) rfl rfl (by decide) (by decide) (fun _ => rfl) (by decide) rfl (k2 := 0) (n2 := 0) rfl rfl (fun z_14 _ p_15 => ?_)
        subst p_15
        refine z_weq (ws' := wMo g m b (if 0 ≤ cx ∧ cx < 12 ∧ 0 ≤ cy ∧ cy < 10 ∧ 0 ≤ v ∧ v < 6 then 0 else 1) hr tm en (ssLo S) (ssSl S) (ssFa S) (ssS S) (ssF S) (ssW S) (kOf (ssO S) (ssP S)) (tbl tm bu sr lg (ssT S)) td ov) (zEq.cons (zE1.obj (zfc (by omega) (zfk (zfk (zfk (zfk (zfk (zfk (zfk (zfk (zfk (zfk (zfk (zfk (zfk rfl))))))))))))))) (zEq.cons zE1.rf (zEq.cons zE1.rf (zEq.cons zE1.rf (zEq.cons zE1.rf (zEq.cons zE1.rf (zEq.cons zE1.rf (zEq.cons zE1.rf zEq.nil)))))))) ?_
        exact hret () dX2_cell_53 rfl (by intro q9; first | exact mcT_eq hSI (by omega) v | omega)
      · skip
        refine z_aloadn 35 hC 0 dX2_cell_34 rfl rfl rfl ?_
        refine z_iloadn 36 hC 1 dX2_cell_35 rfl rfl rfl ?_
        refine z_bipush 38 hC dX2_cell_36 (by decide) rfl ?_
        refine z_iloadn 39 hC 2 dX2_cell_38 rfl rfl rfl ?_
        refine z_imul 40 hC dX2_cell_39 rfl ?_
        refine z_iadd 41 hC dX2_cell_40 rfl ?_
        refine z_iloadn 42 hC 3 dX2_cell_41 rfl rfl rfl ?_
        refine z_calli (wr := []) (w2 := fun _ => wMo g m b 0 hr tm en (ssLo S) (ssSl S) (ssFa S) (ssS S) (ssF S) (ssW S) (kOf (ssO S) (ssP S)) (tbl tm bu sr lg (ssT S)) td ov) 45 hC [0, 1, 2, 3, 4, 5, 6, 7] [] [0, 1, 2, 3, 4, 5, 6, 7] (z_runV (nA := 2) hC hN (c_X2_cellTold l D g m b 0 hr tm en (ssLo S) (ssSl S) (ssFa S) (ssS S) (ssF S) (ssW S) (kOf (ssO S) (ssP S)) (tbl tm bu sr lg (ssT S)) td ov (cx + (12 * cy)) v (kOf_bd hSB) (by omega) (by omega)) [0, 1, 2, 3, 4, 5, 6, 7] rfl (by decide) gX2_cell_X2_cellTold (by decide +kernel) rfl rfl rfl ⟨by decide, by decide⟩ rfl rfl (nle rfl) dX2_cell_42 ⟨by decide, by decide⟩ 0 rfl rfl) rfl rfl (by decide) (by decide) (fun _ => rfl) (by decide) rfl (k2 := 0) (n2 := 0) rfl rfl (fun z_16 _ p_17 => ?_)
        subst p_17
        refine z_goto 53 hC dX2_cell_45 (by decide) ?_
        refine z_weq (ws' := wMo g m b (if 0 ≤ cx ∧ cx < 12 ∧ 0 ≤ cy ∧ cy < 10 ∧ 0 ≤ v ∧ v < 6 then 0 else 1) hr tm en (ssLo S) (ssSl S) (ssFa S) (ssS S) (ssF S) (ssW S) (kOf (ssO S) (ssP S)) (tbl tm bu sr lg (ssT S)) td ov) (zEq.cons (zE1.obj (zfc (by omega) (zfk (zfk (zfk (zfk (zfk (zfk (zfk (zfk (zfk (zfk (zfk (zfk (zfk rfl))))))))))))))) (zEq.cons zE1.rf (zEq.cons zE1.rf (zEq.cons zE1.rf (zEq.cons zE1.rf (zEq.cons zE1.rf (zEq.cons zE1.rf (zEq.cons zE1.rf zEq.nil)))))))) ?_
        exact hret () dX2_cell_53 rfl (by intro q9; first | exact mcT_eq hSI (by omega) v | omega)
set_option maxHeartbeats 4000000 in
set_option maxRecDepth 100000 in
theorem c_X2_teamTold (l : Launch) (D : va_G) (g : Nat → ClassId) (m : Nat) (b : Nat → Nat) (th hr tm en : Int) (td bu sr lg ov : Int → Int) (S : SS) (k : Int) (v : Int) (hI : LI td bu sr lg tm hr S) (hSI : SI tm S) (hk : 0 ≤ k ∧ k < tm) (hv : 0 ≤ v ∧ v < 8) : ZMi (S := Unit) l yX2_teamTold wsX2_teamTold ({ frames := 2, cells := 0, slots := 0, locals := 110 }) D g [.ref m, .int (iI k), .int (iI v)] (wMo g m b th hr tm en (ssLo S) (ssSl S) (ssFa S) (ssS S) (ssF S) (ssW S) (kOf (ssO S) (ssP S)) (tbl tm bu sr lg (ssT S)) td ov) (fun z _ => z = tV bu sr lg S k v) (fun _ => wMo g m b th hr tm en (ssLo S) (ssSl S) (ssFa S) (ssS S) (ssF S) (ssW S) (kOf (ssO S) (ssP S)) (tbl tm bu sr lg (ssT S)) td ov) 0 0 := by
  obtain ⟨htd, hbu, hsr, hlg, htm, hhr, hSB, hT⟩ := id hI
  obtain ⟨hs, hf, hw, ho, hp⟩ := id hSB
  have e1 := mst_cnt hSI (t := k) hk.1
  refine ZMi.of (own := RX2) cX2_teamTold 3 [(0, .ref m), (1, .int (iI k)), (2, .int (iI v))] (by decide +kernel) rfl (nle rfl) rfl rfl ?_
  intro E hC hN hret
  refine z_iloadn 1 hC 2 dX2_teamTold_0 rfl rfl rfl ?_
  refine z_iconst 2 hC dX2_teamTold_1 rfl ?_
  refine z_icmp_ge 12 5 hC dX2_teamTold_2 (by decide) rfl (by omega) (by omega) (fun c_1 => ?_) (fun c_1 => ?_)
  · skip
    refine z_iloadn 13 hC 2 dX2_teamTold_12 rfl rfl rfl ?_
    refine z_iconst 14 hC dX2_teamTold_13 rfl ?_
    refine z_icmp_ne 25 17 hC dX2_teamTold_14 (by decide) rfl (by omega) (by omega) (fun c_2 => ?_) (fun c_2 => ?_)
    · skip
      refine z_iloadn 26 hC 2 dX2_teamTold_25 rfl rfl rfl ?_
      refine z_bipush 28 hC dX2_teamTold_26 (by decide) rfl ?_
      refine z_icmp_ne 40 31 hC dX2_teamTold_28 (by decide) rfl (by omega) (by omega) (fun c_3 => ?_) (fun c_3 => ?_)
      · skip
        refine z_aloadn 41 hC 0 dX2_teamTold_40 rfl rfl rfl ?_
        refine z_iloadn 42 hC 1 dX2_teamTold_41 rfl rfl rfl ?_
        refine z_iloadn 43 hC 2 dX2_teamTold_42 rfl rfl rfl ?_
        refine z_calli (wr := []) (w2 := fun _ => wMo g m b th hr tm en (ssLo S) (ssSl S) (ssFa S) (ssS S) (ssF S) (ssW S) (kOf (ssO S) (ssP S)) (tbl tm bu sr lg (ssT S)) td ov) 46 hC [0, 1, 2, 3, 4, 5, 6, 7] [] [0, 1, 2, 3, 4, 5, 6, 7] (z_runV (nA := 2) hC hN (c_X2_areaOf l D g m b th hr tm en (ssLo S) (ssSl S) (ssFa S) (ssS S) (ssF S) (ssW S) (kOf (ssO S) (ssP S)) (tbl tm bu sr lg (ssT S)) td ov k v hs hw (by omega) (by omega)) [0, 1, 2, 3, 4, 5, 6, 7] rfl (by decide) gX2_teamTold_X2_areaOf (by decide +kernel) rfl rfl rfl ⟨by decide, by decide⟩ rfl rfl (nle rfl) dX2_teamTold_43 ⟨by decide, by decide⟩ 0 rfl rfl) rfl rfl (by decide) (by decide) (fun _ => rfl) (by decide) rfl (k2 := 0) (n2 := 0) rfl rfl (fun z_4 _ p_5 => ?_)
        subst p_5
        exact hret () dX2_teamTold_46 rfl (by first | (unfold tV; omega) | (rw [tbl_v hk (by omega)]; unfold tV; omega) | (rw [mar_tv _ _ hk.1 (by omega)]; unfold tV; omega))
      · skip
        refine z_aloadn 32 hC 0 dX2_teamTold_31 rfl rfl rfl ?_
        refine z_iloadn 33 hC 1 dX2_teamTold_32 rfl rfl rfl ?_
        refine z_iconst 34 hC dX2_teamTold_33 rfl ?_
        refine z_calli (wr := []) (w2 := fun _ => wMo g m b th hr tm en (ssLo S) (ssSl S) (ssFa S) (ssS S) (ssF S) (ssW S) (kOf (ssO S) (ssP S)) (tbl tm bu sr lg (ssT S)) td ov) 37 hC [0, 1, 2, 3, 4, 5, 6, 7] [] [0, 1, 2, 3, 4, 5, 6, 7] (z_runV (nA := 2) hC hN (c_X2_get l D g m b th hr tm en (ssLo S) (ssSl S) (ssFa S) (ssS S) (ssF S) (ssW S) (kOf (ssO S) (ssP S)) (tbl tm bu sr lg (ssT S)) td ov k 3 (by omega) (by omega)) [0, 1, 2, 3, 4, 5, 6, 7] rfl (by decide) gX2_teamTold_X2_get (by decide +kernel) rfl rfl rfl ⟨by decide, by decide⟩ rfl rfl (nle rfl) dX2_teamTold_34 ⟨by decide, by decide⟩ 0 rfl rfl) rfl rfl (by decide) (by decide) (fun _ => rfl) (by decide) rfl (k2 := 0) (n2 := 0) rfl rfl (fun z_6 _ p_7 => ?_)
        have p_7t : z_6 = lg k := p_7.trans (tbl_3 (by omega))
        clear p_7
        subst p_7t
        refine z_goto 46 hC dX2_teamTold_37 (by decide) ?_
        exact hret () dX2_teamTold_46 rfl (by first | (unfold tV; omega) | (rw [tbl_v hk (by omega)]; unfold tV; omega) | (rw [mar_tv _ _ hk.1 (by omega)]; unfold tV; omega))
    · skip
      refine z_aloadn 18 hC 0 dX2_teamTold_17 rfl rfl rfl ?_
      refine z_iloadn 19 hC 1 dX2_teamTold_18 rfl rfl rfl ?_
      refine z_calli (wr := []) (w2 := fun _ => wMo g m b th hr tm en (ssLo S) (ssSl S) (ssFa S) (ssS S) (ssF S) (ssW S) (kOf (ssO S) (ssP S)) (tbl tm bu sr lg (ssT S)) td ov) 22 hC [0, 1, 2, 3, 4, 5, 6, 7] [] [0, 1, 2, 3, 4, 5, 6, 7] (z_runV (nA := 1) hC hN (c_X2_sticksOf l D g m b th hr tm en (ssLo S) (ssSl S) (ssFa S) (ssS S) (ssF S) (ssW S) (kOf (ssO S) (ssP S)) (tbl tm bu sr lg (ssT S)) td ov k (kOf_bd hSB) (by omega)) [0, 1, 2, 3, 4, 5, 6, 7] rfl (by decide) gX2_teamTold_X2_sticksOf (by decide +kernel) rfl rfl rfl ⟨by decide, by decide⟩ rfl rfl (nle rfl) dX2_teamTold_19 ⟨by decide, by decide⟩ 0 rfl rfl) rfl rfl (by decide) (by decide) (fun _ => rfl) (by decide) rfl (k2 := 0) (n2 := 0) rfl rfl (fun z_9 _ p_10 => ?_)
      subst p_10
      have y_8 := mst_bd (kOf (ssO S) (ssP S)) k
      refine z_goto 46 hC dX2_teamTold_22 (by decide) ?_
      exact hret () dX2_teamTold_46 rfl (by first | (unfold tV; omega) | (rw [tbl_v hk (by omega)]; unfold tV; omega) | (rw [mar_tv _ _ hk.1 (by omega)]; unfold tV; omega))
  · skip
    refine z_aloadn 6 hC 0 dX2_teamTold_5 rfl rfl rfl ?_
    refine z_iloadn 7 hC 1 dX2_teamTold_6 rfl rfl rfl ?_
    refine z_iloadn 8 hC 2 dX2_teamTold_7 rfl rfl rfl ?_
    refine z_calli (wr := []) (w2 := fun _ => wMo g m b th hr tm en (ssLo S) (ssSl S) (ssFa S) (ssS S) (ssF S) (ssW S) (kOf (ssO S) (ssP S)) (tbl tm bu sr lg (ssT S)) td ov) 11 hC [0, 1, 2, 3, 4, 5, 6, 7] [] [0, 1, 2, 3, 4, 5, 6, 7] (z_runV (nA := 2) hC hN (c_X2_get l D g m b th hr tm en (ssLo S) (ssSl S) (ssFa S) (ssS S) (ssF S) (ssW S) (kOf (ssO S) (ssP S)) (tbl tm bu sr lg (ssT S)) td ov k v (by omega) (by omega)) [0, 1, 2, 3, 4, 5, 6, 7] rfl (by decide) gX2_teamTold_X2_get (by decide +kernel) rfl rfl rfl ⟨by decide, by decide⟩ rfl rfl (nle rfl) dX2_teamTold_8 ⟨by decide, by decide⟩ 0 rfl rfl) rfl rfl (by decide) (by decide) (fun _ => rfl) (by decide) rfl (k2 := 0) (n2 := 0) rfl rfl (fun z_11 _ p_12 => ?_)
    subst p_12
    exact hret () dX2_teamTold_11 rfl (by first | (unfold tV; omega) | (rw [tbl_v hk (by omega)]; unfold tV; omega) | (rw [mar_tv _ _ hk.1 (by omega)]; unfold tV; omega))
set_option maxHeartbeats 4000000 in
set_option maxRecDepth 100000 in
theorem c_X2_team (l : Launch) (D : va_G) (g : Nat → ClassId) (m : Nat) (b : Nat → Nat) (th hr tm en : Int) (td bu sr lg ov : Int → Int) (S : SS) (k : Int) (v : Int) (hI : LI td bu sr lg tm hr S) (hSI : SI tm S) (hk : -2147483648 ≤ k ∧ k ≤ 2147483647) (hv : -2147483648 ≤ v ∧ v ≤ 2147483647) : ZMi (S := Unit) l yX2_team wsX2_team ({ frames := 3, cells := 0, slots := 0, locals := 150 }) D g [.ref m, .int (iI k), .int (iI v)] (wMo g m b th hr tm en (ssLo S) (ssSl S) (ssFa S) (ssS S) (ssF S) (ssW S) (kOf (ssO S) (ssP S)) (tbl tm bu sr lg (ssT S)) td ov) (fun z _ => (0 ≤ k ∧ k < tm ∧ 0 ≤ v ∧ v < 8) → z = tV bu sr lg S k v) (fun _ => wMo g m b (if 0 ≤ k ∧ k < tm ∧ 0 ≤ v ∧ v < 8 then 0 else 1) hr tm en (ssLo S) (ssSl S) (ssFa S) (ssS S) (ssF S) (ssW S) (kOf (ssO S) (ssP S)) (tbl tm bu sr lg (ssT S)) td ov) 0 0 := by
  have hinX2 : ∀ w ∈ u_ws RX2 TX2 14, w ∈ wsX2_team := by decide +kernel
  have L35 : Cond.fieldLink RX2 35 "SandcastleLeagueModel" "thrown" "I" ∈ wsX2_team := by decide +kernel
  obtain ⟨htd, hbu, hsr, hlg, htm, hhr, hSB, hT⟩ := id hI
  obtain ⟨hs, hf, hw, ho, hp⟩ := id hSB
  refine ZMi.of (own := RX2) cX2_team 3 [(0, .ref m), (1, .int (iI k)), (2, .int (iI v))] (by decide +kernel) rfl (nle rfl) rfl rfl ?_
  intro E hC hN hret
  refine z_aloadn 1 hC 0 dX2_team_0 rfl rfl rfl ?_
  refine z_iconst 2 hC dX2_team_1 rfl ?_
  refine z_put (ty := .int) (ws' := wMo g m b 0 hr tm en (ssLo S) (ssSl S) (ssFa S) (ssS S) (ssF S) (ssW S) (kOf (ssO S) (ssP S)) (tbl tm bu sr lg (ssT S)) td ov) 5 0 0 hC tyX2 tyX2_ok nmX2 hinX2 L35 dX2_team_2 rfl rfl rfl (by decide) rfl (by decide +kernel) rfl rfl (nle rfl) rfl ?_
  refine z_aloadn 6 hC 0 dX2_team_5 rfl rfl rfl ?_
  refine z_iloadn 7 hC 1 dX2_team_6 rfl rfl rfl ?_
  refine z_calli (wr := []) (w2 := fun _ => wMo g m b 0 hr tm en (ssLo S) (ssSl S) (ssFa S) (ssS S) (ssF S) (ssW S) (kOf (ssO S) (ssP S)) (tbl tm bu sr lg (ssT S)) td ov) 10 hC [0, 1, 2, 3, 4, 5, 6, 7] [] [0, 1, 2, 3, 4, 5, 6, 7] (z_runV (nA := 1) hC hN (c_X2_isTeam l D g m b 0 hr tm en (ssLo S) (ssSl S) (ssFa S) (ssS S) (ssF S) (ssW S) (kOf (ssO S) (ssP S)) (tbl tm bu sr lg (ssT S)) td ov k (by omega) (by omega)) [0, 1, 2, 3, 4, 5, 6, 7] rfl (by decide) gX2_team_X2_isTeam (by decide +kernel) rfl rfl rfl ⟨by decide, by decide⟩ rfl rfl (nle rfl) dX2_team_7 ⟨by decide, by decide⟩ 0 rfl rfl) rfl rfl (by decide) (by decide) (fun _ => rfl) (by decide) rfl (k2 := 0) (n2 := 0) rfl rfl (fun z_1 _ p_2 => ?_)
  refine z_if_eq 32 13 hC dX2_team_10 (by decide) rfl (by omega) (fun c_3 => ?_) (fun c_3 => ?_)
  · skip
    refine z_aloadn 33 hC 0 dX2_team_32 rfl rfl rfl ?_
    refine z_iconst 34 hC dX2_team_33 rfl ?_
    refine z_calli (wr := []) (w2 := fun _ => wMo g m b 1 hr tm en (ssLo S) (ssSl S) (ssFa S) (ssS S) (ssF S) (ssW S) (kOf (ssO S) (ssP S)) (tbl tm bu sr lg (ssT S)) td ov) 37 hC [0, 1, 2, 3, 4, 5, 6, 7] [] [0, 1, 2, 3, 4, 5, 6, 7] (z_runV (nA := 1) hC hN (c_X2_fail l D g m b 0 hr tm en (ssLo S) (ssSl S) (ssFa S) (ssS S) (ssF S) (ssW S) (kOf (ssO S) (ssP S)) (tbl tm bu sr lg (ssT S)) td ov 1 ) [0, 1, 2, 3, 4, 5, 6, 7] rfl (by decide) gX2_team_X2_fail (by decide +kernel) rfl rfl rfl ⟨by decide, by decide⟩ rfl rfl (nle rfl) dX2_team_34 ⟨by decide, by decide⟩ 0 rfl rfl) rfl rfl (by decide) (by decide) (fun _ => rfl) (by decide) rfl (k2 := 0) (n2 := 0) rfl rfl (fun z_4 _ p_5 => ?_)
    subst p_5
    refine z_weq (ws' := wMo g m b (if 0 ≤ k ∧ k < tm ∧ 0 ≤ v ∧ v < 8 then 0 else 1) hr tm en (ssLo S) (ssSl S) (ssFa S) (ssS S) (ssF S) (ssW S) (kOf (ssO S) (ssP S)) (tbl tm bu sr lg (ssT S)) td ov) (zEq.cons (zE1.obj (zfc (by omega) (zfk (zfk (zfk (zfk (zfk (zfk (zfk (zfk (zfk (zfk (zfk (zfk (zfk rfl))))))))))))))) (zEq.cons zE1.rf (zEq.cons zE1.rf (zEq.cons zE1.rf (zEq.cons zE1.rf (zEq.cons zE1.rf (zEq.cons zE1.rf (zEq.cons zE1.rf zEq.nil)))))))) ?_
    exact hret () dX2_team_37 rfl (by intro q9; first | rfl | omega)
  · skip
    refine z_iloadn 14 hC 2 dX2_team_13 rfl rfl rfl ?_
    refine z_iconst 15 hC dX2_team_14 rfl ?_
    refine z_bipush 17 hC dX2_team_15 (by decide) rfl ?_
    refine z_calli (wr := [(m, .inr (2, [.int (iI 0), .int (iI hr), .int (iI tm), .int (iI en), .int (iI (ssLo S)), .int (iI (ssSl S)), .int (iI (ssFa S)), .ref (b 0), .ref (b 1), .ref (b 2), .ref (b 3), .ref (b 4), .ref (b 5), .ref (b 6)])), ((b 0), ar g 120 (ssS S)), ((b 1), ar g 120 (ssF S)), ((b 2), ar g 120 (ssW S)), ((b 3), ar g 120 (kOf (ssO S) (ssP S))), ((b 4), ar g 16 (tbl tm bu sr lg (ssT S))), ((b 5), ar g 12 td), ((b 6), ar g 120 ov)]) (w2 := fun _ => wMo g m b 0 hr tm en (ssLo S) (ssSl S) (ssFa S) (ssS S) (ssF S) (ssW S) (kOf (ssO S) (ssP S)) (tbl tm bu sr lg (ssT S)) td ov) 20 hC [] [0, 1, 2, 3, 4, 5, 6, 7] [0, 1, 2, 3, 4, 5, 6, 7] (z_runS (nA := 3) hC hN (c_X2_isIn l D g v 0 7 (by omega) (by omega) (by omega)) [] rfl (by decide) gX2_team_X2_isIn (by decide +kernel) rfl rfl rfl ⟨by decide, by decide⟩ rfl rfl (nle rfl) dX2_team_17 ⟨by decide, by decide⟩) rfl rfl (by decide) (by decide) (fun _ => rfl) (by decide) rfl (k2 := 0) (n2 := 0) rfl rfl (fun z_6 _ p_7 => ?_)
    refine z_if_eq 32 23 hC dX2_team_20 (by decide) rfl (by omega) (fun c_8 => ?_) (fun c_8 => ?_)
    · skip
      refine z_aloadn 33 hC 0 dX2_team_32 rfl rfl rfl ?_
      refine z_iconst 34 hC dX2_team_33 rfl ?_
      refine z_calli (wr := []) (w2 := fun _ => wMo g m b 1 hr tm en (ssLo S) (ssSl S) (ssFa S) (ssS S) (ssF S) (ssW S) (kOf (ssO S) (ssP S)) (tbl tm bu sr lg (ssT S)) td ov) 37 hC [0, 1, 2, 3, 4, 5, 6, 7] [] [0, 1, 2, 3, 4, 5, 6, 7] (z_runV (nA := 1) hC hN (c_X2_fail l D g m b 0 hr tm en (ssLo S) (ssSl S) (ssFa S) (ssS S) (ssF S) (ssW S) (kOf (ssO S) (ssP S)) (tbl tm bu sr lg (ssT S)) td ov 1 ) [0, 1, 2, 3, 4, 5, 6, 7] rfl (by decide) gX2_team_X2_fail (by decide +kernel) rfl rfl rfl ⟨by decide, by decide⟩ rfl rfl (nle rfl) dX2_team_34 ⟨by decide, by decide⟩ 0 rfl rfl) rfl rfl (by decide) (by decide) (fun _ => rfl) (by decide) rfl (k2 := 0) (n2 := 0) rfl rfl (fun z_9 _ p_10 => ?_)
      subst p_10
      refine z_weq (ws' := wMo g m b (if 0 ≤ k ∧ k < tm ∧ 0 ≤ v ∧ v < 8 then 0 else 1) hr tm en (ssLo S) (ssSl S) (ssFa S) (ssS S) (ssF S) (ssW S) (kOf (ssO S) (ssP S)) (tbl tm bu sr lg (ssT S)) td ov) (zEq.cons (zE1.obj (zfc (by omega) (zfk (zfk (zfk (zfk (zfk (zfk (zfk (zfk (zfk (zfk (zfk (zfk (zfk rfl))))))))))))))) (zEq.cons zE1.rf (zEq.cons zE1.rf (zEq.cons zE1.rf (zEq.cons zE1.rf (zEq.cons zE1.rf (zEq.cons zE1.rf (zEq.cons zE1.rf zEq.nil)))))))) ?_
      exact hret () dX2_team_37 rfl (by intro q9; first | rfl | omega)
    · skip
      refine z_aloadn 24 hC 0 dX2_team_23 rfl rfl rfl ?_
      refine z_iloadn 25 hC 1 dX2_team_24 rfl rfl rfl ?_
      refine z_iloadn 26 hC 2 dX2_team_25 rfl rfl rfl ?_
      refine z_calli (wr := []) (w2 := fun _ => wMo g m b 0 hr tm en (ssLo S) (ssSl S) (ssFa S) (ssS S) (ssF S) (ssW S) (kOf (ssO S) (ssP S)) (tbl tm bu sr lg (ssT S)) td ov) 29 hC [0, 1, 2, 3, 4, 5, 6, 7] [] [0, 1, 2, 3, 4, 5, 6, 7] (z_runV (nA := 2) hC hN (c_X2_teamTold l D g m b 0 hr tm en td bu sr lg ov S k v hI hSI (by omega) (by omega)) [0, 1, 2, 3, 4, 5, 6, 7] rfl (by decide) gX2_team_X2_teamTold (by decide +kernel) rfl rfl rfl ⟨by decide, by decide⟩ rfl rfl (nle rfl) dX2_team_26 ⟨by decide, by decide⟩ 0 rfl rfl) rfl rfl (by decide) (by decide) (fun _ => rfl) (by decide) rfl (k2 := 0) (n2 := 0) rfl rfl (fun z_11 _ p_12 => ?_)
      subst p_12
      refine z_goto 37 hC dX2_team_29 (by decide) ?_
      refine z_weq (ws' := wMo g m b (if 0 ≤ k ∧ k < tm ∧ 0 ≤ v ∧ v < 8 then 0 else 1) hr tm en (ssLo S) (ssSl S) (ssFa S) (ssS S) (ssF S) (ssW S) (kOf (ssO S) (ssP S)) (tbl tm bu sr lg (ssT S)) td ov) (zEq.cons (zE1.obj (zfc (by omega) (zfk (zfk (zfk (zfk (zfk (zfk (zfk (zfk (zfk (zfk (zfk (zfk (zfk rfl))))))))))))))) (zEq.cons zE1.rf (zEq.cons zE1.rf (zEq.cons zE1.rf (zEq.cons zE1.rf (zEq.cons zE1.rf (zEq.cons zE1.rf (zEq.cons zE1.rf zEq.nil)))))))) ?_
      exact hret () dX2_team_37 rfl (by intro q9; first | rfl | omega)
set_option maxHeartbeats 4000000 in
set_option maxRecDepth 100000 in
theorem c_X2_counted (l : Launch) (D : va_G) (g : Nat → ClassId) (m : Nat) (b : Nat → Nat) (th hr tm en : Int) (td bu sr lg ov : Int → Int) (S : SS) (v : Int) (hI : LI td bu sr lg tm hr S) (hSI : SI tm S) (hv : 0 ≤ v ∧ v < 9) : ZMi (S := Unit) l yX2_counted wsX2_counted ({ frames := 2, cells := 0, slots := 0, locals := 110 }) D g [.ref m, .int (iI v)] (wMo g m b th hr tm en (ssLo S) (ssSl S) (ssFa S) (ssS S) (ssF S) (ssW S) (kOf (ssO S) (ssP S)) (tbl tm bu sr lg (ssT S)) td ov) (fun z _ => z = cV S tm hr en v) (fun _ => wMo g m b th hr tm en (ssLo S) (ssSl S) (ssFa S) (ssS S) (ssF S) (ssW S) (kOf (ssO S) (ssP S)) (tbl tm bu sr lg (ssT S)) td ov) 0 0 := by
  have hinX2 : ∀ w ∈ u_ws RX2 TX2 14, w ∈ wsX2_counted := by decide +kernel
  have L39 : Cond.fieldLink RX2 39 "SandcastleLeagueModel" "teams" "I" ∈ wsX2_counted := by decide +kernel
  have L92 : Cond.fieldLink RX2 92 "SandcastleLeagueModel" "hour" "I" ∈ wsX2_counted := by decide +kernel
  have L95 : Cond.fieldLink RX2 95 "SandcastleLeagueModel" "lost" "I" ∈ wsX2_counted := by decide +kernel
  have L98 : Cond.fieldLink RX2 98 "SandcastleLeagueModel" "slides" "I" ∈ wsX2_counted := by decide +kernel
  have L101 : Cond.fieldLink RX2 101 "SandcastleLeagueModel" "fallen" "I" ∈ wsX2_counted := by decide +kernel
  have L104 : Cond.fieldLink RX2 104 "SandcastleLeagueModel" "ended" "I" ∈ wsX2_counted := by decide +kernel
  obtain ⟨htd, hbu, hsr, hlg, htm, hhr, hSB, hT⟩ := id hI
  obtain ⟨hs, hf, hw, ho, hp⟩ := id hSB
  have e1 := mst_all hSI
  have e2 := mar_w (ssS S) (ssW S)
  have e3 := mar_s4 (ssS S) (ssW S)
  refine ZMi.of (own := RX2) cX2_counted 2 [(0, .ref m), (1, .int (iI v))] (by decide +kernel) rfl (nle rfl) rfl rfl ?_
  intro E hC hN hret
  refine z_iloadn 1 hC 1 dX2_counted_0 rfl rfl rfl ?_
  by_cases e_1 : v = 0
  · refine z_tabIn 48 0 hC dX2_counted_1 e_1 (by decide) rfl rfl (by decide) ?_
    refine z_aloadn 49 hC 0 dX2_counted_48 rfl rfl rfl ?_
    refine z_get 52 0 1 hC hinX2 L92 dX2_counted_49 rfl rfl rfl (by decide) rfl ?_
    exact hret () dX2_counted_52 rfl (by unfold cV; omega)
  by_cases e_2 : v = 1
  · refine z_tabIn 53 1 hC dX2_counted_1 e_2 (by decide) rfl rfl (by decide) ?_
    refine z_aloadn 54 hC 0 dX2_counted_53 rfl rfl rfl ?_
    refine z_get 57 0 2 hC hinX2 L39 dX2_counted_54 rfl rfl rfl (by decide) rfl ?_
    exact hret () dX2_counted_57 rfl (by unfold cV; omega)
  by_cases e_3 : v = 2
  · refine z_tabIn 58 2 hC dX2_counted_1 e_3 (by decide) rfl rfl (by decide) ?_
    refine z_aloadn 59 hC 0 dX2_counted_58 rfl rfl rfl ?_
    refine z_iconst 60 hC dX2_counted_59 rfl ?_
    refine z_bipush 62 hC dX2_counted_60 (by decide) rfl ?_
    refine z_calli (wr := []) (w2 := fun _ => wMo g m b th hr tm en (ssLo S) (ssSl S) (ssFa S) (ssS S) (ssF S) (ssW S) (kOf (ssO S) (ssP S)) (tbl tm bu sr lg (ssT S)) td ov) 65 hC [0, 1, 2, 3, 4, 5, 6, 7] [] [0, 1, 2, 3, 4, 5, 6, 7] (z_runV (nA := 2) hC hN (c_X2_areaOf l D g m b th hr tm en (ssLo S) (ssSl S) (ssFa S) (ssS S) (ssF S) (ssW S) (kOf (ssO S) (ssP S)) (tbl tm bu sr lg (ssT S)) td ov (-1) 6 hs hw (by omega) (by omega)) [0, 1, 2, 3, 4, 5, 6, 7] rfl (by decide) gX2_counted_X2_areaOf (by decide +kernel) rfl rfl rfl ⟨by decide, by decide⟩ rfl rfl (nle rfl) dX2_counted_62 ⟨by decide, by decide⟩ 0 rfl rfl) rfl rfl (by decide) (by decide) (fun _ => rfl) (by decide) rfl (k2 := 0) (n2 := 0) rfl rfl (fun z_4 _ p_5 => ?_)
    subst p_5
    exact hret () dX2_counted_65 rfl (by unfold cV; omega)
  by_cases e_6 : v = 3
  · refine z_tabIn 66 3 hC dX2_counted_1 e_6 (by decide) rfl rfl (by decide) ?_
    refine z_aloadn 67 hC 0 dX2_counted_66 rfl rfl rfl ?_
    refine z_iconst 68 hC dX2_counted_67 rfl ?_
    refine z_iconst 69 hC dX2_counted_68 rfl ?_
    refine z_calli (wr := []) (w2 := fun _ => wMo g m b th hr tm en (ssLo S) (ssSl S) (ssFa S) (ssS S) (ssF S) (ssW S) (kOf (ssO S) (ssP S)) (tbl tm bu sr lg (ssT S)) td ov) 72 hC [0, 1, 2, 3, 4, 5, 6, 7] [] [0, 1, 2, 3, 4, 5, 6, 7] (z_runV (nA := 2) hC hN (c_X2_areaOf l D g m b th hr tm en (ssLo S) (ssSl S) (ssFa S) (ssS S) (ssF S) (ssW S) (kOf (ssO S) (ssP S)) (tbl tm bu sr lg (ssT S)) td ov (-1) 4 hs hw (by omega) (by omega)) [0, 1, 2, 3, 4, 5, 6, 7] rfl (by decide) gX2_counted_X2_areaOf (by decide +kernel) rfl rfl rfl ⟨by decide, by decide⟩ rfl rfl (nle rfl) dX2_counted_69 ⟨by decide, by decide⟩ 0 rfl rfl) rfl rfl (by decide) (by decide) (fun _ => rfl) (by decide) rfl (k2 := 0) (n2 := 0) rfl rfl (fun z_7 _ p_8 => ?_)
    subst p_8
    exact hret () dX2_counted_72 rfl (by unfold cV; omega)
  by_cases e_9 : v = 4
  · refine z_tabIn 73 4 hC dX2_counted_1 e_9 (by decide) rfl rfl (by decide) ?_
    refine z_aloadn 74 hC 0 dX2_counted_73 rfl rfl rfl ?_
    refine z_get 77 0 4 hC hinX2 L95 dX2_counted_74 rfl rfl rfl (by decide) rfl ?_
    exact hret () dX2_counted_77 rfl (by unfold cV; omega)
  by_cases e_10 : v = 5
  · refine z_tabIn 78 5 hC dX2_counted_1 e_10 (by decide) rfl rfl (by decide) ?_
    refine z_aloadn 79 hC 0 dX2_counted_78 rfl rfl rfl ?_
    refine z_get 82 0 5 hC hinX2 L98 dX2_counted_79 rfl rfl rfl (by decide) rfl ?_
    exact hret () dX2_counted_82 rfl (by unfold cV; omega)
  by_cases e_11 : v = 6
  · refine z_tabIn 83 6 hC dX2_counted_1 e_11 (by decide) rfl rfl (by decide) ?_
    refine z_aloadn 84 hC 0 dX2_counted_83 rfl rfl rfl ?_
    refine z_iconst 85 hC dX2_counted_84 rfl ?_
    refine z_calli (wr := []) (w2 := fun _ => wMo g m b th hr tm en (ssLo S) (ssSl S) (ssFa S) (ssS S) (ssF S) (ssW S) (kOf (ssO S) (ssP S)) (tbl tm bu sr lg (ssT S)) td ov) 88 hC [0, 1, 2, 3, 4, 5, 6, 7] [] [0, 1, 2, 3, 4, 5, 6, 7] (z_runV (nA := 1) hC hN (c_X2_sticksOf l D g m b th hr tm en (ssLo S) (ssSl S) (ssFa S) (ssS S) (ssF S) (ssW S) (kOf (ssO S) (ssP S)) (tbl tm bu sr lg (ssT S)) td ov (-1) (kOf_bd hSB) (by omega)) [0, 1, 2, 3, 4, 5, 6, 7] rfl (by decide) gX2_counted_X2_sticksOf (by decide +kernel) rfl rfl rfl ⟨by decide, by decide⟩ rfl rfl (nle rfl) dX2_counted_85 ⟨by decide, by decide⟩ 0 rfl rfl) rfl rfl (by decide) (by decide) (fun _ => rfl) (by decide) rfl (k2 := 0) (n2 := 0) rfl rfl (fun z_13 _ p_14 => ?_)
    subst p_14
    have y_12 := mst_bd (kOf (ssO S) (ssP S)) (-1)
    exact hret () dX2_counted_88 rfl (by unfold cV; omega)
  by_cases e_15 : v = 7
  · refine z_tabIn 89 7 hC dX2_counted_1 e_15 (by decide) rfl rfl (by decide) ?_
    refine z_aloadn 90 hC 0 dX2_counted_89 rfl rfl rfl ?_
    refine z_get 93 0 6 hC hinX2 L101 dX2_counted_90 rfl rfl rfl (by decide) rfl ?_
    exact hret () dX2_counted_93 rfl (by unfold cV; omega)
  refine z_tabOut 94 hC dX2_counted_1 (by omega) (by omega) (by decide) ?_
  refine z_aloadn 95 hC 0 dX2_counted_94 rfl rfl rfl ?_
  refine z_get 98 0 3 hC hinX2 L104 dX2_counted_95 rfl rfl rfl (by decide) rfl ?_
  exact hret () dX2_counted_98 rfl (by unfold cV; omega)
set_option maxHeartbeats 4000000 in
set_option maxRecDepth 100000 in
theorem c_X2_count (l : Launch) (D : va_G) (g : Nat → ClassId) (m : Nat) (b : Nat → Nat) (th hr tm en : Int) (td bu sr lg ov : Int → Int) (S : SS) (v : Int) (hI : LI td bu sr lg tm hr S) (hSI : SI tm S) (hv : -2147483648 ≤ v ∧ v ≤ 2147483647) : ZMi (S := Unit) l yX2_count wsX2_count ({ frames := 3, cells := 0, slots := 0, locals := 150 }) D g [.ref m, .int (iI v)] (wMo g m b th hr tm en (ssLo S) (ssSl S) (ssFa S) (ssS S) (ssF S) (ssW S) (kOf (ssO S) (ssP S)) (tbl tm bu sr lg (ssT S)) td ov) (fun z _ => (0 ≤ v ∧ v < 9) → z = cV S tm hr en v) (fun _ => wMo g m b (if 0 ≤ v ∧ v < 9 then 0 else 1) hr tm en (ssLo S) (ssSl S) (ssFa S) (ssS S) (ssF S) (ssW S) (kOf (ssO S) (ssP S)) (tbl tm bu sr lg (ssT S)) td ov) 0 0 := by
  have hinX2 : ∀ w ∈ u_ws RX2 TX2 14, w ∈ wsX2_count := by decide +kernel
  have L35 : Cond.fieldLink RX2 35 "SandcastleLeagueModel" "thrown" "I" ∈ wsX2_count := by decide +kernel
  obtain ⟨htd, hbu, hsr, hlg, htm, hhr, hSB, hT⟩ := id hI
  obtain ⟨hs, hf, hw, ho, hp⟩ := id hSB
  refine ZMi.of (own := RX2) cX2_count 2 [(0, .ref m), (1, .int (iI v))] (by decide +kernel) rfl (nle rfl) rfl rfl ?_
  intro E hC hN hret
  refine z_aloadn 1 hC 0 dX2_count_0 rfl rfl rfl ?_
  refine z_iconst 2 hC dX2_count_1 rfl ?_
  refine z_put (ty := .int) (ws' := wMo g m b 0 hr tm en (ssLo S) (ssSl S) (ssFa S) (ssS S) (ssF S) (ssW S) (kOf (ssO S) (ssP S)) (tbl tm bu sr lg (ssT S)) td ov) 5 0 0 hC tyX2 tyX2_ok nmX2 hinX2 L35 dX2_count_2 rfl rfl rfl (by decide) rfl (by decide +kernel) rfl rfl (nle rfl) rfl ?_
  refine z_iloadn 6 hC 1 dX2_count_5 rfl rfl rfl ?_
  refine z_iconst 7 hC dX2_count_6 rfl ?_
  refine z_bipush 9 hC dX2_count_7 (by decide) rfl ?_
  refine z_calli (wr := [(m, .inr (2, [.int (iI 0), .int (iI hr), .int (iI tm), .int (iI en), .int (iI (ssLo S)), .int (iI (ssSl S)), .int (iI (ssFa S)), .ref (b 0), .ref (b 1), .ref (b 2), .ref (b 3), .ref (b 4), .ref (b 5), .ref (b 6)])), ((b 0), ar g 120 (ssS S)), ((b 1), ar g 120 (ssF S)), ((b 2), ar g 120 (ssW S)), ((b 3), ar g 120 (kOf (ssO S) (ssP S))), ((b 4), ar g 16 (tbl tm bu sr lg (ssT S))), ((b 5), ar g 12 td), ((b 6), ar g 120 ov)]) (w2 := fun _ => wMo g m b 0 hr tm en (ssLo S) (ssSl S) (ssFa S) (ssS S) (ssF S) (ssW S) (kOf (ssO S) (ssP S)) (tbl tm bu sr lg (ssT S)) td ov) 12 hC [] [0, 1, 2, 3, 4, 5, 6, 7] [0, 1, 2, 3, 4, 5, 6, 7] (z_runS (nA := 3) hC hN (c_X2_isIn l D g v 0 8 (by omega) (by omega) (by omega)) [] rfl (by decide) gX2_count_X2_isIn (by decide +kernel) rfl rfl rfl ⟨by decide, by decide⟩ rfl rfl (nle rfl) dX2_count_9 ⟨by decide, by decide⟩) rfl rfl (by decide) (by decide) (fun _ => rfl) (by decide) rfl (k2 := 0) (n2 := 0) rfl rfl (fun z_1 _ p_2 => ?_)
  refine z_if_eq 23 15 hC dX2_count_12 (by decide) rfl (by omega) (fun c_3 => ?_) (fun c_3 => ?_)
  · skip
    refine z_aloadn 24 hC 0 dX2_count_23 rfl rfl rfl ?_
    refine z_iconst 25 hC dX2_count_24 rfl ?_
    refine z_calli (wr := []) (w2 := fun _ => wMo g m b 1 hr tm en (ssLo S) (ssSl S) (ssFa S) (ssS S) (ssF S) (ssW S) (kOf (ssO S) (ssP S)) (tbl tm bu sr lg (ssT S)) td ov) 28 hC [0, 1, 2, 3, 4, 5, 6, 7] [] [0, 1, 2, 3, 4, 5, 6, 7] (z_runV (nA := 1) hC hN (c_X2_fail l D g m b 0 hr tm en (ssLo S) (ssSl S) (ssFa S) (ssS S) (ssF S) (ssW S) (kOf (ssO S) (ssP S)) (tbl tm bu sr lg (ssT S)) td ov 1 ) [0, 1, 2, 3, 4, 5, 6, 7] rfl (by decide) gX2_count_X2_fail (by decide +kernel) rfl rfl rfl ⟨by decide, by decide⟩ rfl rfl (nle rfl) dX2_count_25 ⟨by decide, by decide⟩ 0 rfl rfl) rfl rfl (by decide) (by decide) (fun _ => rfl) (by decide) rfl (k2 := 0) (n2 := 0) rfl rfl (fun z_4 _ p_5 => ?_)
    subst p_5
    refine z_weq (ws' := wMo g m b (if 0 ≤ v ∧ v < 9 then 0 else 1) hr tm en (ssLo S) (ssSl S) (ssFa S) (ssS S) (ssF S) (ssW S) (kOf (ssO S) (ssP S)) (tbl tm bu sr lg (ssT S)) td ov) (zEq.cons (zE1.obj (zfc (by omega) (zfk (zfk (zfk (zfk (zfk (zfk (zfk (zfk (zfk (zfk (zfk (zfk (zfk rfl))))))))))))))) (zEq.cons zE1.rf (zEq.cons zE1.rf (zEq.cons zE1.rf (zEq.cons zE1.rf (zEq.cons zE1.rf (zEq.cons zE1.rf (zEq.cons zE1.rf zEq.nil)))))))) ?_
    exact hret () dX2_count_28 rfl (by intro q9; first | rfl | omega)
  · skip
    refine z_aloadn 16 hC 0 dX2_count_15 rfl rfl rfl ?_
    refine z_iloadn 17 hC 1 dX2_count_16 rfl rfl rfl ?_
    refine z_calli (wr := []) (w2 := fun _ => wMo g m b 0 hr tm en (ssLo S) (ssSl S) (ssFa S) (ssS S) (ssF S) (ssW S) (kOf (ssO S) (ssP S)) (tbl tm bu sr lg (ssT S)) td ov) 20 hC [0, 1, 2, 3, 4, 5, 6, 7] [] [0, 1, 2, 3, 4, 5, 6, 7] (z_runV (nA := 1) hC hN (c_X2_counted l D g m b 0 hr tm en td bu sr lg ov S v hI hSI (by omega)) [0, 1, 2, 3, 4, 5, 6, 7] rfl (by decide) gX2_count_X2_counted (by decide +kernel) rfl rfl rfl ⟨by decide, by decide⟩ rfl rfl (nle rfl) dX2_count_17 ⟨by decide, by decide⟩ 0 rfl rfl) rfl rfl (by decide) (by decide) (fun _ => rfl) (by decide) rfl (k2 := 0) (n2 := 0) rfl rfl (fun z_6 _ p_7 => ?_)
    subst p_7
    refine z_goto 28 hC dX2_count_20 (by decide) ?_
    refine z_weq (ws' := wMo g m b (if 0 ≤ v ∧ v < 9 then 0 else 1) hr tm en (ssLo S) (ssSl S) (ssFa S) (ssS S) (ssF S) (ssW S) (kOf (ssO S) (ssP S)) (tbl tm bu sr lg (ssT S)) td ov) (zEq.cons (zE1.obj (zfc (by omega) (zfk (zfk (zfk (zfk (zfk (zfk (zfk (zfk (zfk (zfk (zfk (zfk (zfk rfl))))))))))))))) (zEq.cons zE1.rf (zEq.cons zE1.rf (zEq.cons zE1.rf (zEq.cons zE1.rf (zEq.cons zE1.rf (zEq.cons zE1.rf (zEq.cons zE1.rf zEq.nil)))))))) ?_
    exact hret () dX2_count_28 rfl (by intro q9; first | rfl | omega)
