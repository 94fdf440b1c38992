theorem foI_eq {α β : Type} {F : Int → α → α} {G : Int → β → β} {x : α} {y : β} {R : α → β → Prop} (h0 : R x y) {N : Int} (hs : ∀ (j : Int) (a : α) (b : β), 0 ≤ j → j < N → R a b → R (F j a) (G j b)) (hN : 0 ≤ N) : R (foI F x N) (foI G y N) := by
  have key : ∀ n : Nat, (n : Int) ≤ N → R (foI F x (n : Int)) (foI G y (n : Int)) := by
    intro n
    induction n with
    | zero => intro _; exact h0
    | succ n ih =>
      intro hn
      have e : ((n + 1 : Nat) : Int) = (n : Int) + 1 := by omega
      rw [e, foI_s F x (by omega), foI_s G y (by omega)]
      exact hs _ _ _ (by omega) (by omega) (ih (by omega))
  have := key N.toNat (by omega)
  rwa [Int.toNat_of_nonneg hN] at this
theorem mar_w (s w : Int → Int) : mar s w (-1) 6 120 = sumI w 120 := foI_eq (R := fun a b => a = b) rfl (fun j a b _ _ e => by subst e; simp) (by omega)
theorem mar_s4 (s w : Int → Int) : mar s w (-1) 4 120 = sumI s 120 := foI_eq (R := fun a b => a = b) rfl (fun j a b _ _ e => by subst e; simp) (by omega)
theorem mar_tv (s w : Int → Int) {t v : Int} (ht : 0 ≤ t) (hv : 4 ≤ v ∧ v ≤ 6) : mar s w t v 120 = if v = 4 then asum s t else if v = 5 then gha s t 120 else asum w t := by
  have ht1 : t ≠ -1 := by omega
  rcases (by omega : v = 4 ∨ v = 5 ∨ v = 6) with rfl | rfl | rfl
  · rw [if_pos rfl]
    unfold mar asum sumI
    refine foI_eq (R := fun a b => a = b) rfl (fun j a b _ _ e => ?_) (by omega)
    subst e
    by_cases c : j % 12 / 3 = t <;> simp [c, ht1]
  · rw [if_neg (by omega), if_pos rfl]
    unfold mar gha
    refine foI_eq (R := fun a b => a = b) rfl (fun j a b _ _ e => ?_) (by omega)
    subst e
    by_cases c : j % 12 / 3 = t <;> simp [c, ht1]
  · rw [if_neg (by omega), if_neg (by omega)]
    unfold mar asum sumI
    refine foI_eq (R := fun a b => a = b) rfl (fun j a b _ _ e => ?_) (by omega)
    subst e
    by_cases c : j % 12 / 3 = t <;> simp [c, ht1]
theorem kOf_pos {tm : Int} {S : SS} (h : SI tm S) {j : Int} (hj : 0 ≤ j ∧ j < 120) : 0 < kOf (ssO S) (ssP S) j ↔ ssO S j ≠ -1 := by
  have := h j hj.1 hj.2
  unfold kOf
  split <;> omega
theorem mst_all {tm : Int} {S : SS} (h : SI tm S) : mst (kOf (ssO S) (ssP S)) (-1) = stkS (ssO S) := by
  unfold mst stkS
  refine sumI_congr (fun j a b => ?_)
  have := kOf_pos h ⟨a, b⟩
  by_cases c : ssO S j = -1
  · rw [if_neg (fun q => this.mp q.1 c), if_pos c]
  · rw [if_pos ⟨this.mpr c, Or.inl rfl⟩, if_neg c]
theorem mst_cnt {tm : Int} {S : SS} (h : SI tm S) {t : Int} (ht : 0 ≤ t) : mst (kOf (ssO S) (ssP S)) t = cntS (ssO S) t := by
  unfold mst cntS
  refine sumI_congr (fun j a b => ?_)
  have h1 := kOf_pos h ⟨a, b⟩
  have h2 := h j a b
  by_cases c : ssO S j = t
  · rw [if_pos c, if_pos ⟨h1.mpr (by omega), Or.inr (by omega)⟩]
  · rw [if_neg c, if_neg]
    intro q
    have := h1.mp q.1
    omega
theorem tbl_v {tm : Int} {bu sr lg t : Int → Int} {k v : Int} (h : 0 ≤ k ∧ k < tm) (hv : 0 ≤ v ∧ v < 3) : tbl tm bu sr lg t (4 * k + v) = if v = 0 then bu k else if v = 1 then sr k else t k := by
  rcases (by omega : v = 0 ∨ v = 1 ∨ v = 2) with rfl | rfl | rfl
  · rw [tbl_0 h, if_pos rfl]
  · rw [tbl_1 h, if_neg (by omega), if_pos rfl]
  · rw [tbl_2 h, if_neg (by omega), if_neg (by omega)]
theorem mcT_eq {tm : Int} {S : SS} (h : SI tm S) {c : Int} (hc : 0 ≤ c ∧ c < 120) (v : Int) : mcT (ssS S) (ssF S) (ssW S) (kOf (ssO S) (ssP S)) c v = tclS (ssS S) (ssF S) (ssW S) (ssO S) (ssP S) c v := by
  have h1 := h c hc.1 hc.2
  have h2 : kOf (ssO S) (ssP S) c = if ssO S c = -1 then 0 else ssP S c + 1 := rfl
  unfold mcT tclS
  rw [h2]
  omega
theorem kOf_up {S : SS} {c t x : Int} (ht : 0 ≤ t) (j : Int) : up (kOf (ssO S) (ssP S)) c (x + 1) j = kOf (up (ssO S) c t) (up (ssP S) c x) j := by
  by_cases e : j = c
  · subst e
    rw [up_same]
    unfold kOf
    rw [up_same, up_same, if_neg (by omega)]
  · rw [up_ne e]
    unfold kOf
    rw [up_ne e, up_ne e]
theorem tbl_new {tm : Int} {bu sr lg t : Int → Int} (h : 0 ≤ tm) (j : Int) : up (tbl tm bu sr lg t) (4 * tm + 1) 20 j = tbl (tm + 1) (up bu tm 0) (up sr tm 20) (up lg tm 0) (up t tm 0) j := by
  by_cases e : j = 4 * tm + 1
  · rw [e, up_same, tbl_1 (by omega), up_same]
  · rw [up_ne e]
    unfold tbl
    rcases (by omega : j / 4 < tm ∨ j / 4 = tm ∨ tm < j / 4) with c | c | c
    · have c1 : ¬ tm ≤ j / 4 := by omega
      have c2 : ¬ tm + 1 ≤ j / 4 := by omega
      simp only [c1, c2, if_false]
      rw [up_ne (by omega), up_ne (by omega), up_ne (by omega), up_ne (by omega)]
    · have c1 : tm ≤ j / 4 := by omega
      have c2 : ¬ tm + 1 ≤ j / 4 := by omega
      simp only [c1, c2, if_true, if_false]
      rw [c, up_same, up_same, up_same, up_same]
      omega
    · have c1 : tm ≤ j / 4 := by omega
      have c2 : tm + 1 ≤ j / 4 := by omega
      simp only [c1, c2, if_true]
set_option maxHeartbeats 4000000 in
set_option maxRecDepth 100000 in
theorem c_X2_addTeam (l : Launch) (D : va_G) (g : Nat → ClassId) (m : Nat) (b : Nat → Nat) (th hr tm en : Int) (td bu sr lg ov : Int → Int) (S : SS)  (hI : LI td bu sr lg tm hr S) (hSI : SI tm S)  : ZMi (S := Unit) l yX2_addTeam wsX2_addTeam ({ frames := 1, cells := 0, slots := 0, locals := 60 }) D g [.ref m] (wMo g m b th hr tm en (ssLo S) (ssSl S) (ssFa S) (ssS S) (ssF S) (ssW S) (kOf (ssO S) (ssP S)) (tbl tm bu sr lg (ssT S)) td ov) (fun z _ => tm < 4 → z = tm) (fun _ => wMo g m b (if tm < 4 then 0 else 1) hr (if tm < 4 then tm + 1 else tm) en (ssLo S) (ssSl S) (ssFa S) (ssS S) (ssF S) (ssW S) (kOf (ssO S) (ssP S)) (tbl (if tm < 4 then tm + 1 else tm) (if tm < 4 then up bu tm 0 else bu) (if tm < 4 then up sr tm 20 else sr) (if tm < 4 then up lg tm 0 else lg) (if tm < 4 then up (ssT S) tm 0 else ssT S)) td ov) 0 0 := by
  have hinX2 : ∀ w ∈ u_ws RX2 TX2 14, w ∈ wsX2_addTeam := by decide +kernel
  have L22 : Cond.fieldLink RX2 22 "SandcastleLeagueModel" "table" "[I" ∈ wsX2_addTeam := by decide +kernel
  have L35 : Cond.fieldLink RX2 35 "SandcastleLeagueModel" "thrown" "I" ∈ wsX2_addTeam := by decide +kernel
  have L39 : Cond.fieldLink RX2 39 "SandcastleLeagueModel" "teams" "I" ∈ wsX2_addTeam := by decide +kernel
  obtain ⟨htd, hbu, hsr, hlg, htm, hhr, hSB, hT⟩ := id hI
  obtain ⟨hs, hf, hw, ho, hp⟩ := id hSB
  refine ZMi.of (own := RX2) cX2_addTeam 1 [(0, .ref m)] (by decide +kernel) rfl (nle rfl) rfl rfl ?_
  intro E hC hN hret
  refine z_aloadn 1 hC 0 dX2_addTeam_0 rfl rfl rfl ?_
  refine z_iconst 2 hC dX2_addTeam_1 rfl ?_
  refine z_put (ty := .int) (ws' := wMo g m b 0 hr tm en (ssLo S) (ssSl S) (ssFa S) (ssS S) (ssF S) (ssW S) (kOf (ssO S) (ssP S)) (tbl tm bu sr lg (ssT S)) td ov) 5 0 0 hC tyX2 tyX2_ok nmX2 hinX2 L35 dX2_addTeam_2 rfl rfl rfl (by decide) rfl (by decide +kernel) rfl rfl (nle rfl) rfl ?_
  refine z_aloadn 6 hC 0 dX2_addTeam_5 rfl rfl rfl ?_
  refine z_get 9 0 2 hC hinX2 L39 dX2_addTeam_6 rfl rfl rfl (by decide) rfl ?_
  refine z_iconst 10 hC dX2_addTeam_9 rfl ?_
  refine z_icmp_ne 19 13 hC dX2_addTeam_10 (by decide) rfl (by omega) (by omega) (fun c_1 => ?_) (fun c_1 => ?_)
  · skip
    refine z_aloadn 20 hC 0 dX2_addTeam_19 rfl rfl rfl ?_
    refine z_get 23 0 11 hC hinX2 L22 dX2_addTeam_20 rfl rfl rfl (by decide) rfl ?_
    refine z_iconst 24 hC dX2_addTeam_23 rfl ?_
    refine z_aloadn 25 hC 0 dX2_addTeam_24 rfl rfl rfl ?_
    refine z_get 28 0 2 hC hinX2 L39 dX2_addTeam_25 rfl rfl rfl (by decide) rfl ?_
    refine z_imul 29 hC dX2_addTeam_28 rfl ?_
    refine z_iconst 30 hC dX2_addTeam_29 rfl ?_
    refine z_iadd 31 hC dX2_addTeam_30 rfl ?_
    refine z_bipush 33 hC dX2_addTeam_31 (by decide) rfl ?_
    refine z_iast (ws' := wMo g m b 0 hr tm en (ssLo S) (ssSl S) (ssFa S) (ssS S) (ssF S) (ssW S) (kOf (ssO S) (ssP S)) (up (tbl tm bu sr lg (ssT S)) ((4 * tm) + 1) 20) td ov) 34 5 hC dX2_addTeam_33 rfl rfl (by decide) (by omega) rfl ?_
    refine z_aloadn 35 hC 0 dX2_addTeam_34 rfl rfl rfl ?_
    refine z_dup 36 hC dX2_addTeam_35 rfl rfl ?_
    refine z_get 39 0 2 hC hinX2 L39 dX2_addTeam_36 rfl rfl rfl (by decide) rfl ?_
    refine z_iconst 40 hC dX2_addTeam_39 rfl ?_
    refine z_iadd 41 hC dX2_addTeam_40 rfl ?_
    refine z_put (ty := .int) (ws' := wMo g m b 0 hr (tm + 1) en (ssLo S) (ssSl S) (ssFa S) (ssS S) (ssF S) (ssW S) (kOf (ssO S) (ssP S)) (up (tbl tm bu sr lg (ssT S)) ((4 * tm) + 1) 20) td ov) 44 0 2 hC tyX2 tyX2_ok nmX2 hinX2 L39 dX2_addTeam_41 rfl rfl rfl (by decide) rfl (by decide +kernel) rfl rfl (nle rfl) rfl ?_
    refine z_aloadn 45 hC 0 dX2_addTeam_44 rfl rfl rfl ?_
    refine z_get 48 0 2 hC hinX2 L39 dX2_addTeam_45 rfl rfl rfl (by decide) rfl ?_
    refine z_iconst 49 hC dX2_addTeam_48 rfl ?_
    refine z_isub 50 hC dX2_addTeam_49 rfl ?_
    refine z_weq (ws' := wMo g m b (if tm < 4 then 0 else 1) hr (if tm < 4 then tm + 1 else tm) en (ssLo S) (ssSl S) (ssFa S) (ssS S) (ssF S) (ssW S) (kOf (ssO S) (ssP S)) (tbl (if tm < 4 then tm + 1 else tm) (if tm < 4 then up bu tm 0 else bu) (if tm < 4 then up sr tm 20 else sr) (if tm < 4 then up lg tm 0 else lg) (if tm < 4 then up (ssT S) tm 0 else ssT S)) td ov) (zEq.cons (zE1.obj (zfc (by omega) (zfk (zfc (by omega) (zfk (zfk (zfk (zfk (zfk (zfk (zfk (zfk (zfk (zfk (zfk rfl))))))))))))))) (zEq.cons zE1.rf (zEq.cons zE1.rf (zEq.cons zE1.rf (zEq.cons zE1.rf (zEq.cons (zE1.arr (by first | (intro j h0 h1; rfl) | (intro j h0 h1; first | (rw [if_neg (by omega), if_neg (by omega), if_neg (by omega), if_neg (by omega), if_neg (by omega)]) | (rw [if_pos (by omega), if_pos (by omega), if_pos (by omega), if_pos (by omega), if_pos (by omega)]; exact tbl_new (by omega) j)))) (zEq.cons zE1.rf (zEq.cons zE1.rf zEq.nil)))))))) ?_
    exact hret () dX2_addTeam_50 rfl (by omega)
  · skip
    refine z_aloadn 14 hC 0 dX2_addTeam_13 rfl rfl rfl ?_
    refine z_iconst 15 hC dX2_addTeam_14 rfl ?_
    refine z_calli (wr := []) (w2 := fun _ => wMo g m b 1 hr tm en (ssLo S) (ssSl S) (ssFa S) (ssS S) (ssF S) (ssW S) (kOf (ssO S) (ssP S)) (tbl tm bu sr lg (ssT S)) td ov) 18 hC [0, 1, 2, 3, 4, 5, 6, 7] [] [0, 1, 2, 3, 4, 5, 6, 7] (z_runV (nA := 1) hC hN (c_X2_fail l D g m b 0 hr tm en (ssLo S) (ssSl S) (ssFa S) (ssS S) (ssF S) (ssW S) (kOf (ssO S) (ssP S)) (tbl tm bu sr lg (ssT S)) td ov 1 ) [0, 1, 2, 3, 4, 5, 6, 7] rfl (by decide) gX2_addTeam_X2_fail (by decide +kernel) rfl rfl rfl ⟨by decide, by decide⟩ rfl rfl (nle rfl) dX2_addTeam_15 ⟨by decide, by decide⟩ 0 rfl rfl) rfl rfl (by decide) (by decide) (fun _ => rfl) (by decide) rfl (k2 := 0) (n2 := 0) rfl rfl (fun z_2 _ p_3 => ?_)
    subst p_3
    refine z_weq (ws' := wMo g m b (if tm < 4 then 0 else 1) hr (if tm < 4 then tm + 1 else tm) en (ssLo S) (ssSl S) (ssFa S) (ssS S) (ssF S) (ssW S) (kOf (ssO S) (ssP S)) (tbl (if tm < 4 then tm + 1 else tm) (if tm < 4 then up bu tm 0 else bu) (if tm < 4 then up sr tm 20 else sr) (if tm < 4 then up lg tm 0 else lg) (if tm < 4 then up (ssT S) tm 0 else ssT S)) td ov) (zEq.cons (zE1.obj (zfc (by omega) (zfk (zfc (by omega) (zfk (zfk (zfk (zfk (zfk (zfk (zfk (zfk (zfk (zfk (zfk rfl))))))))))))))) (zEq.cons zE1.rf (zEq.cons zE1.rf (zEq.cons zE1.rf (zEq.cons zE1.rf (zEq.cons (zE1.arr (by first | (intro j h0 h1; rfl) | (intro j h0 h1; first | (rw [if_neg (by omega), if_neg (by omega), if_neg (by omega), if_neg (by omega), if_neg (by omega)]) | (rw [if_pos (by omega), if_pos (by omega), if_pos (by omega), if_pos (by omega), if_pos (by omega)]; exact tbl_new (by omega) j)))) (zEq.cons zE1.rf (zEq.cons zE1.rf zEq.nil)))))))) ?_
    exact hret () dX2_addTeam_18 rfl (by omega)
set_option maxHeartbeats 4000000 in
set_option maxRecDepth 100000 in
theorem c_X2_setTide (l : Launch) (D : va_G) (g : Nat → ClassId) (m : Nat) (b : Nat → Nat) (th hr tm en : Int) (td bu sr lg ov : Int → Int) (S : SS) (v : Int) (L : Int) (hI : LI td bu sr lg tm hr S) (hSI : SI tm S) (hv : -2147483648 ≤ v ∧ v ≤ 2147483647) (hL : -2147483648 ≤ L ∧ L ≤ 2147483647) : ZMi (S := Unit) l yX2_setTide wsX2_setTide ({ frames := 1, cells := 0, slots := 0, locals := 60 }) D g [.ref m, .int (iI v), .int (iI L)] (wMo g m b th hr tm en (ssLo S) (ssSl S) (ssFa S) (ssS S) (ssF S) (ssW S) (kOf (ssO S) (ssP S)) (tbl tm bu sr lg (ssT S)) td ov) (fun z _ => ((if ¬ (0 ≤ v ∧ v < 12) then 1 else if ¬ (0 ≤ L ∧ L ≤ 30) then 2 else 0) : Int) = 0 → z = td v) (fun _ => wMo g m b (if ¬ (0 ≤ v ∧ v < 12) then 1 else if ¬ (0 ≤ L ∧ L ≤ 30) then 2 else 0) hr tm en (ssLo S) (ssSl S) (ssFa S) (ssS S) (ssF S) (ssW S) (kOf (ssO S) (ssP S)) (tbl tm bu sr lg (ssT S)) (if ((if ¬ (0 ≤ v ∧ v < 12) then 1 else if ¬ (0 ≤ L ∧ L ≤ 30) then 2 else 0) : Int) = 0 then up td v L else td) ov) 0 0 := by
  have hinX2 : ∀ w ∈ u_ws RX2 TX2 14, w ∈ wsX2_setTide := by decide +kernel
  have L25 : Cond.fieldLink RX2 25 "SandcastleLeagueModel" "tides" "[I" ∈ wsX2_setTide := by decide +kernel
  have L35 : Cond.fieldLink RX2 35 "SandcastleLeagueModel" "thrown" "I" ∈ wsX2_setTide := by decide +kernel
  obtain ⟨htd, hbu, hsr, hlg, htm, hhr, hSB, hT⟩ := id hI
  obtain ⟨hs, hf, hw, ho, hp⟩ := id hSB
  refine ZMi.of (own := RX2) cX2_setTide 4 [(0, .ref m), (1, .int (iI v)), (2, .int (iI L))] (by decide +kernel) rfl (nle rfl) rfl rfl ?_
  intro E hC hN hret
  refine z_aloadn 1 hC 0 dX2_setTide_0 rfl rfl rfl ?_
  refine z_iconst 2 hC dX2_setTide_1 rfl ?_
  refine z_put (ty := .int) (ws' := wMo g m b 0 hr tm en (ssLo S) (ssSl S) (ssFa S) (ssS S) (ssF S) (ssW S) (kOf (ssO S) (ssP S)) (tbl tm bu sr lg (ssT S)) td ov) 5 0 0 hC tyX2 tyX2_ok nmX2 hinX2 L35 dX2_setTide_2 rfl rfl rfl (by decide) rfl (by decide +kernel) rfl rfl (nle rfl) rfl ?_
  refine z_iloadn 6 hC 1 dX2_setTide_5 rfl rfl rfl ?_
  refine z_iconst 7 hC dX2_setTide_6 rfl ?_
  refine z_bipush 9 hC dX2_setTide_7 (by decide) rfl ?_
  refine z_calli (wr := [(m, .inr (2, [.int (iI 0), .int (iI hr), .int (iI tm), .int (iI en), .int (iI (ssLo S)), .int (iI (ssSl S)), .int (iI (ssFa S)), .ref (b 0), .ref (b 1), .ref (b 2), .ref (b 3), .ref (b 4), .ref (b 5), .ref (b 6)])), ((b 0), ar g 120 (ssS S)), ((b 1), ar g 120 (ssF S)), ((b 2), ar g 120 (ssW S)), ((b 3), ar g 120 (kOf (ssO S) (ssP S))), ((b 4), ar g 16 (tbl tm bu sr lg (ssT S))), ((b 5), ar g 12 td), ((b 6), ar g 120 ov)]) (w2 := fun _ => wMo g m b 0 hr tm en (ssLo S) (ssSl S) (ssFa S) (ssS S) (ssF S) (ssW S) (kOf (ssO S) (ssP S)) (tbl tm bu sr lg (ssT S)) td ov) 12 hC [] [0, 1, 2, 3, 4, 5, 6, 7] [0, 1, 2, 3, 4, 5, 6, 7] (z_runS (nA := 3) hC hN (c_X2_isIn l D g v 0 11 (by omega) (by omega) (by omega)) [] rfl (by decide) gX2_setTide_X2_isIn (by decide +kernel) rfl rfl rfl ⟨by decide, by decide⟩ rfl rfl (nle rfl) dX2_setTide_9 ⟨by decide, by decide⟩) rfl rfl (by decide) (by decide) (fun _ => rfl) (by decide) rfl (k2 := 0) (n2 := 0) rfl rfl (fun z_1 _ p_2 => ?_)
  refine z_if_ne 21 15 hC dX2_setTide_12 (by decide) rfl (by omega) (fun c_3 => ?_) (fun c_3 => ?_)
  · skip
    refine z_iloadn 22 hC 2 dX2_setTide_21 rfl rfl rfl ?_
    refine z_iconst 23 hC dX2_setTide_22 rfl ?_
    refine z_bipush 25 hC dX2_setTide_23 (by decide) rfl ?_
    refine z_calli (wr := [(m, .inr (2, [.int (iI 0), .int (iI hr), .int (iI tm), .int (iI en), .int (iI (ssLo S)), .int (iI (ssSl S)), .int (iI (ssFa S)), .ref (b 0), .ref (b 1), .ref (b 2), .ref (b 3), .ref (b 4), .ref (b 5), .ref (b 6)])), ((b 0), ar g 120 (ssS S)), ((b 1), ar g 120 (ssF S)), ((b 2), ar g 120 (ssW S)), ((b 3), ar g 120 (kOf (ssO S) (ssP S))), ((b 4), ar g 16 (tbl tm bu sr lg (ssT S))), ((b 5), ar g 12 td), ((b 6), ar g 120 ov)]) (w2 := fun _ => wMo g m b 0 hr tm en (ssLo S) (ssSl S) (ssFa S) (ssS S) (ssF S) (ssW S) (kOf (ssO S) (ssP S)) (tbl tm bu sr lg (ssT S)) td ov) 28 hC [] [0, 1, 2, 3, 4, 5, 6, 7] [0, 1, 2, 3, 4, 5, 6, 7] (z_runS (nA := 3) hC hN (c_X2_isIn l D g L 0 30 (by omega) (by omega) (by omega)) [] rfl (by decide) gX2_setTide_X2_isIn (by decide +kernel) rfl rfl rfl ⟨by decide, by decide⟩ rfl rfl (nle rfl) dX2_setTide_25 ⟨by decide, by decide⟩) rfl rfl (by decide) (by decide) (fun _ => rfl) (by decide) rfl (k2 := 0) (n2 := 0) rfl rfl (fun z_4 _ p_5 => ?_)
    refine z_if_ne 37 31 hC dX2_setTide_28 (by decide) rfl (by omega) (fun c_6 => ?_) (fun c_6 => ?_)
    · skip
      refine z_aloadn 38 hC 0 dX2_setTide_37 rfl rfl rfl ?_
      refine z_get 41 0 12 hC hinX2 L25 dX2_setTide_38 rfl rfl rfl (by decide) rfl ?_
      refine z_iloadn 42 hC 1 dX2_setTide_41 rfl rfl rfl ?_
      refine z_iald 43 6 hC dX2_setTide_42 rfl rfl (by decide) (by omega) ?_
      have b_7 := htd v (by omega) (by omega)
      refine z_istoren (lv' := [(3, .int (iI (td v))), (0, .ref m), (1, .int (iI v)), (2, .int (iI L))]) 44 hC dX2_setTide_43 rfl rfl (by decide) rfl ?_
      refine z_aloadn 45 hC 1 dX2_setTide_44 rfl rfl rfl ?_
      refine z_get 48 0 12 hC hinX2 L25 dX2_setTide_45 rfl rfl rfl (by decide) rfl ?_
      refine z_iloadn 49 hC 2 dX2_setTide_48 rfl rfl rfl ?_
      refine z_iloadn 50 hC 3 dX2_setTide_49 rfl rfl rfl ?_
      refine z_iast (ws' := wMo g m b 0 hr tm en (ssLo S) (ssSl S) (ssFa S) (ssS S) (ssF S) (ssW S) (kOf (ssO S) (ssP S)) (tbl tm bu sr lg (ssT S)) (up td v L) ov) 51 6 hC dX2_setTide_50 rfl rfl (by decide) (by omega) rfl ?_
      refine z_iloadn 52 hC 0 dX2_setTide_51 rfl rfl rfl ?_
      refine z_weq (ws' := wMo g m b (if ¬ (0 ≤ v ∧ v < 12) then 1 else if ¬ (0 ≤ L ∧ L ≤ 30) then 2 else 0) hr tm en (ssLo S) (ssSl S) (ssFa S) (ssS S) (ssF S) (ssW S) (kOf (ssO S) (ssP S)) (tbl tm bu sr lg (ssT S)) (if ((if ¬ (0 ≤ v ∧ v < 12) then 1 else if ¬ (0 ≤ L ∧ L ≤ 30) then 2 else 0) : Int) = 0 then up td v L else td) ov) (zEq.cons (zE1.obj (zfc (by omega) (zfk (zfk (zfk (zfk (zfk (zfk (zfk (zfk (zfk (zfk (zfk (zfk (zfk rfl))))))))))))))) (zEq.cons zE1.rf (zEq.cons zE1.rf (zEq.cons zE1.rf (zEq.cons zE1.rf (zEq.cons zE1.rf (zEq.cons (zE1.arr (by first | (intro j h0 h1; rfl) | (intro j h0 h1; first | rw [if_pos (by omega)] | rw [if_neg (by omega)]))) (zEq.cons zE1.rf zEq.nil)))))))) ?_
      exact hret () dX2_setTide_52 rfl (by intro q9; first | rfl | omega)
    · skip
      refine z_aloadn 32 hC 0 dX2_setTide_31 rfl rfl rfl ?_
      refine z_iconst 33 hC dX2_setTide_32 rfl ?_
      refine z_calli (wr := []) (w2 := fun _ => wMo g m b 2 hr tm en (ssLo S) (ssSl S) (ssFa S) (ssS S) (ssF S) (ssW S) (kOf (ssO S) (ssP S)) (tbl tm bu sr lg (ssT S)) td ov) 36 hC [0, 1, 2, 3, 4, 5, 6, 7] [] [0, 1, 2, 3, 4, 5, 6, 7] (z_runV (nA := 1) hC hN (c_X2_fail l D g m b 0 hr tm en (ssLo S) (ssSl S) (ssFa S) (ssS S) (ssF S) (ssW S) (kOf (ssO S) (ssP S)) (tbl tm bu sr lg (ssT S)) td ov 2 ) [0, 1, 2, 3, 4, 5, 6, 7] rfl (by decide) gX2_setTide_X2_fail (by decide +kernel) rfl rfl rfl ⟨by decide, by decide⟩ rfl rfl (nle rfl) dX2_setTide_33 ⟨by decide, by decide⟩ 0 rfl rfl) rfl rfl (by decide) (by decide) (fun _ => rfl) (by decide) rfl (k2 := 0) (n2 := 0) rfl rfl (fun z_8 _ p_9 => ?_)
      subst p_9
      refine z_weq (ws' := wMo g m b (if ¬ (0 ≤ v ∧ v < 12) then 1 else if ¬ (0 ≤ L ∧ L ≤ 30) then 2 else 0) hr tm en (ssLo S) (ssSl S) (ssFa S) (ssS S) (ssF S) (ssW S) (kOf (ssO S) (ssP S)) (tbl tm bu sr lg (ssT S)) (if ((if ¬ (0 ≤ v ∧ v < 12) then 1 else if ¬ (0 ≤ L ∧ L ≤ 30) then 2 else 0) : Int) = 0 then up td v L else td) ov) (zEq.cons (zE1.obj (zfc (by omega) (zfk (zfk (zfk (zfk (zfk (zfk (zfk (zfk (zfk (zfk (zfk (zfk (zfk rfl))))))))))))))) (zEq.cons zE1.rf (zEq.cons zE1.rf (zEq.cons zE1.rf (zEq.cons zE1.rf (zEq.cons zE1.rf (zEq.cons (zE1.arr (by first | (intro j h0 h1; rfl) | (intro j h0 h1; first | rw [if_pos (by omega)] | rw [if_neg (by omega)]))) (zEq.cons zE1.rf zEq.nil)))))))) ?_
      exact hret () dX2_setTide_36 rfl (by intro q9; first | rfl | omega)
  · skip
    refine z_aloadn 16 hC 0 dX2_setTide_15 rfl rfl rfl ?_
    refine z_iconst 17 hC dX2_setTide_16 rfl ?_
    refine z_calli (wr := []) (w2 := fun _ => wMo g m b 1 hr tm en (ssLo S) (ssSl S) (ssFa S) (ssS S) (ssF S) (ssW S) (kOf (ssO S) (ssP S)) (tbl tm bu sr lg (ssT S)) td ov) 20 hC [0, 1, 2, 3, 4, 5, 6, 7] [] [0, 1, 2, 3, 4, 5, 6, 7] (z_runV (nA := 1) hC hN (c_X2_fail l D g m b 0 hr tm en (ssLo S) (ssSl S) (ssFa S) (ssS S) (ssF S) (ssW S) (kOf (ssO S) (ssP S)) (tbl tm bu sr lg (ssT S)) td ov 1 ) [0, 1, 2, 3, 4, 5, 6, 7] rfl (by decide) gX2_setTide_X2_fail (by decide +kernel) rfl rfl rfl ⟨by decide, by decide⟩ rfl rfl (nle rfl) dX2_setTide_17 ⟨by decide, by decide⟩ 0 rfl rfl) rfl rfl (by decide) (by decide) (fun _ => rfl) (by decide) rfl (k2 := 0) (n2 := 0) rfl rfl (fun z_10 _ p_11 => ?_)
    subst p_11
    refine z_weq (ws' := wMo g m b (if ¬ (0 ≤ v ∧ v < 12) then 1 else if ¬ (0 ≤ L ∧ L ≤ 30) then 2 else 0) hr tm en (ssLo S) (ssSl S) (ssFa S) (ssS S) (ssF S) (ssW S) (kOf (ssO S) (ssP S)) (tbl tm bu sr lg (ssT S)) (if ((if ¬ (0 ≤ v ∧ v < 12) then 1 else if ¬ (0 ≤ L ∧ L ≤ 30) then 2 else 0) : Int) = 0 then up td v L else td) ov) (zEq.cons (zE1.obj (zfc (by omega) (zfk (zfk (zfk (zfk (zfk (zfk (zfk (zfk (zfk (zfk (zfk (zfk (zfk rfl))))))))))))))) (zEq.cons zE1.rf (zEq.cons zE1.rf (zEq.cons zE1.rf (zEq.cons zE1.rf (zEq.cons zE1.rf (zEq.cons (zE1.arr (by first | (intro j h0 h1; rfl) | (intro j h0 h1; first | rw [if_pos (by omega)] | rw [if_neg (by omega)]))) (zEq.cons zE1.rf zEq.nil)))))))) ?_
    exact hret () dX2_setTide_20 rfl (by intro q9; first | rfl | omega)
set_option maxHeartbeats 4000000 in
set_option maxRecDepth 100000 in
theorem c_X2_deed (l : Launch) (D : va_G) (g : Nat → ClassId) (m : Nat) (b : Nat → Nat) (th hr tm en : Int) (td bu sr lg ov : Int → Int) (S : SS) (k : Int) (cx : Int) (cy : Int) (n : Int) (hI : LI td bu sr lg tm hr S) (hSI : SI tm S) (hk : -2147483648 ≤ k ∧ k ≤ 2147483647) (hcx : -2147483648 ≤ cx ∧ cx ≤ 2147483647) (hcy : -2147483648 ≤ cy ∧ cy ≤ 2147483647) (hn : -2147483648 ≤ n ∧ n ≤ 2147483647) : ZMi (S := Unit) l yX2_deed wsX2_deed ({ frames := 2, cells := 0, slots := 0, locals := 100 }) D g [.ref m, .int (iI k), .int (iI cx), .int (iI cy), .int (iI n)] (wMo g m b th hr tm en (ssLo S) (ssSl S) (ssFa S) (ssS S) (ssF S) (ssW S) (kOf (ssO S) (ssP S)) (tbl tm bu sr lg (ssT S)) td ov) (fun z _ => (thrD tm sr k cx cy n = 0 ∧ 0 ≤ k ∧ k < tm ∧ 0 ≤ cx ∧ cx < 12 ∧ 0 ≤ cy ∧ cy < 10 ∧ cx / 3 = k ∧ 1 ≤ n ∧ n ≤ 5 ∧ 0 < sr k ∧ z = cx + 12 * cy) ∨ (thrD tm sr k cx cy n ≠ 0 ∧ z = -1)) (fun _ => wMo g m b (thrD tm sr k cx cy n) hr tm en (ssLo S) (ssSl S) (ssFa S) (ssS S) (ssF S) (ssW S) (kOf (ssO S) (ssP S)) (tbl tm bu sr lg (ssT S)) td ov) 0 0 := by
  have hinX2 : ∀ w ∈ u_ws RX2 TX2 14, w ∈ wsX2_deed := by decide +kernel
  have L35 : Cond.fieldLink RX2 35 "SandcastleLeagueModel" "thrown" "I" ∈ wsX2_deed := by decide +kernel
  obtain ⟨htd, hbu, hsr, hlg, htm, hhr, hSB, hT⟩ := id hI
  obtain ⟨hs, hf, hw, ho, hp⟩ := id hSB
  refine ZMi.of (own := RX2) cX2_deed 5 [(0, .ref m), (1, .int (iI k)), (2, .int (iI cx)), (3, .int (iI cy)), (4, .int (iI n))] (by decide +kernel) rfl (nle rfl) rfl rfl ?_
  intro E hC hN hret
  refine z_aloadn 1 hC 0 dX2_deed_0 rfl rfl rfl ?_
  refine z_aloadn 2 hC 0 dX2_deed_1 rfl rfl rfl ?_
  refine z_iloadn 3 hC 1 dX2_deed_2 rfl rfl rfl ?_
  refine z_calli (wr := []) (w2 := fun _ => wMo g m b th hr tm en (ssLo S) (ssSl S) (ssFa S) (ssS S) (ssF S) (ssW S) (kOf (ssO S) (ssP S)) (tbl tm bu sr lg (ssT S)) td ov) 6 hC [0, 1, 2, 3, 4, 5, 6, 7] [] [0, 1, 2, 3, 4, 5, 6, 7] (z_runV (nA := 1) hC hN (c_X2_isTeam l D g m b th hr tm en (ssLo S) (ssSl S) (ssFa S) (ssS S) (ssF S) (ssW S) (kOf (ssO S) (ssP S)) (tbl tm bu sr lg (ssT S)) td ov k (by omega) (by omega)) [0, 1, 2, 3, 4, 5, 6, 7] rfl (by decide) gX2_deed_X2_isTeam (by decide +kernel) rfl rfl rfl ⟨by decide, by decide⟩ rfl rfl (nle rfl) dX2_deed_3 ⟨by decide, by decide⟩ 0 rfl rfl) rfl rfl (by decide) (by decide) (fun _ => rfl) (by decide) rfl (k2 := 0) (n2 := 0) rfl rfl (fun z_1 _ p_2 => ?_)
  refine z_if_ne 13 9 hC dX2_deed_6 (by decide) rfl (by omega) (fun c_3 => ?_) (fun c_3 => ?_)
  · skip
    refine z_iloadn 14 hC 2 dX2_deed_13 rfl rfl rfl ?_
    refine z_iconst 15 hC dX2_deed_14 rfl ?_
    refine z_iloadn 16 hC 1 dX2_deed_15 rfl rfl rfl ?_
    refine z_imul 17 hC dX2_deed_16 rfl ?_
    refine z_iconst 18 hC dX2_deed_17 rfl ?_
    refine z_iloadn 19 hC 1 dX2_deed_18 rfl rfl rfl ?_
    refine z_imul 20 hC dX2_deed_19 rfl ?_
    refine z_iconst 21 hC dX2_deed_20 rfl ?_
    refine z_iadd 22 hC dX2_deed_21 rfl ?_
    refine z_calli (wr := [(m, .inr (2, [.int (iI th), .int (iI hr), .int (iI tm), .int (iI en), .int (iI (ssLo S)), .int (iI (ssSl S)), .int (iI (ssFa S)), .ref (b 0), .ref (b 1), .ref (b 2), .ref (b 3), .ref (b 4), .ref (b 5), .ref (b 6)])), ((b 0), ar g 120 (ssS S)), ((b 1), ar g 120 (ssF S)), ((b 2), ar g 120 (ssW S)), ((b 3), ar g 120 (kOf (ssO S) (ssP S))), ((b 4), ar g 16 (tbl tm bu sr lg (ssT S))), ((b 5), ar g 12 td), ((b 6), ar g 120 ov)]) (w2 := fun _ => wMo g m b th hr tm en (ssLo S) (ssSl S) (ssFa S) (ssS S) (ssF S) (ssW S) (kOf (ssO S) (ssP S)) (tbl tm bu sr lg (ssT S)) td ov) 25 hC [] [0, 1, 2, 3, 4, 5, 6, 7] [0, 1, 2, 3, 4, 5, 6, 7] (z_runS (nA := 3) hC hN (c_X2_isIn l D g cx (3 * k) ((3 * k) + 2) (by omega) (by omega) (by omega)) [] rfl (by decide) gX2_deed_X2_isIn (by decide +kernel) rfl rfl rfl ⟨by decide, by decide⟩ rfl rfl (nle rfl) dX2_deed_22 ⟨by decide, by decide⟩) rfl rfl (by decide) (by decide) (fun _ => rfl) (by decide) rfl (k2 := 0) (n2 := 0) rfl rfl (fun z_4 _ p_5 => ?_)
    refine z_if_eq 48 28 hC dX2_deed_25 (by decide) rfl (by omega) (fun c_6 => ?_) (fun c_6 => ?_)
    · skip
      refine z_iconst 49 hC dX2_deed_48 rfl ?_
      refine z_goto 66 hC dX2_deed_49 (by decide) ?_
      refine z_put (ty := .int) (ws' := wMo g m b 2 hr tm en (ssLo S) (ssSl S) (ssFa S) (ssS S) (ssF S) (ssW S) (kOf (ssO S) (ssP S)) (tbl tm bu sr lg (ssT S)) td ov) 69 0 0 hC tyX2 tyX2_ok nmX2 hinX2 L35 dX2_deed_66 rfl rfl rfl (by decide) rfl (by decide +kernel) rfl rfl (nle rfl) rfl ?_
      refine z_aloadn 70 hC 0 dX2_deed_69 rfl rfl rfl ?_
      refine z_get 73 0 0 hC hinX2 L35 dX2_deed_70 rfl rfl rfl (by decide) rfl ?_
      refine z_if_ne 85 76 hC dX2_deed_73 (by decide) rfl (by omega) (fun c_7 => ?_) (fun c_7 => ?_)
      · skip
        refine z_iconst 86 hC dX2_deed_85 rfl ?_
        refine z_weq (ws' := wMo g m b (thrD tm sr k cx cy n) hr tm en (ssLo S) (ssSl S) (ssFa S) (ssS S) (ssF S) (ssW S) (kOf (ssO S) (ssP S)) (tbl tm bu sr lg (ssT S)) td ov) (zEq.cons (zE1.obj (zfc (by unfold thrD; omega) (zfk (zfk (zfk (zfk (zfk (zfk (zfk (zfk (zfk (zfk (zfk (zfk (zfk rfl))))))))))))))) (zEq.cons zE1.rf (zEq.cons zE1.rf (zEq.cons zE1.rf (zEq.cons zE1.rf (zEq.cons zE1.rf (zEq.cons zE1.rf (zEq.cons zE1.rf zEq.nil)))))))) ?_
        exact hret () dX2_deed_86 rfl (by unfold thrD; omega)
      · skip
        refine z_iloadn 77 hC 2 dX2_deed_76 rfl rfl rfl ?_
        refine z_bipush 79 hC dX2_deed_77 (by decide) rfl ?_
        refine z_iloadn 80 hC 3 dX2_deed_79 rfl rfl rfl ?_
        refine z_imul 81 hC dX2_deed_80 rfl ?_
        refine z_iadd 82 hC dX2_deed_81 rfl ?_
        refine z_goto 86 hC dX2_deed_82 (by decide) ?_
        refine z_weq (ws' := wMo g m b (thrD tm sr k cx cy n) hr tm en (ssLo S) (ssSl S) (ssFa S) (ssS S) (ssF S) (ssW S) (kOf (ssO S) (ssP S)) (tbl tm bu sr lg (ssT S)) td ov) (zEq.cons (zE1.obj (zfc (by unfold thrD; omega) (zfk (zfk (zfk (zfk (zfk (zfk (zfk (zfk (zfk (zfk (zfk (zfk (zfk rfl))))))))))))))) (zEq.cons zE1.rf (zEq.cons zE1.rf (zEq.cons zE1.rf (zEq.cons zE1.rf (zEq.cons zE1.rf (zEq.cons zE1.rf (zEq.cons zE1.rf zEq.nil)))))))) ?_
        exact hret () dX2_deed_86 rfl (by unfold thrD; omega)
    · skip
      refine z_iloadn 29 hC 3 dX2_deed_28 rfl rfl rfl ?_
      refine z_iconst 30 hC dX2_deed_29 rfl ?_
      refine z_bipush 32 hC dX2_deed_30 (by decide) rfl ?_
      refine z_calli (wr := [(m, .inr (2, [.int (iI th), .int (iI hr), .int (iI tm), .int (iI en), .int (iI (ssLo S)), .int (iI (ssSl S)), .int (iI (ssFa S)), .ref (b 0), .ref (b 1), .ref (b 2), .ref (b 3), .ref (b 4), .ref (b 5), .ref (b 6)])), ((b 0), ar g 120 (ssS S)), ((b 1), ar g 120 (ssF S)), ((b 2), ar g 120 (ssW S)), ((b 3), ar g 120 (kOf (ssO S) (ssP S))), ((b 4), ar g 16 (tbl tm bu sr lg (ssT S))), ((b 5), ar g 12 td), ((b 6), ar g 120 ov)]) (w2 := fun _ => wMo g m b th hr tm en (ssLo S) (ssSl S) (ssFa S) (ssS S) (ssF S) (ssW S) (kOf (ssO S) (ssP S)) (tbl tm bu sr lg (ssT S)) td ov) 35 hC [] [0, 1, 2, 3, 4, 5, 6, 7] [0, 1, 2, 3, 4, 5, 6, 7] (z_runS (nA := 3) hC hN (c_X2_isIn l D g cy 0 9 (by omega) (by omega) (by omega)) [] rfl (by decide) gX2_deed_X2_isIn (by decide +kernel) rfl rfl rfl ⟨by decide, by decide⟩ rfl rfl (nle rfl) dX2_deed_32 ⟨by decide, by decide⟩) rfl rfl (by decide) (by decide) (fun _ => rfl) (by decide) rfl (k2 := 0) (n2 := 0) rfl rfl (fun z_8 _ p_9 => ?_)
      refine z_if_eq 48 38 hC dX2_deed_35 (by decide) rfl (by omega) (fun c_10 => ?_) (fun c_10 => ?_)
      · skip
        refine z_iconst 49 hC dX2_deed_48 rfl ?_
        refine z_goto 66 hC dX2_deed_49 (by decide) ?_
        refine z_put (ty := .int) (ws' := wMo g m b 2 hr tm en (ssLo S) (ssSl S) (ssFa S) (ssS S) (ssF S) (ssW S) (kOf (ssO S) (ssP S)) (tbl tm bu sr lg (ssT S)) td ov) 69 0 0 hC tyX2 tyX2_ok nmX2 hinX2 L35 dX2_deed_66 rfl rfl rfl (by decide) rfl (by decide +kernel) rfl rfl (nle rfl) rfl ?_
        refine z_aloadn 70 hC 0 dX2_deed_69 rfl rfl rfl ?_
        refine z_get 73 0 0 hC hinX2 L35 dX2_deed_70 rfl rfl rfl (by decide) rfl ?_
        refine z_if_ne 85 76 hC dX2_deed_73 (by decide) rfl (by omega) (fun c_11 => ?_) (fun c_11 => ?_)
        · skip
          refine z_iconst 86 hC dX2_deed_85 rfl ?_
          refine z_weq (ws' := wMo g m b (thrD tm sr k cx cy n) hr tm en (ssLo S) (ssSl S) (ssFa S) (ssS S) (ssF S) (ssW S) (kOf (ssO S) (ssP S)) (tbl tm bu sr lg (ssT S)) td ov) (zEq.cons (zE1.obj (zfc (by unfold thrD; omega) (zfk (zfk (zfk (zfk (zfk (zfk (zfk (zfk (zfk (zfk (zfk (zfk (zfk rfl))))))))))))))) (zEq.cons zE1.rf (zEq.cons zE1.rf (zEq.cons zE1.rf (zEq.cons zE1.rf (zEq.cons zE1.rf (zEq.cons zE1.rf (zEq.cons zE1.rf zEq.nil)))))))) ?_
          exact hret () dX2_deed_86 rfl (by unfold thrD; omega)
        · skip
          refine z_iloadn 77 hC 2 dX2_deed_76 rfl rfl rfl ?_
          refine z_bipush 79 hC dX2_deed_77 (by decide) rfl ?_
          refine z_iloadn 80 hC 3 dX2_deed_79 rfl rfl rfl ?_
          refine z_imul 81 hC dX2_deed_80 rfl ?_
          refine z_iadd 82 hC dX2_deed_81 rfl ?_
          refine z_goto 86 hC dX2_deed_82 (by decide) ?_
          refine z_weq (ws' := wMo g m b (thrD tm sr k cx cy n) hr tm en (ssLo S) (ssSl S) (ssFa S) (ssS S) (ssF S) (ssW S) (kOf (ssO S) (ssP S)) (tbl tm bu sr lg (ssT S)) td ov) (zEq.cons (zE1.obj (zfc (by unfold thrD; omega) (zfk (zfk (zfk (zfk (zfk (zfk (zfk (zfk (zfk (zfk (zfk (zfk (zfk rfl))))))))))))))) (zEq.cons zE1.rf (zEq.cons zE1.rf (zEq.cons zE1.rf (zEq.cons zE1.rf (zEq.cons zE1.rf (zEq.cons zE1.rf (zEq.cons zE1.rf zEq.nil)))))))) ?_
          exact hret () dX2_deed_86 rfl (by unfold thrD; omega)
      · skip
        refine z_iload 40 hC 4 dX2_deed_38 rfl rfl ?_
        refine z_iconst 41 hC dX2_deed_40 rfl ?_
        refine z_iconst 42 hC dX2_deed_41 rfl ?_
        refine z_calli (wr := [(m, .inr (2, [.int (iI th), .int (iI hr), .int (iI tm), .int (iI en), .int (iI (ssLo S)), .int (iI (ssSl S)), .int (iI (ssFa S)), .ref (b 0), .ref (b 1), .ref (b 2), .ref (b 3), .ref (b 4), .ref (b 5), .ref (b 6)])), ((b 0), ar g 120 (ssS S)), ((b 1), ar g 120 (ssF S)), ((b 2), ar g 120 (ssW S)), ((b 3), ar g 120 (kOf (ssO S) (ssP S))), ((b 4), ar g 16 (tbl tm bu sr lg (ssT S))), ((b 5), ar g 12 td), ((b 6), ar g 120 ov)]) (w2 := fun _ => wMo g m b th hr tm en (ssLo S) (ssSl S) (ssFa S) (ssS S) (ssF S) (ssW S) (kOf (ssO S) (ssP S)) (tbl tm bu sr lg (ssT S)) td ov) 45 hC [] [0, 1, 2, 3, 4, 5, 6, 7] [0, 1, 2, 3, 4, 5, 6, 7] (z_runS (nA := 3) hC hN (c_X2_isIn l D g n 1 5 (by omega) (by omega) (by omega)) [] rfl (by decide) gX2_deed_X2_isIn (by decide +kernel) rfl rfl rfl ⟨by decide, by decide⟩ rfl rfl (nle rfl) dX2_deed_42 ⟨by decide, by decide⟩) rfl rfl (by decide) (by decide) (fun _ => rfl) (by decide) rfl (k2 := 0) (n2 := 0) rfl rfl (fun z_12 _ p_13 => ?_)
        refine z_if_ne 52 48 hC dX2_deed_45 (by decide) rfl (by omega) (fun c_14 => ?_) (fun c_14 => ?_)
        · skip
          have b9 := hsr k (by omega) (by omega)
          refine z_aloadn 53 hC 0 dX2_deed_52 rfl rfl rfl ?_
          refine z_iloadn 54 hC 1 dX2_deed_53 rfl rfl rfl ?_
          refine z_iconst 55 hC dX2_deed_54 rfl ?_
          refine z_calli (wr := []) (w2 := fun _ => wMo g m b th hr tm en (ssLo S) (ssSl S) (ssFa S) (ssS S) (ssF S) (ssW S) (kOf (ssO S) (ssP S)) (tbl tm bu sr lg (ssT S)) td ov) 58 hC [0, 1, 2, 3, 4, 5, 6, 7] [] [0, 1, 2, 3, 4, 5, 6, 7] (z_runV (nA := 2) hC hN (c_X2_get l D g m b th hr tm en (ssLo S) (ssSl S) (ssFa S) (ssS S) (ssF S) (ssW S) (kOf (ssO S) (ssP S)) (tbl tm bu sr lg (ssT S)) td ov k 1 (by omega) (by omega)) [0, 1, 2, 3, 4, 5, 6, 7] rfl (by decide) gX2_deed_X2_get (by decide +kernel) rfl rfl rfl ⟨by decide, by decide⟩ rfl rfl (nle rfl) dX2_deed_55 ⟨by decide, by decide⟩ 0 rfl rfl) rfl rfl (by decide) (by decide) (fun _ => rfl) (by decide) rfl (k2 := 0) (n2 := 0) rfl rfl (fun z_15 _ p_16 => ?_)
          have p_16t : z_15 = sr k := p_16.trans (tbl_1 (by omega))
          clear p_16
          subst p_16t
          refine z_if_ne 65 61 hC dX2_deed_58 (by decide) rfl (by omega) (fun c_17 => ?_) (fun c_17 => ?_)
          · skip
            refine z_iconst 66 hC dX2_deed_65 rfl ?_
            refine z_put (ty := .int) (ws' := wMo g m b 0 hr tm en (ssLo S) (ssSl S) (ssFa S) (ssS S) (ssF S) (ssW S) (kOf (ssO S) (ssP S)) (tbl tm bu sr lg (ssT S)) td ov) 69 0 0 hC tyX2 tyX2_ok nmX2 hinX2 L35 dX2_deed_66 rfl rfl rfl (by decide) rfl (by decide +kernel) rfl rfl (nle rfl) rfl ?_
            refine z_aloadn 70 hC 0 dX2_deed_69 rfl rfl rfl ?_
            refine z_get 73 0 0 hC hinX2 L35 dX2_deed_70 rfl rfl rfl (by decide) rfl ?_
            refine z_if_ne 85 76 hC dX2_deed_73 (by decide) rfl (by omega) (fun c_18 => ?_) (fun c_18 => ?_)
            · skip
              refine z_iconst 86 hC dX2_deed_85 rfl ?_
              refine z_weq (ws' := wMo g m b (thrD tm sr k cx cy n) hr tm en (ssLo S) (ssSl S) (ssFa S) (ssS S) (ssF S) (ssW S) (kOf (ssO S) (ssP S)) (tbl tm bu sr lg (ssT S)) td ov) (zEq.cons (zE1.obj (zfc (by unfold thrD; omega) (zfk (zfk (zfk (zfk (zfk (zfk (zfk (zfk (zfk (zfk (zfk (zfk (zfk rfl))))))))))))))) (zEq.cons zE1.rf (zEq.cons zE1.rf (zEq.cons zE1.rf (zEq.cons zE1.rf (zEq.cons zE1.rf (zEq.cons zE1.rf (zEq.cons zE1.rf zEq.nil)))))))) ?_
              exact hret () dX2_deed_86 rfl (by unfold thrD; omega)
            · skip
              refine z_iloadn 77 hC 2 dX2_deed_76 rfl rfl rfl ?_
              refine z_bipush 79 hC dX2_deed_77 (by decide) rfl ?_
              refine z_iloadn 80 hC 3 dX2_deed_79 rfl rfl rfl ?_
              refine z_imul 81 hC dX2_deed_80 rfl ?_
              refine z_iadd 82 hC dX2_deed_81 rfl ?_
              refine z_goto 86 hC dX2_deed_82 (by decide) ?_
              refine z_weq (ws' := wMo g m b (thrD tm sr k cx cy n) hr tm en (ssLo S) (ssSl S) (ssFa S) (ssS S) (ssF S) (ssW S) (kOf (ssO S) (ssP S)) (tbl tm bu sr lg (ssT S)) td ov) (zEq.cons (zE1.obj (zfc (by unfold thrD; omega) (zfk (zfk (zfk (zfk (zfk (zfk (zfk (zfk (zfk (zfk (zfk (zfk (zfk rfl))))))))))))))) (zEq.cons zE1.rf (zEq.cons zE1.rf (zEq.cons zE1.rf (zEq.cons zE1.rf (zEq.cons zE1.rf (zEq.cons zE1.rf (zEq.cons zE1.rf zEq.nil)))))))) ?_
              exact hret () dX2_deed_86 rfl (by unfold thrD; omega)
          · skip
            refine z_iconst 62 hC dX2_deed_61 rfl ?_
            refine z_goto 66 hC dX2_deed_62 (by decide) ?_
            refine z_put (ty := .int) (ws' := wMo g m b 3 hr tm en (ssLo S) (ssSl S) (ssFa S) (ssS S) (ssF S) (ssW S) (kOf (ssO S) (ssP S)) (tbl tm bu sr lg (ssT S)) td ov) 69 0 0 hC tyX2 tyX2_ok nmX2 hinX2 L35 dX2_deed_66 rfl rfl rfl (by decide) rfl (by decide +kernel) rfl rfl (nle rfl) rfl ?_
            refine z_aloadn 70 hC 0 dX2_deed_69 rfl rfl rfl ?_
            refine z_get 73 0 0 hC hinX2 L35 dX2_deed_70 rfl rfl rfl (by decide) rfl ?_
            refine z_if_ne 85 76 hC dX2_deed_73 (by decide) rfl (by omega) (fun c_19 => ?_) (fun c_19 => ?_)
            · skip
              refine z_iconst 86 hC dX2_deed_85 rfl ?_
              refine z_weq (ws' := wMo g m b (thrD tm sr k cx cy n) hr tm en (ssLo S) (ssSl S) (ssFa S) (ssS S) (ssF S) (ssW S) (kOf (ssO S) (ssP S)) (tbl tm bu sr lg (ssT S)) td ov) (zEq.cons (zE1.obj (zfc (by unfold thrD; omega) (zfk (zfk (zfk (zfk (zfk (zfk (zfk (zfk (zfk (zfk (zfk (zfk (zfk rfl))))))))))))))) (zEq.cons zE1.rf (zEq.cons zE1.rf (zEq.cons zE1.rf (zEq.cons zE1.rf (zEq.cons zE1.rf (zEq.cons zE1.rf (zEq.cons zE1.rf zEq.nil)))))))) ?_
              exact hret () dX2_deed_86 rfl (by unfold thrD; omega)
            · skip
              refine z_iloadn 77 hC 2 dX2_deed_76 rfl rfl rfl ?_
              refine z_bipush 79 hC dX2_deed_77 (by decide) rfl ?_
              refine z_iloadn 80 hC 3 dX2_deed_79 rfl rfl rfl ?_
              refine z_imul 81 hC dX2_deed_80 rfl ?_
              refine z_iadd 82 hC dX2_deed_81 rfl ?_
              refine z_goto 86 hC dX2_deed_82 (by decide) ?_
              refine z_weq (ws' := wMo g m b (thrD tm sr k cx cy n) hr tm en (ssLo S) (ssSl S) (ssFa S) (ssS S) (ssF S) (ssW S) (kOf (ssO S) (ssP S)) (tbl tm bu sr lg (ssT S)) td ov) (zEq.cons (zE1.obj (zfc (by unfold thrD; omega) (zfk (zfk (zfk (zfk (zfk (zfk (zfk (zfk (zfk (zfk (zfk (zfk (zfk rfl))))))))))))))) (zEq.cons zE1.rf (zEq.cons zE1.rf (zEq.cons zE1.rf (zEq.cons zE1.rf (zEq.cons zE1.rf (zEq.cons zE1.rf (zEq.cons zE1.rf zEq.nil)))))))) ?_
              exact hret () dX2_deed_86 rfl (by unfold thrD; omega)
        · skip
          refine z_iconst 49 hC dX2_deed_48 rfl ?_
          refine z_goto 66 hC dX2_deed_49 (by decide) ?_
          refine z_put (ty := .int) (ws' := wMo g m b 2 hr tm en (ssLo S) (ssSl S) (ssFa S) (ssS S) (ssF S) (ssW S) (kOf (ssO S) (ssP S)) (tbl tm bu sr lg (ssT S)) td ov) 69 0 0 hC tyX2 tyX2_ok nmX2 hinX2 L35 dX2_deed_66 rfl rfl rfl (by decide) rfl (by decide +kernel) rfl rfl (nle rfl) rfl ?_
          refine z_aloadn 70 hC 0 dX2_deed_69 rfl rfl rfl ?_
          refine z_get 73 0 0 hC hinX2 L35 dX2_deed_70 rfl rfl rfl (by decide) rfl ?_
          refine z_if_ne 85 76 hC dX2_deed_73 (by decide) rfl (by omega) (fun c_20 => ?_) (fun c_20 => ?_)
          · skip
            refine z_iconst 86 hC dX2_deed_85 rfl ?_
            refine z_weq (ws' := wMo g m b (thrD tm sr k cx cy n) hr tm en (ssLo S) (ssSl S) (ssFa S) (ssS S) (ssF S) (ssW S) (kOf (ssO S) (ssP S)) (tbl tm bu sr lg (ssT S)) td ov) (zEq.cons (zE1.obj (zfc (by unfold thrD; omega) (zfk (zfk (zfk (zfk (zfk (zfk (zfk (zfk (zfk (zfk (zfk (zfk (zfk rfl))))))))))))))) (zEq.cons zE1.rf (zEq.cons zE1.rf (zEq.cons zE1.rf (zEq.cons zE1.rf (zEq.cons zE1.rf (zEq.cons zE1.rf (zEq.cons zE1.rf zEq.nil)))))))) ?_
            exact hret () dX2_deed_86 rfl (by unfold thrD; omega)
          · skip
            refine z_iloadn 77 hC 2 dX2_deed_76 rfl rfl rfl ?_
            refine z_bipush 79 hC dX2_deed_77 (by decide) rfl ?_
            refine z_iloadn 80 hC 3 dX2_deed_79 rfl rfl rfl ?_
            refine z_imul 81 hC dX2_deed_80 rfl ?_
            refine z_iadd 82 hC dX2_deed_81 rfl ?_
            refine z_goto 86 hC dX2_deed_82 (by decide) ?_
            refine z_weq (ws' := wMo g m b (thrD tm sr k cx cy n) hr tm en (ssLo S) (ssSl S) (ssFa S) (ssS S) (ssF S) (ssW S) (kOf (ssO S) (ssP S)) (tbl tm bu sr lg (ssT S)) td ov) (zEq.cons (zE1.obj (zfc (by unfold thrD; omega) (zfk (zfk (zfk (zfk (zfk (zfk (zfk (zfk (zfk (zfk (zfk (zfk (zfk rfl))))))))))))))) (zEq.cons zE1.rf (zEq.cons zE1.rf (zEq.cons zE1.rf (zEq.cons zE1.rf (zEq.cons zE1.rf (zEq.cons zE1.rf (zEq.cons zE1.rf zEq.nil)))))))) ?_
            exact hret () dX2_deed_86 rfl (by unfold thrD; omega)
  · skip
    refine z_iconst 10 hC dX2_deed_9 rfl ?_
    refine z_goto 66 hC dX2_deed_10 (by decide) ?_
    refine z_put (ty := .int) (ws' := wMo g m b 1 hr tm en (ssLo S) (ssSl S) (ssFa S) (ssS S) (ssF S) (ssW S) (kOf (ssO S) (ssP S)) (tbl tm bu sr lg (ssT S)) td ov) 69 0 0 hC tyX2 tyX2_ok nmX2 hinX2 L35 dX2_deed_66 rfl rfl rfl (by decide) rfl (by decide +kernel) rfl rfl (nle rfl) rfl ?_
    refine z_aloadn 70 hC 0 dX2_deed_69 rfl rfl rfl ?_
    refine z_get 73 0 0 hC hinX2 L35 dX2_deed_70 rfl rfl rfl (by decide) rfl ?_
    refine z_if_ne 85 76 hC dX2_deed_73 (by decide) rfl (by omega) (fun c_21 => ?_) (fun c_21 => ?_)
    · skip
      refine z_iconst 86 hC dX2_deed_85 rfl ?_
      refine z_weq (ws' := wMo g m b (thrD tm sr k cx cy n) hr tm en (ssLo S) (ssSl S) (ssFa S) (ssS S) (ssF S) (ssW S) (kOf (ssO S) (ssP S)) (tbl tm bu sr lg (ssT S)) td ov) (zEq.cons (zE1.obj (zfc (by unfold thrD; omega) (zfk (zfk (zfk (zfk (zfk (zfk (zfk (zfk (zfk (zfk (zfk (zfk (zfk rfl))))))))))))))) (zEq.cons zE1.rf (zEq.cons zE1.rf (zEq.cons zE1.rf (zEq.cons zE1.rf (zEq.cons zE1.rf (zEq.cons zE1.rf (zEq.cons zE1.rf zEq.nil)))))))) ?_
      exact hret () dX2_deed_86 rfl (by unfold thrD; omega)
    · skip
      refine z_iloadn 77 hC 2 dX2_deed_76 rfl rfl rfl ?_
      refine z_bipush 79 hC dX2_deed_77 (by decide) rfl ?_
      refine z_iloadn 80 hC 3 dX2_deed_79 rfl rfl rfl ?_
      refine z_imul 81 hC dX2_deed_80 rfl ?_
      refine z_iadd 82 hC dX2_deed_81 rfl ?_
      refine z_goto 86 hC dX2_deed_82 (by decide) ?_
      refine z_weq (ws' := wMo g m b (thrD tm sr k cx cy n) hr tm en (ssLo S) (ssSl S) (ssFa S) (ssS S) (ssF S) (ssW S) (kOf (ssO S) (ssP S)) (tbl tm bu sr lg (ssT S)) td ov) (zEq.cons (zE1.obj (zfc (by unfold thrD; omega) (zfk (zfk (zfk (zfk (zfk (zfk (zfk (zfk (zfk (zfk (zfk (zfk (zfk rfl))))))))))))))) (zEq.cons zE1.rf (zEq.cons zE1.rf (zEq.cons zE1.rf (zEq.cons zE1.rf (zEq.cons zE1.rf (zEq.cons zE1.rf (zEq.cons zE1.rf zEq.nil)))))))) ?_
      exact hret () dX2_deed_86 rfl (by unfold thrD; omega)
set_option maxHeartbeats 4000000 in
set_option maxRecDepth 100000 in
theorem c_X2_dig (l : Launch) (D : va_G) (g : Nat → ClassId) (m : Nat) (b : Nat → Nat) (th hr tm en : Int) (td bu sr lg ov : Int → Int) (S : SS) (k : Int) (cx : Int) (cy : Int) (n : Int) (hI : LI td bu sr lg tm hr S) (hSI : SI tm S) (hk : -2147483648 ≤ k ∧ k ≤ 2147483647) (hcx : -2147483648 ≤ cx ∧ cx ≤ 2147483647) (hcy : -2147483648 ≤ cy ∧ cy ≤ 2147483647) (hn : -2147483648 ≤ n ∧ n ≤ 2147483647) : ZMi (S := Unit) l yX2_dig wsX2_dig ({ frames := 3, cells := 0, slots := 0, locals := 160 }) D g [.ref m, .int (iI k), .int (iI cx), .int (iI cy), .int (iI n)] (wMo g m b th hr tm en (ssLo S) (ssSl S) (ssFa S) (ssS S) (ssF S) (ssW S) (kOf (ssO S) (ssP S)) (tbl tm bu sr lg (ssT S)) td ov) (fun z _ => thrD tm sr k cx cy n = 0 → z = min n (min (ssS S (cx + 12 * cy)) (40 - bu k))) (fun _ => wMo g m b (thrD tm sr k cx cy n) hr tm en (ssLo S) (ssSl S) (ssFa S) (if thrD tm sr k cx cy n = 0 then up (ssS S) (cx + 12 * cy) (ssS S (cx + 12 * cy) - (min n (min (ssS S (cx + 12 * cy)) (40 - bu k)))) else ssS S) (if thrD tm sr k cx cy n = 0 then up (ssF S) (cx + 12 * cy) 0 else ssF S) (ssW S) (kOf (ssO S) (ssP S)) (if thrD tm sr k cx cy n = 0 then tbl tm (up bu k (bu k + (min n (min (ssS S (cx + 12 * cy)) (40 - bu k))))) (up sr k (sr k + (-1))) lg (ssT S) else tbl tm bu sr lg (ssT S)) td ov) 0 0 := by
  have hinX2 : ∀ w ∈ u_ws RX2 TX2 14, w ∈ wsX2_dig := by decide +kernel
  have L9 : Cond.fieldLink RX2 9 "SandcastleLeagueModel" "sand" "[I" ∈ wsX2_dig := by decide +kernel
  have L13 : Cond.fieldLink RX2 13 "SandcastleLeagueModel" "firm" "[I" ∈ wsX2_dig := by decide +kernel
  obtain ⟨htd, hbu, hsr, hlg, htm, hhr, hSB, hT⟩ := id hI
  obtain ⟨hs, hf, hw, ho, hp⟩ := id hSB
  refine ZMi.of (own := RX2) cX2_dig 7 [(0, .ref m), (1, .int (iI k)), (2, .int (iI cx)), (3, .int (iI cy)), (4, .int (iI n))] (by decide +kernel) rfl (nle rfl) rfl rfl ?_
  intro E hC hN hret
  refine z_aloadn 1 hC 0 dX2_dig_0 rfl rfl rfl ?_
  refine z_iloadn 2 hC 1 dX2_dig_1 rfl rfl rfl ?_
  refine z_iloadn 3 hC 2 dX2_dig_2 rfl rfl rfl ?_
  refine z_iloadn 4 hC 3 dX2_dig_3 rfl rfl rfl ?_
  refine z_iload 6 hC 4 dX2_dig_4 rfl rfl ?_
  refine z_calli (wr := []) (w2 := fun _ => wMo g m b (thrD tm sr k cx cy n) hr tm en (ssLo S) (ssSl S) (ssFa S) (ssS S) (ssF S) (ssW S) (kOf (ssO S) (ssP S)) (tbl tm bu sr lg (ssT S)) td ov) 9 hC [0, 1, 2, 3, 4, 5, 6, 7] [] [0, 1, 2, 3, 4, 5, 6, 7] (z_runV (nA := 4) hC hN (c_X2_deed l D g m b th hr tm en td bu sr lg ov S k cx cy n hI hSI (by omega) (by omega) (by omega) (by omega)) [0, 1, 2, 3, 4, 5, 6, 7] rfl (by decide) gX2_dig_X2_deed (by decide +kernel) rfl rfl rfl ⟨by decide, by decide⟩ rfl rfl (nle rfl) dX2_dig_6 ⟨by decide, by decide⟩ 0 rfl rfl) rfl rfl (by decide) (by decide) (fun _ => rfl) (by decide) rfl (k2 := 0) (n2 := 0) rfl rfl (fun z_1 _ p_2 => ?_)
  refine z_istore (lv' := [(5, .int (iI z_1)), (0, .ref m), (1, .int (iI k)), (2, .int (iI cx)), (3, .int (iI cy)), (4, .int (iI n))]) 11 hC dX2_dig_9 rfl (by decide) rfl ?_
  refine z_iload 13 hC 0 dX2_dig_11 rfl rfl ?_
  refine z_iconst 14 hC dX2_dig_13 rfl ?_
  refine z_icmp_ne 19 17 hC dX2_dig_14 (by decide) rfl (by omega) (by omega) (fun c_3 => ?_) (fun c_3 => ?_)
  · skip
    have hD : (thrD tm sr k cx cy n = 0 ∧ 0 ≤ k ∧ k < tm ∧ 0 ≤ cx ∧ cx < 12 ∧ 0 ≤ cy ∧ cy < 10 ∧ cx / 3 = k ∧ 1 ≤ n ∧ n ≤ 5 ∧ 0 < sr k) := by omega
    obtain rfl : z_1 = cx + 12 * cy := by omega
    clear p_2
    have b7 := hsr k (by omega) (by omega)
    have b8 := hbu k (by omega) (by omega)
    have b6 := hs (cx + 12 * cy) (by omega) (by omega)
    have b5 := hf (cx + 12 * cy) (by omega) (by omega)
    have b4 := hw (cx + 12 * cy) (by omega) (by omega)
    refine z_iload 21 hC 5 dX2_dig_19 rfl rfl ?_
    refine z_aloadn 22 hC 1 dX2_dig_21 rfl rfl rfl ?_
    refine z_get 25 0 7 hC hinX2 L9 dX2_dig_22 rfl rfl rfl (by decide) rfl ?_
    refine z_iload 27 hC 0 dX2_dig_25 rfl rfl ?_
    refine z_iald 28 1 hC dX2_dig_27 rfl rfl (by decide) (by omega) ?_
    have b_4 := hs (cx + 12 * cy) (by omega) (by omega)
    refine z_bipush 30 hC dX2_dig_28 (by decide) rfl ?_
    refine z_aloadn 31 hC 1 dX2_dig_30 rfl rfl rfl ?_
    refine z_iloadn 32 hC 2 dX2_dig_31 rfl rfl rfl ?_
    refine z_iconst 33 hC dX2_dig_32 rfl ?_
    refine z_calli (wr := []) (w2 := fun _ => wMo g m b (thrD tm sr k cx cy n) hr tm en (ssLo S) (ssSl S) (ssFa S) (ssS S) (ssF S) (ssW S) (kOf (ssO S) (ssP S)) (tbl tm bu sr lg (ssT S)) td ov) 36 hC [0, 1, 2, 3, 4, 5, 6, 7] [] [0, 1, 2, 3, 4, 5, 6, 7] (z_runV (nA := 2) hC hN (c_X2_get l D g m b (thrD tm sr k cx cy n) hr tm en (ssLo S) (ssSl S) (ssFa S) (ssS S) (ssF S) (ssW S) (kOf (ssO S) (ssP S)) (tbl tm bu sr lg (ssT S)) td ov k 0 (by omega) (by omega)) [0, 1, 2, 3, 4, 5, 6, 7] rfl (by decide) gX2_dig_X2_get (by decide +kernel) rfl rfl rfl ⟨by decide, by decide⟩ rfl rfl (nle rfl) dX2_dig_33 ⟨by decide, by decide⟩ 0 rfl rfl) rfl rfl (by decide) (by decide) (fun _ => rfl) (by decide) rfl (k2 := 0) (n2 := 0) rfl rfl (fun z_5 _ p_6 => ?_)
    have p_6t : z_5 = bu k := p_6.trans (tbl_0 (by omega))
    clear p_6
    subst p_6t
    refine z_isub 37 hC dX2_dig_36 rfl ?_
    refine z_mmin 40 hC (by decide +kernel) (by decide +kernel) (by decide +kernel) (by decide +kernel) (by decide) (nle rfl) (by decide) (by decide) (by omega) (by omega) dX2_dig_37 rfl ?_
    refine z_mmin 43 hC (by decide +kernel) (by decide +kernel) (by decide +kernel) (by decide +kernel) (by decide) (nle rfl) (by decide) (by decide) (by omega) (by omega) dX2_dig_40 rfl ?_
    refine z_istore (lv' := [(6, .int (iI (min n (min ((ssS S) (cx + 12 * cy)) (40 - (bu k)))))), (5, .int (iI (cx + 12 * cy))), (0, .ref m), (1, .int (iI k)), (2, .int (iI cx)), (3, .int (iI cy)), (4, .int (iI n))]) 45 hC dX2_dig_43 rfl (by decide) rfl ?_
    refine z_aloadn 46 hC 2 dX2_dig_45 rfl rfl rfl ?_
    refine z_get 49 0 7 hC hinX2 L9 dX2_dig_46 rfl rfl rfl (by decide) rfl ?_
    refine z_iload 51 hC 1 dX2_dig_49 rfl rfl ?_
    refine z_dup2 52 hC dX2_dig_51 rfl rfl rfl ?_
    refine z_iald 53 1 hC dX2_dig_52 rfl rfl (by decide) (by omega) ?_
    have b_7 := hs (cx + 12 * cy) (by omega) (by omega)
    refine z_iload 55 hC 0 dX2_dig_53 rfl rfl ?_
    refine z_isub 56 hC dX2_dig_55 rfl ?_
    refine z_iast (ws' := wMo g m b (thrD tm sr k cx cy n) hr tm en (ssLo S) (ssSl S) (ssFa S) (up (ssS S) (cx + 12 * cy) (((ssS S) (cx + 12 * cy)) - (min n (min ((ssS S) (cx + 12 * cy)) (40 - (bu k)))))) (ssF S) (ssW S) (kOf (ssO S) (ssP S)) (tbl tm bu sr lg (ssT S)) td ov) 57 1 hC dX2_dig_56 rfl rfl (by decide) (by omega) rfl ?_
    refine z_aloadn 58 hC 2 dX2_dig_57 rfl rfl rfl ?_
    refine z_get 61 0 8 hC hinX2 L13 dX2_dig_58 rfl rfl rfl (by decide) rfl ?_
    refine z_iload 63 hC 1 dX2_dig_61 rfl rfl ?_
    refine z_iconst 64 hC dX2_dig_63 rfl ?_
    refine z_iast (ws' := wMo g m b (thrD tm sr k cx cy n) hr tm en (ssLo S) (ssSl S) (ssFa S) (up (ssS S) (cx + 12 * cy) (((ssS S) (cx + 12 * cy)) - (min n (min ((ssS S) (cx + 12 * cy)) (40 - (bu k)))))) (up (ssF S) (cx + 12 * cy) 0) (ssW S) (kOf (ssO S) (ssP S)) (tbl tm bu sr lg (ssT S)) td ov) 65 2 hC dX2_dig_64 rfl rfl (by decide) (by omega) rfl ?_
    refine z_aloadn 66 hC 2 dX2_dig_65 rfl rfl rfl ?_
    refine z_iloadn 67 hC 3 dX2_dig_66 rfl rfl rfl ?_
    refine z_iconst 68 hC dX2_dig_67 rfl ?_
    refine z_iload 70 hC 0 dX2_dig_68 rfl rfl ?_
    refine z_callv (wr := []) (w2 := fun _ => wMo g m b (thrD tm sr k cx cy n) hr tm en (ssLo S) (ssSl S) (ssFa S) (up (ssS S) (cx + 12 * cy) (((ssS S) (cx + 12 * cy)) - (min n (min ((ssS S) (cx + 12 * cy)) (40 - (bu k)))))) (up (ssF S) (cx + 12 * cy) 0) (ssW S) (kOf (ssO S) (ssP S)) (up (tbl tm bu sr lg (ssT S)) (4 * k + 0) ((tbl tm bu sr lg (ssT S)) (4 * k + 0) + (min n (min ((ssS S) (cx + 12 * cy)) (40 - (bu k)))))) td ov) 73 hC [0, 1, 2, 3, 4, 5, 6, 7] [] [0, 1, 2, 3, 4, 5, 6, 7] (z_runV (nA := 3) hC hN (c_X2_add l D g m b (thrD tm sr k cx cy n) hr tm en (ssLo S) (ssSl S) (ssFa S) (up (ssS S) (cx + 12 * cy) (((ssS S) (cx + 12 * cy)) - (min n (min ((ssS S) (cx + 12 * cy)) (40 - (bu k)))))) (up (ssF S) (cx + 12 * cy) 0) (ssW S) (kOf (ssO S) (ssP S)) (tbl tm bu sr lg (ssT S)) td ov k 0 (min n (min ((ssS S) (cx + 12 * cy)) (40 - (bu k)))) (by omega) (by omega)) [0, 1, 2, 3, 4, 5, 6, 7] rfl (by decide) gX2_dig_X2_add (by decide +kernel) rfl rfl rfl ⟨by decide, by decide⟩ rfl rfl (nle rfl) dX2_dig_70 ⟨by decide, by decide⟩ 0 rfl rfl) rfl rfl (by decide) (by decide) (fun _ => rfl) (by decide) rfl (k2 := 0) (n2 := 0) rfl rfl (fun _ p_8 => ?_)
    refine z_weq (ws' := wMo g m b (thrD tm sr k cx cy n) hr tm en (ssLo S) (ssSl S) (ssFa S) (up (ssS S) (cx + 12 * cy) (((ssS S) (cx + 12 * cy)) - (min n (min ((ssS S) (cx + 12 * cy)) (40 - (bu k)))))) (up (ssF S) (cx + 12 * cy) 0) (ssW S) (kOf (ssO S) (ssP S)) (tbl tm (up bu k (bu k + (min n (min ((ssS S) (cx + 12 * cy)) (40 - (bu k)))))) sr lg (ssT S)) td ov) (zEq.cons zE1.rf (zEq.cons zE1.rf (zEq.cons zE1.rf (zEq.cons zE1.rf (zEq.cons zE1.rf (zEq.cons (zE1.arr (by first | (intro j h0 h1; rfl) | (intro j h0 h1; rw [tbl_0 (by omega)]; exact tbl_u0 (by omega) j))) (zEq.cons zE1.rf (zEq.cons zE1.rf zEq.nil)))))))) ?_
    refine z_aloadn 74 hC 2 dX2_dig_73 rfl rfl rfl ?_
    refine z_iloadn 75 hC 3 dX2_dig_74 rfl rfl rfl ?_
    refine z_iconst 76 hC dX2_dig_75 rfl ?_
    refine z_iconst 77 hC dX2_dig_76 rfl ?_
    refine z_callv (wr := []) (w2 := fun _ => wMo g m b (thrD tm sr k cx cy n) hr tm en (ssLo S) (ssSl S) (ssFa S) (up (ssS S) (cx + 12 * cy) (((ssS S) (cx + 12 * cy)) - (min n (min ((ssS S) (cx + 12 * cy)) (40 - (bu k)))))) (up (ssF S) (cx + 12 * cy) 0) (ssW S) (kOf (ssO S) (ssP S)) (up (tbl tm (up bu k (bu k + (min n (min ((ssS S) (cx + 12 * cy)) (40 - (bu k)))))) sr lg (ssT S)) (4 * k + 1) ((tbl tm (up bu k (bu k + (min n (min ((ssS S) (cx + 12 * cy)) (40 - (bu k)))))) sr lg (ssT S)) (4 * k + 1) + (-1))) td ov) 80 hC [0, 1, 2, 3, 4, 5, 6, 7] [] [0, 1, 2, 3, 4, 5, 6, 7] (z_runV (nA := 3) hC hN (c_X2_add l D g m b (thrD tm sr k cx cy n) hr tm en (ssLo S) (ssSl S) (ssFa S) (up (ssS S) (cx + 12 * cy) (((ssS S) (cx + 12 * cy)) - (min n (min ((ssS S) (cx + 12 * cy)) (40 - (bu k)))))) (up (ssF S) (cx + 12 * cy) 0) (ssW S) (kOf (ssO S) (ssP S)) (tbl tm (up bu k (bu k + (min n (min ((ssS S) (cx + 12 * cy)) (40 - (bu k)))))) sr lg (ssT S)) td ov k 1 (-1) (by omega) (by omega)) [0, 1, 2, 3, 4, 5, 6, 7] rfl (by decide) gX2_dig_X2_add (by decide +kernel) rfl rfl rfl ⟨by decide, by decide⟩ rfl rfl (nle rfl) dX2_dig_77 ⟨by decide, by decide⟩ 0 rfl rfl) rfl rfl (by decide) (by decide) (fun _ => rfl) (by decide) rfl (k2 := 0) (n2 := 0) rfl rfl (fun _ p_9 => ?_)
    refine z_weq (ws' := wMo g m b (thrD tm sr k cx cy n) hr tm en (ssLo S) (ssSl S) (ssFa S) (up (ssS S) (cx + 12 * cy) (((ssS S) (cx + 12 * cy)) - (min n (min ((ssS S) (cx + 12 * cy)) (40 - (bu k)))))) (up (ssF S) (cx + 12 * cy) 0) (ssW S) (kOf (ssO S) (ssP S)) (tbl tm (up bu k (bu k + (min n (min ((ssS S) (cx + 12 * cy)) (40 - (bu k)))))) (up sr k (sr k + (-1))) lg (ssT S)) td ov) (zEq.cons zE1.rf (zEq.cons zE1.rf (zEq.cons zE1.rf (zEq.cons zE1.rf (zEq.cons zE1.rf (zEq.cons (zE1.arr (by first | (intro j h0 h1; rfl) | (intro j h0 h1; rw [tbl_1 (by omega)]; exact tbl_u1 (by omega) j))) (zEq.cons zE1.rf (zEq.cons zE1.rf zEq.nil)))))))) ?_
    refine z_iload 82 hC 0 dX2_dig_80 rfl rfl ?_
    refine z_weq (ws' := wMo g m b (thrD tm sr k cx cy n) hr tm en (ssLo S) (ssSl S) (ssFa S) (if thrD tm sr k cx cy n = 0 then up (ssS S) (cx + 12 * cy) (ssS S (cx + 12 * cy) - (min n (min (ssS S (cx + 12 * cy)) (40 - bu k)))) else ssS S) (if thrD tm sr k cx cy n = 0 then up (ssF S) (cx + 12 * cy) 0 else ssF S) (ssW S) (kOf (ssO S) (ssP S)) (if thrD tm sr k cx cy n = 0 then tbl tm (up bu k (bu k + (min n (min (ssS S (cx + 12 * cy)) (40 - bu k))))) (up sr k (sr k + (-1))) lg (ssT S) else tbl tm bu sr lg (ssT S)) td ov) (zEq.cons zE1.rf (zEq.cons (zE1.arr (by first | (intro j h0 h1; rfl) | (intro j h0 h1; first | rw [if_pos hD.1] | rw [if_neg (by omega)]))) (zEq.cons (zE1.arr (by first | (intro j h0 h1; rfl) | (intro j h0 h1; first | rw [if_pos hD.1] | rw [if_neg (by omega)]))) (zEq.cons zE1.rf (zEq.cons zE1.rf (zEq.cons (zE1.arr (by first | (intro j h0 h1; rfl) | (intro j h0 h1; first | rw [if_pos hD.1] | rw [if_neg (by omega)]))) (zEq.cons zE1.rf (zEq.cons zE1.rf zEq.nil)))))))) ?_
    exact hret () dX2_dig_82 rfl (by intro q9; first | rfl | omega)
  · skip
    refine z_iconst 18 hC dX2_dig_17 rfl ?_
    refine z_weq (ws' := wMo g m b (thrD tm sr k cx cy n) hr tm en (ssLo S) (ssSl S) (ssFa S) (if thrD tm sr k cx cy n = 0 then up (ssS S) (cx + 12 * cy) (ssS S (cx + 12 * cy) - (min n (min (ssS S (cx + 12 * cy)) (40 - bu k)))) else ssS S) (if thrD tm sr k cx cy n = 0 then up (ssF S) (cx + 12 * cy) 0 else ssF S) (ssW S) (kOf (ssO S) (ssP S)) (if thrD tm sr k cx cy n = 0 then tbl tm (up bu k (bu k + (min n (min (ssS S (cx + 12 * cy)) (40 - bu k))))) (up sr k (sr k + (-1))) lg (ssT S) else tbl tm bu sr lg (ssT S)) td ov) (zEq.cons zE1.rf (zEq.cons (zE1.arr (by first | (intro j h0 h1; rfl) | (intro j h0 h1; first | rw [if_pos hD.1] | rw [if_neg (by omega)]))) (zEq.cons (zE1.arr (by first | (intro j h0 h1; rfl) | (intro j h0 h1; first | rw [if_pos hD.1] | rw [if_neg (by omega)]))) (zEq.cons zE1.rf (zEq.cons zE1.rf (zEq.cons (zE1.arr (by first | (intro j h0 h1; rfl) | (intro j h0 h1; first | rw [if_pos hD.1] | rw [if_neg (by omega)]))) (zEq.cons zE1.rf (zEq.cons zE1.rf zEq.nil)))))))) ?_
    exact hret () dX2_dig_18 rfl (by intro q9; first | rfl | omega)
set_option maxHeartbeats 4000000 in
set_option maxRecDepth 100000 in
theorem c_X2_pile (l : Launch) (D : va_G) (g : Nat → ClassId) (m : Nat) (b : Nat → Nat) (th hr tm en : Int) (td bu sr lg ov : Int → Int) (S : SS) (k : Int) (cx : Int) (cy : Int) (n : Int) (hI : LI td bu sr lg tm hr S) (hSI : SI tm S) (hk : -2147483648 ≤ k ∧ k ≤ 2147483647) (hcx : -2147483648 ≤ cx ∧ cx ≤ 2147483647) (hcy : -2147483648 ≤ cy ∧ cy ≤ 2147483647) (hn : -2147483648 ≤ n ∧ n ≤ 2147483647) : ZMi (S := Unit) l yX2_pile wsX2_pile ({ frames := 3, cells := 0, slots := 0, locals := 160 }) D g [.ref m, .int (iI k), .int (iI cx), .int (iI cy), .int (iI n)] (wMo g m b th hr tm en (ssLo S) (ssSl S) (ssFa S) (ssS S) (ssF S) (ssW S) (kOf (ssO S) (ssP S)) (tbl tm bu sr lg (ssT S)) td ov) (fun z _ => thrD tm sr k cx cy n = 0 → z = min n (min (bu k) (20 - ssS S (cx + 12 * cy)))) (fun _ => wMo g m b (thrD tm sr k cx cy n) hr tm en (ssLo S) (ssSl S) (ssFa S) (if thrD tm sr k cx cy n = 0 then up (ssS S) (cx + 12 * cy) (ssS S (cx + 12 * cy) + (min n (min (bu k) (20 - ssS S (cx + 12 * cy))))) else ssS S) (if thrD tm sr k cx cy n = 0 then (if 0 < (min n (min (bu k) (20 - ssS S (cx + 12 * cy)))) then up (ssF S) (cx + 12 * cy) (max 0 (ssF S (cx + 12 * cy) - 1)) else ssF S) else ssF S) (ssW S) (kOf (ssO S) (ssP S)) (if thrD tm sr k cx cy n = 0 then tbl tm (up bu k (bu k + (-(min n (min (bu k) (20 - ssS S (cx + 12 * cy))))))) (up sr k (sr k + (-1))) lg (ssT S) else tbl tm bu sr lg (ssT S)) td ov) 0 0 := by
  have hinX2 : ∀ w ∈ u_ws RX2 TX2 14, w ∈ wsX2_pile := by decide +kernel
  have L9 : Cond.fieldLink RX2 9 "SandcastleLeagueModel" "sand" "[I" ∈ wsX2_pile := by decide +kernel
  have L13 : Cond.fieldLink RX2 13 "SandcastleLeagueModel" "firm" "[I" ∈ wsX2_pile := by decide +kernel
  obtain ⟨htd, hbu, hsr, hlg, htm, hhr, hSB, hT⟩ := id hI
  obtain ⟨hs, hf, hw, ho, hp⟩ := id hSB
  refine ZMi.of (own := RX2) cX2_pile 7 [(0, .ref m), (1, .int (iI k)), (2, .int (iI cx)), (3, .int (iI cy)), (4, .int (iI n))] (by decide +kernel) rfl (nle rfl) rfl rfl ?_
  intro E hC hN hret
  refine z_aloadn 1 hC 0 dX2_pile_0 rfl rfl rfl ?_
  refine z_iloadn 2 hC 1 dX2_pile_1 rfl rfl rfl ?_
  refine z_iloadn 3 hC 2 dX2_pile_2 rfl rfl rfl ?_
  refine z_iloadn 4 hC 3 dX2_pile_3 rfl rfl rfl ?_
  refine z_iload 6 hC 4 dX2_pile_4 rfl rfl ?_
  refine z_calli (wr := []) (w2 := fun _ => wMo g m b (thrD tm sr k cx cy n) hr tm en (ssLo S) (ssSl S) (ssFa S) (ssS S) (ssF S) (ssW S) (kOf (ssO S) (ssP S)) (tbl tm bu sr lg (ssT S)) td ov) 9 hC [0, 1, 2, 3, 4, 5, 6, 7] [] [0, 1, 2, 3, 4, 5, 6, 7] (z_runV (nA := 4) hC hN (c_X2_deed l D g m b th hr tm en td bu sr lg ov S k cx cy n hI hSI (by omega) (by omega) (by omega) (by omega)) [0, 1, 2, 3, 4, 5, 6, 7] rfl (by decide) gX2_pile_X2_deed (by decide +kernel) rfl rfl rfl ⟨by decide, by decide⟩ rfl rfl (nle rfl) dX2_pile_6 ⟨by decide, by decide⟩ 0 rfl rfl) rfl rfl (by decide) (by decide) (fun _ => rfl) (by decide) rfl (k2 := 0) (n2 := 0) rfl rfl (fun z_1 _ p_2 => ?_)
  refine z_istore (lv' := [(5, .int (iI z_1)), (0, .ref m), (1, .int (iI k)), (2, .int (iI cx)), (3, .int (iI cy)), (4, .int (iI n))]) 11 hC dX2_pile_9 rfl (by decide) rfl ?_
  refine z_iload 13 hC 0 dX2_pile_11 rfl rfl ?_
  refine z_iconst 14 hC dX2_pile_13 rfl ?_
  refine z_icmp_ne 19 17 hC dX2_pile_14 (by decide) rfl (by omega) (by omega) (fun c_3 => ?_) (fun c_3 => ?_)
  · skip
    have hD : (thrD tm sr k cx cy n = 0 ∧ 0 ≤ k ∧ k < tm ∧ 0 ≤ cx ∧ cx < 12 ∧ 0 ≤ cy ∧ cy < 10 ∧ cx / 3 = k ∧ 1 ≤ n ∧ n ≤ 5 ∧ 0 < sr k) := by omega
    obtain rfl : z_1 = cx + 12 * cy := by omega
    clear p_2
    have b7 := hsr k (by omega) (by omega)
    have b8 := hbu k (by omega) (by omega)
    have b6 := hs (cx + 12 * cy) (by omega) (by omega)
    have b5 := hf (cx + 12 * cy) (by omega) (by omega)
    have b4 := hw (cx + 12 * cy) (by omega) (by omega)
    refine z_iload 21 hC 5 dX2_pile_19 rfl rfl ?_
    refine z_aloadn 22 hC 1 dX2_pile_21 rfl rfl rfl ?_
    refine z_iloadn 23 hC 2 dX2_pile_22 rfl rfl rfl ?_
    refine z_iconst 24 hC dX2_pile_23 rfl ?_
    refine z_calli (wr := []) (w2 := fun _ => wMo g m b (thrD tm sr k cx cy n) hr tm en (ssLo S) (ssSl S) (ssFa S) (ssS S) (ssF S) (ssW S) (kOf (ssO S) (ssP S)) (tbl tm bu sr lg (ssT S)) td ov) 27 hC [0, 1, 2, 3, 4, 5, 6, 7] [] [0, 1, 2, 3, 4, 5, 6, 7] (z_runV (nA := 2) hC hN (c_X2_get l D g m b (thrD tm sr k cx cy n) hr tm en (ssLo S) (ssSl S) (ssFa S) (ssS S) (ssF S) (ssW S) (kOf (ssO S) (ssP S)) (tbl tm bu sr lg (ssT S)) td ov k 0 (by omega) (by omega)) [0, 1, 2, 3, 4, 5, 6, 7] rfl (by decide) gX2_pile_X2_get (by decide +kernel) rfl rfl rfl ⟨by decide, by decide⟩ rfl rfl (nle rfl) dX2_pile_24 ⟨by decide, by decide⟩ 0 rfl rfl) rfl rfl (by decide) (by decide) (fun _ => rfl) (by decide) rfl (k2 := 0) (n2 := 0) rfl rfl (fun z_4 _ p_5 => ?_)
    have p_5t : z_4 = bu k := p_5.trans (tbl_0 (by omega))
    clear p_5
    subst p_5t
    refine z_bipush 29 hC dX2_pile_27 (by decide) rfl ?_
    refine z_aloadn 30 hC 1 dX2_pile_29 rfl rfl rfl ?_
    refine z_get 33 0 7 hC hinX2 L9 dX2_pile_30 rfl rfl rfl (by decide) rfl ?_
    refine z_iload 35 hC 0 dX2_pile_33 rfl rfl ?_
    refine z_iald 36 1 hC dX2_pile_35 rfl rfl (by decide) (by omega) ?_
    have b_6 := hs (cx + 12 * cy) (by omega) (by omega)
    refine z_isub 37 hC dX2_pile_36 rfl ?_
    refine z_mmin 40 hC (by decide +kernel) (by decide +kernel) (by decide +kernel) (by decide +kernel) (by decide) (nle rfl) (by decide) (by decide) (by omega) (by omega) dX2_pile_37 rfl ?_
    refine z_mmin 43 hC (by decide +kernel) (by decide +kernel) (by decide +kernel) (by decide +kernel) (by decide) (nle rfl) (by decide) (by decide) (by omega) (by omega) dX2_pile_40 rfl ?_
    refine z_istore (lv' := [(6, .int (iI (min n (min (bu k) (20 - ((ssS S) (cx + 12 * cy))))))), (5, .int (iI (cx + 12 * cy))), (0, .ref m), (1, .int (iI k)), (2, .int (iI cx)), (3, .int (iI cy)), (4, .int (iI n))]) 45 hC dX2_pile_43 rfl (by decide) rfl ?_
    refine z_aloadn 46 hC 2 dX2_pile_45 rfl rfl rfl ?_
    refine z_get 49 0 7 hC hinX2 L9 dX2_pile_46 rfl rfl rfl (by decide) rfl ?_
    refine z_iload 51 hC 1 dX2_pile_49 rfl rfl ?_
    refine z_dup2 52 hC dX2_pile_51 rfl rfl rfl ?_
    refine z_iald 53 1 hC dX2_pile_52 rfl rfl (by decide) (by omega) ?_
    have b_7 := hs (cx + 12 * cy) (by omega) (by omega)
    refine z_iload 55 hC 0 dX2_pile_53 rfl rfl ?_
    refine z_iadd 56 hC dX2_pile_55 rfl ?_
    refine z_iast (ws' := wMo g m b (thrD tm sr k cx cy n) hr tm en (ssLo S) (ssSl S) (ssFa S) (up (ssS S) (cx + 12 * cy) (((ssS S) (cx + 12 * cy)) + (min n (min (bu k) (20 - ((ssS S) (cx + 12 * cy))))))) (ssF S) (ssW S) (kOf (ssO S) (ssP S)) (tbl tm bu sr lg (ssT S)) td ov) 57 1 hC dX2_pile_56 rfl rfl (by decide) (by omega) rfl ?_
    refine z_iload 59 hC 0 dX2_pile_57 rfl rfl ?_
    refine z_if_le 82 62 hC dX2_pile_59 (by decide) rfl (by omega) (fun c_8 => ?_) (fun c_8 => ?_)
    · skip
      refine z_aloadn 83 hC 2 dX2_pile_82 rfl rfl rfl ?_
      refine z_iloadn 84 hC 3 dX2_pile_83 rfl rfl rfl ?_
      refine z_iconst 85 hC dX2_pile_84 rfl ?_
      refine z_iload 87 hC 0 dX2_pile_85 rfl rfl ?_
      refine z_ineg 88 hC dX2_pile_87 rfl ?_
      refine z_callv (wr := []) (w2 := fun _ => wMo g m b (thrD tm sr k cx cy n) hr tm en (ssLo S) (ssSl S) (ssFa S) (up (ssS S) (cx + 12 * cy) (((ssS S) (cx + 12 * cy)) + (min n (min (bu k) (20 - ((ssS S) (cx + 12 * cy))))))) (ssF S) (ssW S) (kOf (ssO S) (ssP S)) (up (tbl tm bu sr lg (ssT S)) (4 * k + 0) ((tbl tm bu sr lg (ssT S)) (4 * k + 0) + (-(min n (min (bu k) (20 - ((ssS S) (cx + 12 * cy)))))))) td ov) 91 hC [0, 1, 2, 3, 4, 5, 6, 7] [] [0, 1, 2, 3, 4, 5, 6, 7] (z_runV (nA := 3) hC hN (c_X2_add l D g m b (thrD tm sr k cx cy n) hr tm en (ssLo S) (ssSl S) (ssFa S) (up (ssS S) (cx + 12 * cy) (((ssS S) (cx + 12 * cy)) + (min n (min (bu k) (20 - ((ssS S) (cx + 12 * cy))))))) (ssF S) (ssW S) (kOf (ssO S) (ssP S)) (tbl tm bu sr lg (ssT S)) td ov k 0 (-(min n (min (bu k) (20 - ((ssS S) (cx + 12 * cy)))))) (by omega) (by omega)) [0, 1, 2, 3, 4, 5, 6, 7] rfl (by decide) gX2_pile_X2_add (by decide +kernel) rfl rfl rfl ⟨by decide, by decide⟩ rfl rfl (nle rfl) dX2_pile_88 ⟨by decide, by decide⟩ 0 rfl rfl) rfl rfl (by decide) (by decide) (fun _ => rfl) (by decide) rfl (k2 := 0) (n2 := 0) rfl rfl (fun _ p_9 => ?_)
      refine z_weq (ws' := wMo g m b (thrD tm sr k cx cy n) hr tm en (ssLo S) (ssSl S) (ssFa S) (up (ssS S) (cx + 12 * cy) (((ssS S) (cx + 12 * cy)) + (min n (min (bu k) (20 - ((ssS S) (cx + 12 * cy))))))) (ssF S) (ssW S) (kOf (ssO S) (ssP S)) (tbl tm (up bu k (bu k + (-(min n (min (bu k) (20 - ((ssS S) (cx + 12 * cy)))))))) sr lg (ssT S)) td ov) (zEq.cons zE1.rf (zEq.cons zE1.rf (zEq.cons zE1.rf (zEq.cons zE1.rf (zEq.cons zE1.rf (zEq.cons (zE1.arr (by first | (intro j h0 h1; rfl) | (intro j h0 h1; rw [tbl_0 (by omega)]; exact tbl_u0 (by omega) j))) (zEq.cons zE1.rf (zEq.cons zE1.rf zEq.nil)))))))) ?_
      refine z_aloadn 92 hC 2 dX2_pile_91 rfl rfl rfl ?_
      refine z_iloadn 93 hC 3 dX2_pile_92 rfl rfl rfl ?_
      refine z_iconst 94 hC dX2_pile_93 rfl ?_
      refine z_iconst 95 hC dX2_pile_94 rfl ?_
      refine z_callv (wr := []) (w2 := fun _ => wMo g m b (thrD tm sr k cx cy n) hr tm en (ssLo S) (ssSl S) (ssFa S) (up (ssS S) (cx + 12 * cy) (((ssS S) (cx + 12 * cy)) + (min n (min (bu k) (20 - ((ssS S) (cx + 12 * cy))))))) (ssF S) (ssW S) (kOf (ssO S) (ssP S)) (up (tbl tm (up bu k (bu k + (-(min n (min (bu k) (20 - ((ssS S) (cx + 12 * cy)))))))) sr lg (ssT S)) (4 * k + 1) ((tbl tm (up bu k (bu k + (-(min n (min (bu k) (20 - ((ssS S) (cx + 12 * cy)))))))) sr lg (ssT S)) (4 * k + 1) + (-1))) td ov) 98 hC [0, 1, 2, 3, 4, 5, 6, 7] [] [0, 1, 2, 3, 4, 5, 6, 7] (z_runV (nA := 3) hC hN (c_X2_add l D g m b (thrD tm sr k cx cy n) hr tm en (ssLo S) (ssSl S) (ssFa S) (up (ssS S) (cx + 12 * cy) (((ssS S) (cx + 12 * cy)) + (min n (min (bu k) (20 - ((ssS S) (cx + 12 * cy))))))) (ssF S) (ssW S) (kOf (ssO S) (ssP S)) (tbl tm (up bu k (bu k + (-(min n (min (bu k) (20 - ((ssS S) (cx + 12 * cy)))))))) sr lg (ssT S)) td ov k 1 (-1) (by omega) (by omega)) [0, 1, 2, 3, 4, 5, 6, 7] rfl (by decide) gX2_pile_X2_add (by decide +kernel) rfl rfl rfl ⟨by decide, by decide⟩ rfl rfl (nle rfl) dX2_pile_95 ⟨by decide, by decide⟩ 0 rfl rfl) rfl rfl (by decide) (by decide) (fun _ => rfl) (by decide) rfl (k2 := 0) (n2 := 0) rfl rfl (fun _ p_10 => ?_)
      refine z_weq (ws' := wMo g m b (thrD tm sr k cx cy n) hr tm en (ssLo S) (ssSl S) (ssFa S) (up (ssS S) (cx + 12 * cy) (((ssS S) (cx + 12 * cy)) + (min n (min (bu k) (20 - ((ssS S) (cx + 12 * cy))))))) (ssF S) (ssW S) (kOf (ssO S) (ssP S)) (tbl tm (up bu k (bu k + (-(min n (min (bu k) (20 - ((ssS S) (cx + 12 * cy)))))))) (up sr k (sr k + (-1))) lg (ssT S)) td ov) (zEq.cons zE1.rf (zEq.cons zE1.rf (zEq.cons zE1.rf (zEq.cons zE1.rf (zEq.cons zE1.rf (zEq.cons (zE1.arr (by first | (intro j h0 h1; rfl) | (intro j h0 h1; rw [tbl_1 (by omega)]; exact tbl_u1 (by omega) j))) (zEq.cons zE1.rf (zEq.cons zE1.rf zEq.nil)))))))) ?_
      refine z_iload 100 hC 0 dX2_pile_98 rfl rfl ?_
      refine z_weq (ws' := wMo g m b (thrD tm sr k cx cy n) hr tm en (ssLo S) (ssSl S) (ssFa S) (if thrD tm sr k cx cy n = 0 then up (ssS S) (cx + 12 * cy) (ssS S (cx + 12 * cy) + (min n (min (bu k) (20 - ssS S (cx + 12 * cy))))) else ssS S) (if thrD tm sr k cx cy n = 0 then (if 0 < (min n (min (bu k) (20 - ssS S (cx + 12 * cy)))) then up (ssF S) (cx + 12 * cy) (max 0 (ssF S (cx + 12 * cy) - 1)) else ssF S) else ssF S) (ssW S) (kOf (ssO S) (ssP S)) (if thrD tm sr k cx cy n = 0 then tbl tm (up bu k (bu k + (-(min n (min (bu k) (20 - ssS S (cx + 12 * cy))))))) (up sr k (sr k + (-1))) lg (ssT S) else tbl tm bu sr lg (ssT S)) td ov) (zEq.cons zE1.rf (zEq.cons (zE1.arr (by first | (intro j h0 h1; rfl) | (intro j h0 h1; first | (rw [if_pos hD.1]; done) | (rw [if_pos hD.1, if_pos (by omega)]) | (rw [if_pos hD.1, if_neg (by omega)]) | rw [if_neg (by omega)]))) (zEq.cons (zE1.arr (by first | (intro j h0 h1; rfl) | (intro j h0 h1; first | (rw [if_pos hD.1]; done) | (rw [if_pos hD.1, if_pos (by omega)]) | (rw [if_pos hD.1, if_neg (by omega)]) | rw [if_neg (by omega)]))) (zEq.cons zE1.rf (zEq.cons zE1.rf (zEq.cons (zE1.arr (by first | (intro j h0 h1; rfl) | (intro j h0 h1; first | (rw [if_pos hD.1]; done) | (rw [if_pos hD.1, if_pos (by omega)]) | (rw [if_pos hD.1, if_neg (by omega)]) | rw [if_neg (by omega)]))) (zEq.cons zE1.rf (zEq.cons zE1.rf zEq.nil)))))))) ?_
      exact hret () dX2_pile_100 rfl (by intro q9; first | rfl | omega)
    · skip
      refine z_aloadn 63 hC 2 dX2_pile_62 rfl rfl rfl ?_
      refine z_get 66 0 8 hC hinX2 L13 dX2_pile_63 rfl rfl rfl (by decide) rfl ?_
      refine z_iload 68 hC 1 dX2_pile_66 rfl rfl ?_
      refine z_iconst 69 hC dX2_pile_68 rfl ?_
      refine z_aloadn 70 hC 2 dX2_pile_69 rfl rfl rfl ?_
      refine z_get 73 0 8 hC hinX2 L13 dX2_pile_70 rfl rfl rfl (by decide) rfl ?_
      refine z_iload 75 hC 1 dX2_pile_73 rfl rfl ?_
      refine z_iald 76 2 hC dX2_pile_75 rfl rfl (by decide) (by omega) ?_
      have b_11 := hf (cx + 12 * cy) (by omega) (by omega)
      refine z_iconst 77 hC dX2_pile_76 rfl ?_
      refine z_isub 78 hC dX2_pile_77 rfl ?_
      refine z_mmax 81 hC (by decide +kernel) (by decide +kernel) (by decide +kernel) (by decide +kernel) (by decide) (nle rfl) (by decide) (by decide) (by omega) (by omega) dX2_pile_78 rfl ?_
      refine z_iast (ws' := wMo g m b (thrD tm sr k cx cy n) hr tm en (ssLo S) (ssSl S) (ssFa S) (up (ssS S) (cx + 12 * cy) (((ssS S) (cx + 12 * cy)) + (min n (min (bu k) (20 - ((ssS S) (cx + 12 * cy))))))) (up (ssF S) (cx + 12 * cy) (max 0 (((ssF S) (cx + 12 * cy)) - 1))) (ssW S) (kOf (ssO S) (ssP S)) (tbl tm bu sr lg (ssT S)) td ov) 82 2 hC dX2_pile_81 rfl rfl (by decide) (by omega) rfl ?_
      refine z_aloadn 83 hC 2 dX2_pile_82 rfl rfl rfl ?_
      refine z_iloadn 84 hC 3 dX2_pile_83 rfl rfl rfl ?_
      refine z_iconst 85 hC dX2_pile_84 rfl ?_
      refine z_iload 87 hC 0 dX2_pile_85 rfl rfl ?_
      refine z_ineg 88 hC dX2_pile_87 rfl ?_
      refine z_callv (wr := []) (w2 := fun _ => wMo g m b (thrD tm sr k cx cy n) hr tm en (ssLo S) (ssSl S) (ssFa S) (up (ssS S) (cx + 12 * cy) (((ssS S) (cx + 12 * cy)) + (min n (min (bu k) (20 - ((ssS S) (cx + 12 * cy))))))) (up (ssF S) (cx + 12 * cy) (max 0 (((ssF S) (cx + 12 * cy)) - 1))) (ssW S) (kOf (ssO S) (ssP S)) (up (tbl tm bu sr lg (ssT S)) (4 * k + 0) ((tbl tm bu sr lg (ssT S)) (4 * k + 0) + (-(min n (min (bu k) (20 - ((ssS S) (cx + 12 * cy)))))))) td ov) 91 hC [0, 1, 2, 3, 4, 5, 6, 7] [] [0, 1, 2, 3, 4, 5, 6, 7] (z_runV (nA := 3) hC hN (c_X2_add l D g m b (thrD tm sr k cx cy n) hr tm en (ssLo S) (ssSl S) (ssFa S) (up (ssS S) (cx + 12 * cy) (((ssS S) (cx + 12 * cy)) + (min n (min (bu k) (20 - ((ssS S) (cx + 12 * cy))))))) (up (ssF S) (cx + 12 * cy) (max 0 (((ssF S) (cx + 12 * cy)) - 1))) (ssW S) (kOf (ssO S) (ssP S)) (tbl tm bu sr lg (ssT S)) td ov k 0 (-(min n (min (bu k) (20 - ((ssS S) (cx + 12 * cy)))))) (by omega) (by omega)) [0, 1, 2, 3, 4, 5, 6, 7] rfl (by decide) gX2_pile_X2_add (by decide +kernel) rfl rfl rfl ⟨by decide, by decide⟩ rfl rfl (nle rfl) dX2_pile_88 ⟨by decide, by decide⟩ 0 rfl rfl) rfl rfl (by decide) (by decide) (fun _ => rfl) (by decide) rfl (k2 := 0) (n2 := 0) rfl rfl (fun _ p_12 => ?_)
      refine z_weq (ws' := wMo g m b (thrD tm sr k cx cy n) hr tm en (ssLo S) (ssSl S) (ssFa S) (up (ssS S) (cx + 12 * cy) (((ssS S) (cx + 12 * cy)) + (min n (min (bu k) (20 - ((ssS S) (cx + 12 * cy))))))) (up (ssF S) (cx + 12 * cy) (max 0 (((ssF S) (cx + 12 * cy)) - 1))) (ssW S) (kOf (ssO S) (ssP S)) (tbl tm (up bu k (bu k + (-(min n (min (bu k) (20 - ((ssS S) (cx + 12 * cy)))))))) sr lg (ssT S)) td ov) (zEq.cons zE1.rf (zEq.cons zE1.rf (zEq.cons zE1.rf (zEq.cons zE1.rf (zEq.cons zE1.rf (zEq.cons (zE1.arr (by first | (intro j h0 h1; rfl) | (intro j h0 h1; rw [tbl_0 (by omega)]; exact tbl_u0 (by omega) j))) (zEq.cons zE1.rf (zEq.cons zE1.rf zEq.nil)))))))) ?_
      refine z_aloadn 92 hC 2 dX2_pile_91 rfl rfl rfl ?_
      refine z_iloadn 93 hC 3 dX2_pile_92 rfl rfl rfl ?_
      refine z_iconst 94 hC dX2_pile_93 rfl ?_
      refine z_iconst 95 hC dX2_pile_94 rfl ?_
      refine z_callv (wr := []) (w2 := fun _ => wMo g m b (thrD tm sr k cx cy n) hr tm en (ssLo S) (ssSl S) (ssFa S) (up (ssS S) (cx + 12 * cy) (((ssS S) (cx + 12 * cy)) + (min n (min (bu k) (20 - ((ssS S) (cx + 12 * cy))))))) (up (ssF S) (cx + 12 * cy) (max 0 (((ssF S) (cx + 12 * cy)) - 1))) (ssW S) (kOf (ssO S) (ssP S)) (up (tbl tm (up bu k (bu k + (-(min n (min (bu k) (20 - ((ssS S) (cx + 12 * cy)))))))) sr lg (ssT S)) (4 * k + 1) ((tbl tm (up bu k (bu k + (-(min n (min (bu k) (20 - ((ssS S) (cx + 12 * cy)))))))) sr lg (ssT S)) (4 * k + 1) + (-1))) td ov) 98 hC [0, 1, 2, 3, 4, 5, 6, 7] [] [0, 1, 2, 3, 4, 5, 6, 7] (z_runV (nA := 3) hC hN (c_X2_add l D g m b (thrD tm sr k cx cy n) hr tm en (ssLo S) (ssSl S) (ssFa S) (up (ssS S) (cx + 12 * cy) (((ssS S) (cx + 12 * cy)) + (min n (min (bu k) (20 - ((ssS S) (cx + 12 * cy))))))) (up (ssF S) (cx + 12 * cy) (max 0 (((ssF S) (cx + 12 * cy)) - 1))) (ssW S) (kOf (ssO S) (ssP S)) (tbl tm (up bu k (bu k + (-(min n (min (bu k) (20 - ((ssS S) (cx + 12 * cy)))))))) sr lg (ssT S)) td ov k 1 (-1) (by omega) (by omega)) [0, 1, 2, 3, 4, 5, 6, 7] rfl (by decide) gX2_pile_X2_add (by decide +kernel) rfl rfl rfl ⟨by decide, by decide⟩ rfl rfl (nle rfl) dX2_pile_95 ⟨by decide, by decide⟩ 0 rfl rfl) rfl rfl (by decide) (by decide) (fun _ => rfl) (by decide) rfl (k2 := 0) (n2 := 0) rfl rfl (fun _ p_13 => ?_)
      refine z_weq (ws' := wMo g m b (thrD tm sr k cx cy n) hr tm en (ssLo S) (ssSl S) (ssFa S) (up (ssS S) (cx + 12 * cy) (((ssS S) (cx + 12 * cy)) + (min n (min (bu k) (20 - ((ssS S) (cx + 12 * cy))))))) (up (ssF S) (cx + 12 * cy) (max 0 (((ssF S) (cx + 12 * cy)) - 1))) (ssW S) (kOf (ssO S) (ssP S)) (tbl tm (up bu k (bu k + (-(min n (min (bu k) (20 - ((ssS S) (cx + 12 * cy)))))))) (up sr k (sr k + (-1))) lg (ssT S)) td ov) (zEq.cons zE1.rf (zEq.cons zE1.rf (zEq.cons zE1.rf (zEq.cons zE1.rf (zEq.cons zE1.rf (zEq.cons (zE1.arr (by first | (intro j h0 h1; rfl) | (intro j h0 h1; rw [tbl_1 (by omega)]; exact tbl_u1 (by omega) j))) (zEq.cons zE1.rf (zEq.cons zE1.rf zEq.nil)))))))) ?_
      refine z_iload 100 hC 0 dX2_pile_98 rfl rfl ?_
      refine z_weq (ws' := wMo g m b (thrD tm sr k cx cy n) hr tm en (ssLo S) (ssSl S) (ssFa S) (if thrD tm sr k cx cy n = 0 then up (ssS S) (cx + 12 * cy) (ssS S (cx + 12 * cy) + (min n (min (bu k) (20 - ssS S (cx + 12 * cy))))) else ssS S) (if thrD tm sr k cx cy n = 0 then (if 0 < (min n (min (bu k) (20 - ssS S (cx + 12 * cy)))) then up (ssF S) (cx + 12 * cy) (max 0 (ssF S (cx + 12 * cy) - 1)) else ssF S) else ssF S) (ssW S) (kOf (ssO S) (ssP S)) (if thrD tm sr k cx cy n = 0 then tbl tm (up bu k (bu k + (-(min n (min (bu k) (20 - ssS S (cx + 12 * cy))))))) (up sr k (sr k + (-1))) lg (ssT S) else tbl tm bu sr lg (ssT S)) td ov) (zEq.cons zE1.rf (zEq.cons (zE1.arr (by first | (intro j h0 h1; rfl) | (intro j h0 h1; first | (rw [if_pos hD.1]; done) | (rw [if_pos hD.1, if_pos (by omega)]) | (rw [if_pos hD.1, if_neg (by omega)]) | rw [if_neg (by omega)]))) (zEq.cons (zE1.arr (by first | (intro j h0 h1; rfl) | (intro j h0 h1; first | (rw [if_pos hD.1]; done) | (rw [if_pos hD.1, if_pos (by omega)]) | (rw [if_pos hD.1, if_neg (by omega)]) | rw [if_neg (by omega)]))) (zEq.cons zE1.rf (zEq.cons zE1.rf (zEq.cons (zE1.arr (by first | (intro j h0 h1; rfl) | (intro j h0 h1; first | (rw [if_pos hD.1]; done) | (rw [if_pos hD.1, if_pos (by omega)]) | (rw [if_pos hD.1, if_neg (by omega)]) | rw [if_neg (by omega)]))) (zEq.cons zE1.rf (zEq.cons zE1.rf zEq.nil)))))))) ?_
      exact hret () dX2_pile_100 rfl (by intro q9; first | rfl | omega)
  · skip
    refine z_iconst 18 hC dX2_pile_17 rfl ?_
    refine z_weq (ws' := wMo g m b (thrD tm sr k cx cy n) hr tm en (ssLo S) (ssSl S) (ssFa S) (if thrD tm sr k cx cy n = 0 then up (ssS S) (cx + 12 * cy) (ssS S (cx + 12 * cy) + (min n (min (bu k) (20 - ssS S (cx + 12 * cy))))) else ssS S) (if thrD tm sr k cx cy n = 0 then (if 0 < (min n (min (bu k) (20 - ssS S (cx + 12 * cy)))) then up (ssF S) (cx + 12 * cy) (max 0 (ssF S (cx + 12 * cy) - 1)) else ssF S) else ssF S) (ssW S) (kOf (ssO S) (ssP S)) (if thrD tm sr k cx cy n = 0 then tbl tm (up bu k (bu k + (-(min n (min (bu k) (20 - ssS S (cx + 12 * cy))))))) (up sr k (sr k + (-1))) lg (ssT S) else tbl tm bu sr lg (ssT S)) td ov) (zEq.cons zE1.rf (zEq.cons (zE1.arr (by first | (intro j h0 h1; rfl) | (intro j h0 h1; first | (rw [if_pos hD.1]; done) | (rw [if_pos hD.1, if_pos (by omega)]) | (rw [if_pos hD.1, if_neg (by omega)]) | rw [if_neg (by omega)]))) (zEq.cons (zE1.arr (by first | (intro j h0 h1; rfl) | (intro j h0 h1; first | (rw [if_pos hD.1]; done) | (rw [if_pos hD.1, if_pos (by omega)]) | (rw [if_pos hD.1, if_neg (by omega)]) | rw [if_neg (by omega)]))) (zEq.cons zE1.rf (zEq.cons zE1.rf (zEq.cons (zE1.arr (by first | (intro j h0 h1; rfl) | (intro j h0 h1; first | (rw [if_pos hD.1]; done) | (rw [if_pos hD.1, if_pos (by omega)]) | (rw [if_pos hD.1, if_neg (by omega)]) | rw [if_neg (by omega)]))) (zEq.cons zE1.rf (zEq.cons zE1.rf zEq.nil)))))))) ?_
    exact hret () dX2_pile_18 rfl (by intro q9; first | rfl | omega)
set_option maxHeartbeats 4000000 in
set_option maxRecDepth 100000 in
theorem c_X2_pack (l : Launch) (D : va_G) (g : Nat → ClassId) (m : Nat) (b : Nat → Nat) (th hr tm en : Int) (td bu sr lg ov : Int → Int) (S : SS) (k : Int) (cx : Int) (cy : Int) (hI : LI td bu sr lg tm hr S) (hSI : SI tm S) (hk : -2147483648 ≤ k ∧ k ≤ 2147483647) (hcx : -2147483648 ≤ cx ∧ cx ≤ 2147483647) (hcy : -2147483648 ≤ cy ∧ cy ≤ 2147483647) : ZMi (S := Unit) l yX2_pack wsX2_pack ({ frames := 3, cells := 0, slots := 0, locals := 160 }) D g [.ref m, .int (iI k), .int (iI cx), .int (iI cy)] (wMo g m b th hr tm en (ssLo S) (ssSl S) (ssFa S) (ssS S) (ssF S) (ssW S) (kOf (ssO S) (ssP S)) (tbl tm bu sr lg (ssT S)) td ov) (fun z _ => thrD tm sr k cx cy 1 = 0 → z = (if 0 < ssS S (cx + 12 * cy) ∧ ssW S (cx + 12 * cy) = 0 then min 5 (ssF S (cx + 12 * cy) + 1) else ssF S (cx + 12 * cy))) (fun _ => wMo g m b (thrD tm sr k cx cy 1) hr tm en (ssLo S) (ssSl S) (ssFa S) (ssS S) (if thrD tm sr k cx cy 1 = 0 then up (ssF S) (cx + 12 * cy) (if 0 < ssS S (cx + 12 * cy) ∧ ssW S (cx + 12 * cy) = 0 then min 5 (ssF S (cx + 12 * cy) + 1) else ssF S (cx + 12 * cy)) else ssF S) (ssW S) (kOf (ssO S) (ssP S)) (if thrD tm sr k cx cy 1 = 0 then tbl tm bu (up sr k (sr k + (-1))) lg (ssT S) else tbl tm bu sr lg (ssT S)) td ov) 0 0 := by
  have hinX2 : ∀ w ∈ u_ws RX2 TX2 14, w ∈ wsX2_pack := by decide +kernel
  have L9 : Cond.fieldLink RX2 9 "SandcastleLeagueModel" "sand" "[I" ∈ wsX2_pack := by decide +kernel
  have L13 : Cond.fieldLink RX2 13 "SandcastleLeagueModel" "firm" "[I" ∈ wsX2_pack := by decide +kernel
  have L16 : Cond.fieldLink RX2 16 "SandcastleLeagueModel" "water" "[I" ∈ wsX2_pack := by decide +kernel
  obtain ⟨htd, hbu, hsr, hlg, htm, hhr, hSB, hT⟩ := id hI
  obtain ⟨hs, hf, hw, ho, hp⟩ := id hSB
  refine ZMi.of (own := RX2) cX2_pack 5 [(0, .ref m), (1, .int (iI k)), (2, .int (iI cx)), (3, .int (iI cy))] (by decide +kernel) rfl (nle rfl) rfl rfl ?_
  intro E hC hN hret
  refine z_aloadn 1 hC 0 dX2_pack_0 rfl rfl rfl ?_
  refine z_iloadn 2 hC 1 dX2_pack_1 rfl rfl rfl ?_
  refine z_iloadn 3 hC 2 dX2_pack_2 rfl rfl rfl ?_
  refine z_iloadn 4 hC 3 dX2_pack_3 rfl rfl rfl ?_
  refine z_iconst 5 hC dX2_pack_4 rfl ?_
  refine z_calli (wr := []) (w2 := fun _ => wMo g m b (thrD tm sr k cx cy 1) hr tm en (ssLo S) (ssSl S) (ssFa S) (ssS S) (ssF S) (ssW S) (kOf (ssO S) (ssP S)) (tbl tm bu sr lg (ssT S)) td ov) 8 hC [0, 1, 2, 3, 4, 5, 6, 7] [] [0, 1, 2, 3, 4, 5, 6, 7] (z_runV (nA := 4) hC hN (c_X2_deed l D g m b th hr tm en td bu sr lg ov S k cx cy 1 hI hSI (by omega) (by omega) (by omega) (by omega)) [0, 1, 2, 3, 4, 5, 6, 7] rfl (by decide) gX2_pack_X2_deed (by decide +kernel) rfl rfl rfl ⟨by decide, by decide⟩ rfl rfl (nle rfl) dX2_pack_5 ⟨by decide, by decide⟩ 0 rfl rfl) rfl rfl (by decide) (by decide) (fun _ => rfl) (by decide) rfl (k2 := 0) (n2 := 0) rfl rfl (fun z_1 _ p_2 => ?_)
  refine z_istore (lv' := [(4, .int (iI z_1)), (0, .ref m), (1, .int (iI k)), (2, .int (iI cx)), (3, .int (iI cy))]) 10 hC dX2_pack_8 rfl (by decide) rfl ?_
  refine z_iload 12 hC 0 dX2_pack_10 rfl rfl ?_
  refine z_iconst 13 hC dX2_pack_12 rfl ?_
  refine z_icmp_ne 18 16 hC dX2_pack_13 (by decide) rfl (by omega) (by omega) (fun c_3 => ?_) (fun c_3 => ?_)
  · skip
    have hD : (thrD tm sr k cx cy 1 = 0 ∧ 0 ≤ k ∧ k < tm ∧ 0 ≤ cx ∧ cx < 12 ∧ 0 ≤ cy ∧ cy < 10 ∧ cx / 3 = k ∧ 1 ≤ 1 ∧ 1 ≤ 5 ∧ 0 < sr k) := by omega
    obtain rfl : z_1 = cx + 12 * cy := by omega
    clear p_2
    have b7 := hsr k (by omega) (by omega)
    have b8 := hbu k (by omega) (by omega)
    have b6 := hs (cx + 12 * cy) (by omega) (by omega)
    have b5 := hf (cx + 12 * cy) (by omega) (by omega)
    have b4 := hw (cx + 12 * cy) (by omega) (by omega)
    refine z_aloadn 19 hC 1 dX2_pack_18 rfl rfl rfl ?_
    refine z_get 22 0 7 hC hinX2 L9 dX2_pack_19 rfl rfl rfl (by decide) rfl ?_
    refine z_iload 24 hC 0 dX2_pack_22 rfl rfl ?_
    refine z_iald 25 1 hC dX2_pack_24 rfl rfl (by decide) (by omega) ?_
    have b_4 := hs (cx + 12 * cy) (by omega) (by omega)
    refine z_if_le 58 28 hC dX2_pack_25 (by decide) rfl (by omega) (fun c_5 => ?_) (fun c_5 => ?_)
    · skip
      refine z_aloadn 59 hC 1 dX2_pack_58 rfl rfl rfl ?_
      refine z_iloadn 60 hC 2 dX2_pack_59 rfl rfl rfl ?_
      refine z_iconst 61 hC dX2_pack_60 rfl ?_
      refine z_iconst 62 hC dX2_pack_61 rfl ?_
      refine z_callv (wr := []) (w2 := fun _ => wMo g m b (thrD tm sr k cx cy 1) hr tm en (ssLo S) (ssSl S) (ssFa S) (ssS S) (ssF S) (ssW S) (kOf (ssO S) (ssP S)) (up (tbl tm bu sr lg (ssT S)) (4 * k + 1) ((tbl tm bu sr lg (ssT S)) (4 * k + 1) + (-1))) td ov) 65 hC [0, 1, 2, 3, 4, 5, 6, 7] [] [0, 1, 2, 3, 4, 5, 6, 7] (z_runV (nA := 3) hC hN (c_X2_add l D g m b (thrD tm sr k cx cy 1) hr tm en (ssLo S) (ssSl S) (ssFa S) (ssS S) (ssF S) (ssW S) (kOf (ssO S) (ssP S)) (tbl tm bu sr lg (ssT S)) td ov k 1 (-1) (by omega) (by omega)) [0, 1, 2, 3, 4, 5, 6, 7] rfl (by decide) gX2_pack_X2_add (by decide +kernel) rfl rfl rfl ⟨by decide, by decide⟩ rfl rfl (nle rfl) dX2_pack_62 ⟨by decide, by decide⟩ 0 rfl rfl) rfl rfl (by decide) (by decide) (fun _ => rfl) (by decide) rfl (k2 := 0) (n2 := 0) rfl rfl (fun _ p_6 => ?_)
      refine z_weq (ws' := wMo g m b (thrD tm sr k cx cy 1) hr tm en (ssLo S) (ssSl S) (ssFa S) (ssS S) (ssF S) (ssW S) (kOf (ssO S) (ssP S)) (tbl tm bu (up sr k (sr k + (-1))) lg (ssT S)) td ov) (zEq.cons zE1.rf (zEq.cons zE1.rf (zEq.cons zE1.rf (zEq.cons zE1.rf (zEq.cons zE1.rf (zEq.cons (zE1.arr (by first | (intro j h0 h1; rfl) | (intro j h0 h1; rw [tbl_1 (by omega)]; exact tbl_u1 (by omega) j))) (zEq.cons zE1.rf (zEq.cons zE1.rf zEq.nil)))))))) ?_
      refine z_aloadn 66 hC 1 dX2_pack_65 rfl rfl rfl ?_
      refine z_get 69 0 8 hC hinX2 L13 dX2_pack_66 rfl rfl rfl (by decide) rfl ?_
      refine z_iload 71 hC 0 dX2_pack_69 rfl rfl ?_
      refine z_iald 72 2 hC dX2_pack_71 rfl rfl (by decide) (by omega) ?_
      have b_7 := hf (cx + 12 * cy) (by omega) (by omega)
      refine z_weq (ws' := wMo g m b (thrD tm sr k cx cy 1) hr tm en (ssLo S) (ssSl S) (ssFa S) (ssS S) (if thrD tm sr k cx cy 1 = 0 then up (ssF S) (cx + 12 * cy) (if 0 < ssS S (cx + 12 * cy) ∧ ssW S (cx + 12 * cy) = 0 then min 5 (ssF S (cx + 12 * cy) + 1) else ssF S (cx + 12 * cy)) else ssF S) (ssW S) (kOf (ssO S) (ssP S)) (if thrD tm sr k cx cy 1 = 0 then tbl tm bu (up sr k (sr k + (-1))) lg (ssT S) else tbl tm bu sr lg (ssT S)) td ov) (zEq.cons zE1.rf (zEq.cons zE1.rf (zEq.cons (zE1.arr (by first | (intro j h0 h1; rfl) | (intro j h0 h1; first | rw [if_neg (by omega)] | (rw [if_pos hD.1]; done) | (rw [if_pos hD.1]; unfold up; split <;> (try subst_vars) <;> omega)))) (zEq.cons zE1.rf (zEq.cons zE1.rf (zEq.cons (zE1.arr (by first | (intro j h0 h1; rfl) | (intro j h0 h1; first | rw [if_neg (by omega)] | (rw [if_pos hD.1]; done) | (rw [if_pos hD.1]; unfold up; split <;> (try subst_vars) <;> omega)))) (zEq.cons zE1.rf (zEq.cons zE1.rf zEq.nil)))))))) ?_
      exact hret () dX2_pack_72 rfl (by intro q9; first | omega | (rw [up_same]; omega))
    · skip
      refine z_aloadn 29 hC 1 dX2_pack_28 rfl rfl rfl ?_
      refine z_get 32 0 9 hC hinX2 L16 dX2_pack_29 rfl rfl rfl (by decide) rfl ?_
      refine z_iload 34 hC 0 dX2_pack_32 rfl rfl ?_
      refine z_iald 35 3 hC dX2_pack_34 rfl rfl (by decide) (by omega) ?_
      have b_8 := hw (cx + 12 * cy) (by omega) (by omega)
      refine z_if_ne 58 38 hC dX2_pack_35 (by decide) rfl (by omega) (fun c_9 => ?_) (fun c_9 => ?_)
      · skip
        refine z_aloadn 59 hC 1 dX2_pack_58 rfl rfl rfl ?_
        refine z_iloadn 60 hC 2 dX2_pack_59 rfl rfl rfl ?_
        refine z_iconst 61 hC dX2_pack_60 rfl ?_
        refine z_iconst 62 hC dX2_pack_61 rfl ?_
        refine z_callv (wr := []) (w2 := fun _ => wMo g m b (thrD tm sr k cx cy 1) hr tm en (ssLo S) (ssSl S) (ssFa S) (ssS S) (ssF S) (ssW S) (kOf (ssO S) (ssP S)) (up (tbl tm bu sr lg (ssT S)) (4 * k + 1) ((tbl tm bu sr lg (ssT S)) (4 * k + 1) + (-1))) td ov) 65 hC [0, 1, 2, 3, 4, 5, 6, 7] [] [0, 1, 2, 3, 4, 5, 6, 7] (z_runV (nA := 3) hC hN (c_X2_add l D g m b (thrD tm sr k cx cy 1) hr tm en (ssLo S) (ssSl S) (ssFa S) (ssS S) (ssF S) (ssW S) (kOf (ssO S) (ssP S)) (tbl tm bu sr lg (ssT S)) td ov k 1 (-1) (by omega) (by omega)) [0, 1, 2, 3, 4, 5, 6, 7] rfl (by decide) gX2_pack_X2_add (by decide +kernel) rfl rfl rfl ⟨by decide, by decide⟩ rfl rfl (nle rfl) dX2_pack_62 ⟨by decide, by decide⟩ 0 rfl rfl) rfl rfl (by decide) (by decide) (fun _ => rfl) (by decide) rfl (k2 := 0) (n2 := 0) rfl rfl (fun _ p_10 => ?_)
        refine z_weq (ws' := wMo g m b (thrD tm sr k cx cy 1) hr tm en (ssLo S) (ssSl S) (ssFa S) (ssS S) (ssF S) (ssW S) (kOf (ssO S) (ssP S)) (tbl tm bu (up sr k (sr k + (-1))) lg (ssT S)) td ov) (zEq.cons zE1.rf (zEq.cons zE1.rf (zEq.cons zE1.rf (zEq.cons zE1.rf (zEq.cons zE1.rf (zEq.cons (zE1.arr (by first | (intro j h0 h1; rfl) | (intro j h0 h1; rw [tbl_1 (by omega)]; exact tbl_u1 (by omega) j))) (zEq.cons zE1.rf (zEq.cons zE1.rf zEq.nil)))))))) ?_
        refine z_aloadn 66 hC 1 dX2_pack_65 rfl rfl rfl ?_
        refine z_get 69 0 8 hC hinX2 L13 dX2_pack_66 rfl rfl rfl (by decide) rfl ?_
        refine z_iload 71 hC 0 dX2_pack_69 rfl rfl ?_
        refine z_iald 72 2 hC dX2_pack_71 rfl rfl (by decide) (by omega) ?_
        have b_11 := hf (cx + 12 * cy) (by omega) (by omega)
        refine z_weq (ws' := wMo g m b (thrD tm sr k cx cy 1) hr tm en (ssLo S) (ssSl S) (ssFa S) (ssS S) (if thrD tm sr k cx cy 1 = 0 then up (ssF S) (cx + 12 * cy) (if 0 < ssS S (cx + 12 * cy) ∧ ssW S (cx + 12 * cy) = 0 then min 5 (ssF S (cx + 12 * cy) + 1) else ssF S (cx + 12 * cy)) else ssF S) (ssW S) (kOf (ssO S) (ssP S)) (if thrD tm sr k cx cy 1 = 0 then tbl tm bu (up sr k (sr k + (-1))) lg (ssT S) else tbl tm bu sr lg (ssT S)) td ov) (zEq.cons zE1.rf (zEq.cons zE1.rf (zEq.cons (zE1.arr (by first | (intro j h0 h1; rfl) | (intro j h0 h1; first | rw [if_neg (by omega)] | (rw [if_pos hD.1]; done) | (rw [if_pos hD.1]; unfold up; split <;> (try subst_vars) <;> omega)))) (zEq.cons zE1.rf (zEq.cons zE1.rf (zEq.cons (zE1.arr (by first | (intro j h0 h1; rfl) | (intro j h0 h1; first | rw [if_neg (by omega)] | (rw [if_pos hD.1]; done) | (rw [if_pos hD.1]; unfold up; split <;> (try subst_vars) <;> omega)))) (zEq.cons zE1.rf (zEq.cons zE1.rf zEq.nil)))))))) ?_
        exact hret () dX2_pack_72 rfl (by intro q9; first | omega | (rw [up_same]; omega))
      · skip
        refine z_aloadn 39 hC 1 dX2_pack_38 rfl rfl rfl ?_
        refine z_get 42 0 8 hC hinX2 L13 dX2_pack_39 rfl rfl rfl (by decide) rfl ?_
        refine z_iload 44 hC 0 dX2_pack_42 rfl rfl ?_
        refine z_iconst 45 hC dX2_pack_44 rfl ?_
        refine z_aloadn 46 hC 1 dX2_pack_45 rfl rfl rfl ?_
        refine z_get 49 0 8 hC hinX2 L13 dX2_pack_46 rfl rfl rfl (by decide) rfl ?_
        refine z_iload 51 hC 0 dX2_pack_49 rfl rfl ?_
        refine z_iald 52 2 hC dX2_pack_51 rfl rfl (by decide) (by omega) ?_
        have b_12 := hf (cx + 12 * cy) (by omega) (by omega)
        refine z_iconst 53 hC dX2_pack_52 rfl ?_
        refine z_iadd 54 hC dX2_pack_53 rfl ?_
        refine z_mmin 57 hC (by decide +kernel) (by decide +kernel) (by decide +kernel) (by decide +kernel) (by decide) (nle rfl) (by decide) (by decide) (by omega) (by omega) dX2_pack_54 rfl ?_
        refine z_iast (ws' := wMo g m b (thrD tm sr k cx cy 1) hr tm en (ssLo S) (ssSl S) (ssFa S) (ssS S) (up (ssF S) (cx + 12 * cy) (min 5 (((ssF S) (cx + 12 * cy)) + 1))) (ssW S) (kOf (ssO S) (ssP S)) (tbl tm bu sr lg (ssT S)) td ov) 58 2 hC dX2_pack_57 rfl rfl (by decide) (by omega) rfl ?_
        refine z_aloadn 59 hC 1 dX2_pack_58 rfl rfl rfl ?_
        refine z_iloadn 60 hC 2 dX2_pack_59 rfl rfl rfl ?_
        refine z_iconst 61 hC dX2_pack_60 rfl ?_
        refine z_iconst 62 hC dX2_pack_61 rfl ?_
        refine z_callv (wr := []) (w2 := fun _ => wMo g m b (thrD tm sr k cx cy 1) hr tm en (ssLo S) (ssSl S) (ssFa S) (ssS S) (up (ssF S) (cx + 12 * cy) (min 5 (((ssF S) (cx + 12 * cy)) + 1))) (ssW S) (kOf (ssO S) (ssP S)) (up (tbl tm bu sr lg (ssT S)) (4 * k + 1) ((tbl tm bu sr lg (ssT S)) (4 * k + 1) + (-1))) td ov) 65 hC [0, 1, 2, 3, 4, 5, 6, 7] [] [0, 1, 2, 3, 4, 5, 6, 7] (z_runV (nA := 3) hC hN (c_X2_add l D g m b (thrD tm sr k cx cy 1) hr tm en (ssLo S) (ssSl S) (ssFa S) (ssS S) (up (ssF S) (cx + 12 * cy) (min 5 (((ssF S) (cx + 12 * cy)) + 1))) (ssW S) (kOf (ssO S) (ssP S)) (tbl tm bu sr lg (ssT S)) td ov k 1 (-1) (by omega) (by omega)) [0, 1, 2, 3, 4, 5, 6, 7] rfl (by decide) gX2_pack_X2_add (by decide +kernel) rfl rfl rfl ⟨by decide, by decide⟩ rfl rfl (nle rfl) dX2_pack_62 ⟨by decide, by decide⟩ 0 rfl rfl) rfl rfl (by decide) (by decide) (fun _ => rfl) (by decide) rfl (k2 := 0) (n2 := 0) rfl rfl (fun _ p_13 => ?_)
        refine z_weq (ws' := wMo g m b (thrD tm sr k cx cy 1) hr tm en (ssLo S) (ssSl S) (ssFa S) (ssS S) (up (ssF S) (cx + 12 * cy) (min 5 (((ssF S) (cx + 12 * cy)) + 1))) (ssW S) (kOf (ssO S) (ssP S)) (tbl tm bu (up sr k (sr k + (-1))) lg (ssT S)) td ov) (zEq.cons zE1.rf (zEq.cons zE1.rf (zEq.cons zE1.rf (zEq.cons zE1.rf (zEq.cons zE1.rf (zEq.cons (zE1.arr (by first | (intro j h0 h1; rfl) | (intro j h0 h1; rw [tbl_1 (by omega)]; exact tbl_u1 (by omega) j))) (zEq.cons zE1.rf (zEq.cons zE1.rf zEq.nil)))))))) ?_
        refine z_aloadn 66 hC 1 dX2_pack_65 rfl rfl rfl ?_
        refine z_get 69 0 8 hC hinX2 L13 dX2_pack_66 rfl rfl rfl (by decide) rfl ?_
        refine z_iload 71 hC 0 dX2_pack_69 rfl rfl ?_
        refine z_iald 72 2 hC dX2_pack_71 rfl rfl (by decide) (by omega) ?_
        refine z_weq (ws' := wMo g m b (thrD tm sr k cx cy 1) hr tm en (ssLo S) (ssSl S) (ssFa S) (ssS S) (if thrD tm sr k cx cy 1 = 0 then up (ssF S) (cx + 12 * cy) (if 0 < ssS S (cx + 12 * cy) ∧ ssW S (cx + 12 * cy) = 0 then min 5 (ssF S (cx + 12 * cy) + 1) else ssF S (cx + 12 * cy)) else ssF S) (ssW S) (kOf (ssO S) (ssP S)) (if thrD tm sr k cx cy 1 = 0 then tbl tm bu (up sr k (sr k + (-1))) lg (ssT S) else tbl tm bu sr lg (ssT S)) td ov) (zEq.cons zE1.rf (zEq.cons zE1.rf (zEq.cons (zE1.arr (by first | (intro j h0 h1; rfl) | (intro j h0 h1; first | rw [if_neg (by omega)] | (rw [if_pos hD.1]; done) | (rw [if_pos hD.1]; unfold up; split <;> (try subst_vars) <;> omega)))) (zEq.cons zE1.rf (zEq.cons zE1.rf (zEq.cons (zE1.arr (by first | (intro j h0 h1; rfl) | (intro j h0 h1; first | rw [if_neg (by omega)] | (rw [if_pos hD.1]; done) | (rw [if_pos hD.1]; unfold up; split <;> (try subst_vars) <;> omega)))) (zEq.cons zE1.rf (zEq.cons zE1.rf zEq.nil)))))))) ?_
        exact hret () dX2_pack_72 rfl (by intro q9; first | omega | (rw [up_same]; omega))
  · skip
    refine z_iconst 17 hC dX2_pack_16 rfl ?_
    refine z_weq (ws' := wMo g m b (thrD tm sr k cx cy 1) hr tm en (ssLo S) (ssSl S) (ssFa S) (ssS S) (if thrD tm sr k cx cy 1 = 0 then up (ssF S) (cx + 12 * cy) (if 0 < ssS S (cx + 12 * cy) ∧ ssW S (cx + 12 * cy) = 0 then min 5 (ssF S (cx + 12 * cy) + 1) else ssF S (cx + 12 * cy)) else ssF S) (ssW S) (kOf (ssO S) (ssP S)) (if thrD tm sr k cx cy 1 = 0 then tbl tm bu (up sr k (sr k + (-1))) lg (ssT S) else tbl tm bu sr lg (ssT S)) td ov) (zEq.cons zE1.rf (zEq.cons zE1.rf (zEq.cons (zE1.arr (by first | (intro j h0 h1; rfl) | (intro j h0 h1; first | rw [if_neg (by omega)] | (rw [if_pos hD.1]; done) | (rw [if_pos hD.1]; unfold up; split <;> (try subst_vars) <;> omega)))) (zEq.cons zE1.rf (zEq.cons zE1.rf (zEq.cons (zE1.arr (by first | (intro j h0 h1; rfl) | (intro j h0 h1; first | rw [if_neg (by omega)] | (rw [if_pos hD.1]; done) | (rw [if_pos hD.1]; unfold up; split <;> (try subst_vars) <;> omega)))) (zEq.cons zE1.rf (zEq.cons zE1.rf zEq.nil)))))))) ?_
    exact hret () dX2_pack_17 rfl (by intro q9; first | omega | (rw [up_same]; omega))
