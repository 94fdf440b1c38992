/-! what holds between the calls of a script -/
theorem sumI_z {f : Int → Int} {N : Int} (hN : 0 ≤ N) (h : ∀ j : Int, 0 ≤ j → j < N → f j = 0) : sumI f N = 0 := by
  have e1 : sumI f N = sumI (fun _ => 0) N := sumI_congr h
  have e3 : ∀ n : Nat, sumI (fun _ => 0) (n : Int) = 0 := by
    intro n
    induction n with
    | zero => rfl
    | succ n ih =>
      have e : ((n + 1 : Nat) : Int) = (n : Int) + 1 := by omega
      rw [e, sumI_s _ (by omega), ih]; rfl
  have e4 := e3 N.toNat
  rw [show ((N.toNat : Nat) : Int) = N by omega] at e4
  rw [e1, e4]
theorem ahI_01 (lg t : Int → Int) (i k : Int) : ahI lg t i k = 0 ∨ ahI lg t i k = 1 := by unfold ahI; omega
theorem ahI_self (lg t : Int → Int) (i : Int) : ahI lg t i i = 0 := by unfold ahI; omega
theorem ahI_tot (lg t : Int → Int) {i k : Int} (h : i ≠ k) : ahI lg t i k + ahI lg t k i = 1 := by unfold ahI; omega
theorem ahI_tr (lg t : Int → Int) {i j k : Int} (h1 : ahI lg t i j = 1) (h2 : ahI lg t j k = 1) : ahI lg t i k = 1 := by unfold ahI at *; omega
theorem ahN_lt (lg t : Int → Int) {z tm : Int} (h0 : 0 ≤ z) (h1 : z < tm) : 0 ≤ ahN lg t z tm ∧ ahN lg t z tm < tm := by
  have h2 : Bd (fun j => ahI lg t j z) tm 0 1 := fun j _ _ => by
    have := ahI_01 lg t j z
    show 0 ≤ ahI lg t j z ∧ ahI lg t j z ≤ 1
    omega
  have h3 := sumI_bd h2 (i := tm) (by omega) (Int.le_refl _)
  have h4 := sumI_bd (Bd_up (k := z) (v := 1) h2 (by omega)) (i := tm) (by omega) (Int.le_refl _)
  have h5 := sumI_up (f := fun j => ahI lg t j z) (v := 1) h0 h1
  have h6 := ahI_self lg t z
  unfold ahN
  rw [h6] at h5
  omega
theorem ahN_ne (lg t : Int → Int) {i k tm : Int} (h0 : 0 ≤ i) (h1 : i < tm) (h : ahI lg t i k = 1) : ahN lg t i tm < ahN lg t k tm := by
  have h2 := sumI_up (f := fun j => ahI lg t j i) (v := 1) h0 h1
  have h3 := sumI_mono (f := up (fun j => ahI lg t j i) i 1) (f' := fun j => ahI lg t j k) (N := tm) (by omega) (fun j a b => by
    show up (fun j => ahI lg t j i) i 1 j ≤ ahI lg t j k
    by_cases e : j = i
    · subst e; rw [up_same, h]; omega
    · rw [up_ne e]
      have q1 := ahI_01 lg t j i
      have q2 := ahI_01 lg t j k
      rcases q1 with q | q
      · show ahI lg t j i ≤ _; omega
      · have := ahI_tr lg t q h
        show ahI lg t j i ≤ _; omega)
  rw [ahI_self lg t i] at h2
  unfold ahN
  omega
theorem ahN_inj (lg t : Int → Int) {i k tm : Int} (hi : 0 ≤ i ∧ i < tm) (hk : 0 ≤ k ∧ k < tm) (h : ahN lg t i tm = ahN lg t k tm) : i = k := by
  by_cases e : i = k
  · exact e
  · have h1 := ahI_tot lg t e
    have h2 := ahI_01 lg t i k
    rcases h2 with q | q
    · have := ahN_ne lg t hk.1 hk.2 (k := i) (by omega)
      omega
    · have := ahN_ne lg t hi.1 hi.2 (k := k) q
      omega
theorem ahN_ex (lg t : Int → Int) {tm v : Int} (htm : 0 ≤ tm ∧ tm ≤ 4) (hv : 0 ≤ v ∧ v < tm) : ∃ z : Int, (0 ≤ z ∧ z < tm) ∧ ahN lg t z tm = v := by
  refine Classical.byContradiction fun hn => ?_
  have hn2 : ∀ z : Int, 0 ≤ z → z < tm → ahN lg t z tm ≠ v := fun z a b e => hn ⟨z, ⟨a, b⟩, e⟩
  have hb : ∀ z : Int, 0 ≤ z → z < tm → 0 ≤ ahN lg t z tm ∧ ahN lg t z tm < tm := fun z a b => ahN_lt lg t a b
  have hj : ∀ i k : Int, 0 ≤ i → i < k → k < tm → ahN lg t i tm ≠ ahN lg t k tm := fun i k a b c e => by
    have := ahN_inj lg t (i := i) (k := k) ⟨a, by omega⟩ ⟨by omega, c⟩ e
    omega
  rcases (by omega : tm = 1 ∨ tm = 2 ∨ tm = 3 ∨ tm = 4) with e | e | e | e
  · have a0 := hb 0 (by omega) (by omega); have b0 := hn2 0 (by omega) (by omega)
    omega
  · have a0 := hb 0 (by omega) (by omega); have b0 := hn2 0 (by omega) (by omega)
    have a1 := hb 1 (by omega) (by omega); have b1 := hn2 1 (by omega) (by omega)
    have c1 := hj 0 1 (by omega) (by omega) (by omega)
    omega
  · have a0 := hb 0 (by omega) (by omega); have b0 := hn2 0 (by omega) (by omega)
    have a1 := hb 1 (by omega) (by omega); have b1 := hn2 1 (by omega) (by omega)
    have a2 := hb 2 (by omega) (by omega); have b2 := hn2 2 (by omega) (by omega)
    have c1 := hj 0 1 (by omega) (by omega) (by omega)
    have c2 := hj 0 2 (by omega) (by omega) (by omega)
    have c3 := hj 1 2 (by omega) (by omega) (by omega)
    omega
  · have a0 := hb 0 (by omega) (by omega); have b0 := hn2 0 (by omega) (by omega)
    have a1 := hb 1 (by omega) (by omega); have b1 := hn2 1 (by omega) (by omega)
    have a2 := hb 2 (by omega) (by omega); have b2 := hn2 2 (by omega) (by omega)
    have a3 := hb 3 (by omega) (by omega); have b3 := hn2 3 (by omega) (by omega)
    have c1 := hj 0 1 (by omega) (by omega) (by omega)
    have c2 := hj 0 2 (by omega) (by omega) (by omega)
    have c3 := hj 1 2 (by omega) (by omega) (by omega)
    have c4 := hj 0 3 (by omega) (by omega) (by omega)
    have c5 := hj 1 3 (by omega) (by omega) (by omega)
    have c6 := hj 2 3 (by omega) (by omega) (by omega)
    omega
theorem ldr_eq (lg t : Int → Int) {tm v z : Int} (hz : 0 ≤ z ∧ z < tm) (h : ahN lg t z tm = v) : ldr lg t tm v tm = z := by
  have key : ∀ n : Nat, (n : Int) ≤ tm → ldr lg t tm v (n : Int) = if z < (n : Int) then z else 0 := by
    intro n
    induction n with
    | zero => intro _; rw [if_neg (by omega)]; rfl
    | succ n ih =>
      intro hn
      have e : ((n + 1 : Nat) : Int) = (n : Int) + 1 := by omega
      rw [e, ldr_s _ _ _ _ (by omega), ih (by omega)]
      by_cases c : ahN lg t (n : Int) tm = v
      · have e2 := ahN_inj lg t (i := n) (k := z) ⟨by omega, by omega⟩ hz (c.trans h.symm)
        rw [if_pos c, if_pos (by omega)]
        exact e2
      · rw [if_neg c]
        have : (n : Int) ≠ z := fun q => c (by rw [q]; exact h)
        by_cases c2 : z < (n : Int)
        · rw [if_pos c2, if_pos (by omega)]
        · rw [if_neg c2, if_neg (by omega)]
  have h2 := key tm.toNat (by omega)
  rw [show ((tm.toNat : Nat) : Int) = tm by omega] at h2
  rw [h2, if_pos hz.2]
theorem rchP_1 {s : Int → Int} {c z y : Int} (hz : rchP s c z) (hy : rchP s c y) : z = y := by
  obtain ⟨a1, a2, a3⟩ := hz
  obtain ⟨b1, b2, b3⟩ := hy
  rcases (by omega : z < y ∨ z = y ∨ y < z) with h | h | h
  · have q1 := a2 (by omega)
    have q2 := b3 z (by omega) h
    omega
  · exact h
  · have q1 := b2 (by omega)
    have q2 := a3 y (by omega) h
    omega
theorem Bd_c {v a b : Int} (N : Int) (h : a ≤ v ∧ v ≤ b) : Bd (fun _ => v) N a b := fun _ _ _ => h
/-- teams that aren't there yet -/
def NT (tm : Int) (bu sr lg t : Int → Int) : Prop := ∀ j : Int, tm ≤ j → j < 4 → bu j = 0 ∧ sr j = 20 ∧ lg j = 0 ∧ t j = 0
/-- what holds after c calls -/
def LV (c : Int) (td bu sr lg : Int → Int) (tm hr en : Int) (S : SS) : Prop := LI td bu sr lg tm hr S ∧ SI tm S ∧ S3 tm S ∧ (0 ≤ en ∧ en ≤ c) ∧ Bd lg 4 0 (4 * c) ∧ hr ≤ 48 * c ∧ Bd (ssT S) 120 0 (600 * hr) ∧ NT tm bu sr lg (ssT S)
theorem LV_mono {c : Int} {td bu sr lg : Int → Int} {tm hr en : Int} {S : SS} (h : LV c td bu sr lg tm hr en S) : LV (c + 1) td bu sr lg tm hr en S := by
  obtain ⟨h1, h2, h3, h4, h5, h6, h7, h8⟩ := h
  exact ⟨h1, h2, h3, by omega, fun j a b => by have := h5 j a b; omega, by omega, h7, h8⟩
theorem LV_addTeam {c : Int} {td bu sr lg : Int → Int} {tm hr en : Int} {S : SS} (h : LV c td bu sr lg tm hr en S) (ht : tm < 4) : LV (c + 1) td bu sr lg (tm + 1) hr en S := by
  obtain ⟨⟨i1, i2, i3, i4, i5, i6, i7, i8⟩, h2, h3, h4, h5, h6, h7, h8⟩ := h
  refine ⟨⟨i1, i2, i3, i4, by omega, i6, i7, i8⟩, fun j a b => ?_, fun t a b => ?_, by omega, fun j a b => by have := h5 j a b; omega, by omega, h7, fun j a b => h8 j (by omega) b⟩
  · rcases h2 j a b with q | q
    · exact Or.inl q
    · exact Or.inr ⟨q.1, by omega, q.2.2⟩
  · by_cases e : t < tm
    · exact h3 t a e
    · unfold cntS
      rw [sumI_z (by omega) (fun j c d => ?_)]
      · omega
      · have := h2 j c d
        show (if ssO S j = t then (1 : Int) else 0) = 0
        rw [if_neg (by omega)]
theorem LV_setTide {c : Int} {td bu sr lg : Int → Int} {tm hr en v L : Int} {S : SS} (h : LV c td bu sr lg tm hr en S) (hL : 0 ≤ L ∧ L ≤ 30) : LV (c + 1) (up td v L) bu sr lg tm hr en S := by
  obtain ⟨⟨i1, i2, i3, i4, i5, i6, i7, i8⟩, h2, h3, h4, h5, h6, h7, h8⟩ := LV_mono h
  exact ⟨⟨Bd_up i1 hL, i2, i3, i4, i5, i6, i7, i8⟩, h2, h3, h4, h5, h6, h7, h8⟩
theorem LV_deed {c : Int} {td bu sr lg bu2 sr2 : Int → Int} {tm hr en : Int} {S S2 : SS} (h : LV c td bu sr lg tm hr en S) (hb : Bd bu2 4 0 40) (hs : Bd sr2 4 0 20) (hB : SB S2) (hO : ssO S2 = ssO S) (hP : ssP S2 = ssP S) (hT : ssT S2 = ssT S) (hn : ∀ j : Int, tm ≤ j → bu2 j = bu j ∧ sr2 j = sr j) : LV (c + 1) td bu2 sr2 lg tm hr en S2 := by
  obtain ⟨⟨i1, i2, i3, i4, i5, i6, i7, i8⟩, h2, h3, h4, h5, h6, h7, h8⟩ := LV_mono h
  refine ⟨⟨i1, hb, hs, i4, i5, i6, hB, by rw [hT]; exact i8⟩, fun j a b => by rw [hO, hP]; exact h2 j a b, fun t a b => by rw [hO]; exact h3 t a b, h4, h5, h6, by rw [hT]; exact h7, fun j a b => ?_⟩
  have q := h8 j a b
  have q2 := hn j a
  rw [hT]
  omega
theorem cntS_up {o : Int → Int} {c k t : Int} (hc : 0 ≤ c ∧ c < 120) : cntS (up o c k) t = cntS o t + ((if k = t then 1 else 0) - (if o c = t then 1 else 0)) := by
  unfold cntS
  rw [← sumI_up (f := fun j => if o j = t then 1 else 0) (v := if k = t then 1 else 0) hc.1 hc.2]
  refine sumI_congr (fun j _ _ => ?_)
  by_cases e : j = c
  · subst e
    rw [up_same, up_same]
  · rw [up_ne e, up_ne e]
theorem thrD_0 {tm : Int} {sr : Int → Int} {k x y n : Int} (h : thrD tm sr k x y n = 0) : (0 ≤ k ∧ k < tm) ∧ (0 ≤ x ∧ x < 12 ∧ 0 ≤ y ∧ y < 10 ∧ x / 3 = k ∧ 1 ≤ n ∧ n ≤ 5) ∧ 0 < sr k := by unfold thrD at h; omega
theorem thrP_9 {tm : Int} {sr o w : Int → Int} {k x y : Int} (h : thrP tm sr o w k x y = 0) : thrD tm sr k x y 1 = 0 ∧ cntS o k < 3 ∧ o (x + 12 * y) = -1 ∧ w (x + 12 * y) = 0 := by unfold thrP at h; omega
theorem LV_plant {c : Int} {td bu sr lg : Int → Int} {tm hr en k x y : Int} {S : SS} (h : LV c td bu sr lg tm hr en S) (hT : thrP tm sr (ssO S) (ssW S) k x y = 0) : LV (c + 1) td bu (up sr k (sr k - 1)) lg tm hr en (ssS S, ssF S, ssW S, up (ssO S) (x + 12 * y) k, up (ssP S) (x + 12 * y) (hg (ssS S) (x + 12 * y)), ssT S, ssLo S, ssSl S, ssFa S) := by
  obtain ⟨⟨i1, i2, i3, i4, i5, i6, i7, i8⟩, h2, h3, h4, h5, h6, h7, h8⟩ := LV_mono h
  obtain ⟨q1, q2, q3, q4⟩ := thrP_9 hT
  obtain ⟨r1, r2, r3⟩ := thrD_0 q1
  obtain ⟨b1, b2, b3, b4, b5⟩ := id i7
  have r4 := hg_bd b1 (c := x + 12 * y) (by omega)
  have r5 := i3 k (by omega) (by omega)
  refine ⟨⟨i1, i2, Bd_up i3 (by omega), i4, i5, i6, ⟨b1, b2, b3, Bd_up b4 (by omega), Bd_up b5 r4⟩, i8⟩, fun j a b => ?_, fun t a b => ?_, h4, h5, h6, h7, fun j a b => ?_⟩
  · show (up (ssO S) (x + 12 * y) k j = -1 ∧ up (ssP S) (x + 12 * y) (hg (ssS S) (x + 12 * y)) j = 0) ∨ (up (ssO S) (x + 12 * y) k j = j % 12 / 3 ∧ j % 12 / 3 < tm ∧ 0 ≤ up (ssP S) (x + 12 * y) (hg (ssS S) (x + 12 * y)) j)
    by_cases e : j = x + 12 * y
    · rw [e, up_same, up_same]
      exact Or.inr ⟨by omega, by omega, by omega⟩
    · rw [up_ne e, up_ne e]
      exact h2 j a b
  · show cntS (up (ssO S) (x + 12 * y) k) t ≤ 3
    rw [cntS_up (by omega)]
    have := h3 t a b
    by_cases e : k = t
    · subst e
      rw [if_pos rfl, if_neg (by omega)]
      omega
    · rw [if_neg e]
      split <;> omega
  · have q := h8 j a b
    rw [up_ne (by omega)]
    exact q
theorem hour_nt {tm : Int} (L : Int) {S : SS} (h : SI tm S) {j : Int} (hj : tm ≤ j) (h0 : 0 ≤ tm) : ssT (hourT L S) j = ssT S j := by
  rw [hourT_T]
  unfold hT jT
  rw [sumI_z (by omega) (fun q a b => ?_)]
  · omega
  · have := h q a b
    show (if ssO S q = j ∧ _ then _ else (0 : Int)) = 0
    rw [if_neg]
    intro e
    omega
theorem hrs_nt {tm : Int} (td : Int → Int) (hr : Int) {S : SS} (h : SI tm S) {j : Int} (hj : tm ≤ j) (h9 : 0 ≤ tm) {i : Int} (h0 : 0 ≤ i) : ssT (hrs td hr S i) j = ssT S j :=
  (foI_ind (P := fun _ X => SI tm X ∧ ssT X j = ssT S j) ⟨h, rfl⟩ (fun q X _ hX => ⟨SI_hour _ hX.1, (hour_nt _ hX.1 hj h9).trans hX.2⟩) h0).2
theorem LV_pass {c : Int} {td bu sr lg : Int → Int} {tm hr en v : Int} {S : SS} (h : LV c td bu sr lg tm hr en S) (hc : c ≤ 512) (hv : 1 ≤ v ∧ v ≤ 48) : LV (c + 1) td bu (fun _ => 20) lg tm (hr + v) en (hrs td hr S v) := by
  obtain ⟨⟨i1, i2, i3, i4, i5, i6, i7, i8⟩, h2, h3, h4, h5, h6, h7, h8⟩ := h
  have q1 := hrs_pt td hr i7 h7 (i := v) (by omega)
  have q2 : Bd (ssT (hrs td hr S v)) 120 0 (600 * (hr + v)) := fun j a b => by have := q1 j a b; omega
  refine ⟨⟨i1, i2, Bd_c 4 (by omega), i4, i5, by omega, hrs_bd td hr i7 (by omega), fun j a b => by have := q2 j a b; omega⟩, SI_hrs td hr h2 (by omega), S3_hrs td hr h3 (by omega), by omega, fun j a b => by have := h5 j a b; omega, by omega, q2, fun j a b => ?_⟩
  have q := h8 j a b
  rw [hrs_nt td hr h2 a (by omega) (by omega)]
  exact ⟨q.1, rfl, q.2.2⟩
def S0 : SS := (fun _ => 4, fun _ => 0, fun _ => 0, fun _ => -1, fun _ => 0, fun _ => 0, 0, 0, 0)
theorem SB_0 : SB S0 := ⟨fun _ _ _ => by show (0 : Int) ≤ 4 ∧ (4 : Int) ≤ 20; omega, fun _ _ _ => by show (0 : Int) ≤ 0 ∧ (0 : Int) ≤ 5; omega, fun _ _ _ => by show (0 : Int) ≤ 0 ∧ (0 : Int) ≤ 1; omega, fun _ _ _ => by show (-1 : Int) ≤ -1 ∧ (-1 : Int) ≤ 119; omega, fun _ _ _ => by show (0 : Int) ≤ 0 ∧ (0 : Int) ≤ 38; omega⟩
theorem SI_0 (tm : Int) : SI tm S0 := fun _ _ _ => Or.inl ⟨rfl, rfl⟩
theorem S3_0 (tm : Int) : S3 tm S0 := fun t a _ => by
  unfold cntS
  rw [sumI_z (by omega) (fun j _ _ => ?_)]
  · omega
  · show (if (-1 : Int) = t then (1 : Int) else 0) = 0
    rw [if_neg (by omega)]
theorem LV_end {c : Int} {td bu sr lg : Int → Int} {tm hr en : Int} {S : SS} (h : LV c td bu sr lg tm hr en S) (hc : 0 ≤ c ∧ c ≤ 512) : LV (c + 1) td (fun _ => 0) (fun _ => 20) (lgE lg (ssT S) tm tm) tm hr (en + 1) S0 := by
  obtain ⟨⟨i1, i2, i3, i4, i5, i6, i7, i8⟩, h2, h3, h4, h5, h6, h7, h8⟩ := h
  have q1 : Bd (lgE lg (ssT S) tm tm) 4 0 (4 * (c + 1)) := by
    intro j a b
    have h1 := h5 j a b
    have h2 := fwI_bd (ssT S) j i5
    unfold lgE
    split <;> omega
  refine ⟨⟨i1, Bd_c 4 (by omega), Bd_c 4 (by omega), fun j a b => by have := q1 j a b; omega, i5, i6, SB_0, fun j _ _ => by show (0 : Int) ≤ 0 ∧ (0 : Int) ≤ 1000000000; omega⟩, SI_0 tm, S3_0 tm, by omega, q1, by omega, fun j _ _ => by show (0 : Int) ≤ 0 ∧ (0 : Int) ≤ 600 * hr; omega, fun j a b => ⟨rfl, rfl, ?_, rfl⟩⟩
  unfold lgE
  rw [if_neg (by omega)]
  exact (h8 j a b).2.2.1
theorem ftd_b9 : Bd ftd 12 0 30 := by
  intro j a b
  unfold ftd
  omega
theorem LV_0 : LV 0 ftd (fun _ => 0) (fun _ => 20) (fun _ => 0) 0 0 0 S0 :=
  ⟨⟨ftd_b9, Bd_c 4 (by omega), Bd_c 4 (by omega), Bd_c 4 (by omega), by omega, by omega, SB_0, fun j _ _ => by show (0 : Int) ≤ 0 ∧ (0 : Int) ≤ 1000000000; omega⟩, SI_0 0, S3_0 0, by omega, Bd_c 4 (by omega), by omega, fun j _ _ => by show (0 : Int) ≤ 0 ∧ (0 : Int) ≤ 600 * 0; omega, fun j _ _ => ⟨rfl, rfl, rfl, rfl⟩⟩
