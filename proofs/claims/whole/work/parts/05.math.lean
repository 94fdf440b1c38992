/-! the beach in whole numbers -/
abbrev ar (g : Nat → ClassId) (N : Nat) (f : Int → Int) : va_E := .inl (g 0, N, .inl (ia f))
/-- the cells of a Shore -/
def wSh (g : Nat → ClassId) (h : Nat) (a : Nat → Nat) (s f w o p t : Int → Int) (lo sl fa : Int) : va_W := [(h, .inr (0, [.ref (a 0), .ref (a 1), .ref (a 2), .ref (a 3), .ref (a 4), .ref (a 5), .int (iI lo), .int (iI sl), .int (iI fa)])), (a 0, ar g 120 s), (a 1, ar g 120 f), (a 2, ar g 120 w), (a 3, ar g 120 o), (a 4, ar g 120 p), (a 5, ar g 120 t)]
/-- a fold over 0 .. i - 1 -/
def foN {α : Type} (F : Int → α → α) (x : α) : Nat → α
  | 0 => x
  | n + 1 => F n (foN F x n)
def foI {α : Type} (F : Int → α → α) (x : α) (i : Int) : α := foN F x i.toNat
theorem foI_0 {α : Type} (F : Int → α → α) (x : α) : foI F x 0 = x := rfl
theorem foI_s {α : Type} (F : Int → α → α) (x : α) {i : Int} (h : 0 ≤ i) : foI F x (i + 1) = F i (foI F x i) := by
  unfold foI
  have e : (i + 1).toNat = i.toNat + 1 := by omega
  rw [e]
  show F (i.toNat : Int) _ = _
  rw [Int.toNat_of_nonneg h]
theorem foI_ind {α : Type} {F : Int → α → α} {x : α} {P : Int → α → Prop} (h0 : P 0 x) (hs : ∀ (j : Int) (y : α), 0 ≤ j → P j y → P (j + 1) (F j y)) {i : Int} (h : 0 ≤ i) : P i (foI F x i) := by
  have key : ∀ n : Nat, P (n : Int) (foI F x (n : Int)) := by
    intro n
    induction n with
    | zero => exact h0
    | succ n ih =>
      have e : ((n + 1 : Nat) : Int) = (n : Int) + 1 := by omega
      rw [e, foI_s F x (by omega)]
      exact hs _ _ (by omega) ih
  have := key i.toNat
  rwa [Int.toNat_of_nonneg h] at this
theorem foI_congr {α : Type} {F G : Int → α → α} {x : α} {i : Int} (h : ∀ (j : Int) (y : α), 0 ≤ j → j < i → F j y = G j y) : foI F x i = foI G x i := by
  unfold foI
  have key : ∀ n : Nat, (n : Int) ≤ i → foN F x n = foN G x n := by
    intro n
    induction n with
    | zero => intro _; rfl
    | succ n ih =>
      intro hn
      show F n (foN F x n) = G n (foN G x n)
      rw [ih (by omega), h n _ (by omega) (by omega)]
  rcases (by omega : i < 0 ∨ 0 ≤ i) with hi | hi
  · have : i.toNat = 0 := by omega
    rw [this]
    rfl
  · exact key _ (by omega)
def sumI (f : Int → Int) (i : Int) : Int := foI (fun j x => x + f j) 0 i
theorem sumI_0 (f : Int → Int) : sumI f 0 = 0 := rfl
theorem sumI_s (f : Int → Int) {i : Int} (h : 0 ≤ i) : sumI f (i + 1) = sumI f i + f i := foI_s _ _ h
theorem sumI_congr {f f' : Int → Int} {i : Int} (h : ∀ j : Int, 0 ≤ j → j < i → f j = f' j) : sumI f i = sumI f' i := foI_congr (fun j y h0 h1 => by rw [h j h0 h1])
theorem sumI_bd {f : Int → Int} {N a b i : Int} (h : Bd f N a b) (h0 : 0 ≤ i) (h1 : i ≤ N) : a * i ≤ sumI f i ∧ sumI f i ≤ b * i := by
  have key : ∀ n : Nat, (n : Int) ≤ N → a * (n : Int) ≤ sumI f (n : Int) ∧ sumI f (n : Int) ≤ b * (n : Int) := by
    intro n
    induction n with
    | zero => intro _; simp [sumI_0]
    | succ n ih =>
      intro hn
      have e : ((n + 1 : Nat) : Int) = (n : Int) + 1 := by omega
      have hi := ih (by omega)
      have hb := h n (by omega) (by omega)
      rw [e, sumI_s f (by omega), Int.mul_add, Int.mul_add, Int.mul_one, Int.mul_one]
      omega
  have := key i.toNat (by omega)
  rwa [Int.toNat_of_nonneg h0] at this
def maxI (f : Int → Int) (i : Int) : Int := foI (fun j x => max x (f j)) 0 i
def hg (s : Int → Int) (c : Int) : Int := 2 * (c / 12) + s c
def bsd (c k : Int) : Int := if k = 0 then (if 12 ≤ c then c - 12 else -1) else if k = 1 then (if 0 < c % 12 then c - 1 else -1) else if k = 2 then (if c % 12 < 11 then c + 1 else -1) else (if c < 108 then c + 12 else -1)
theorem bsd_rg {c : Int} (hc : 0 ≤ c ∧ c < 120) (k : Int) : -1 ≤ bsd c k ∧ bsd c k < 120 := by
  unfold bsd
  omega
def area (x c : Int) : Prop := c % 12 / 3 = x
def ar01 (x c : Int) : Int := if c % 12 / 3 = x then 1 else 0
/-- the lowest beside, among the first k -/
def lowk (s : Int → Int) (c k : Int) : Int := foI (fun j acc => if bsd c j ≠ -1 ∧ (acc = -1 ∨ hg s (bsd c j) < hg s acc) then bsd c j else acc) (-1) k
theorem lowk_0 (s : Int → Int) (c : Int) : lowk s c 0 = -1 := rfl
theorem lowk_s (s : Int → Int) (c : Int) {k : Int} (h : 0 ≤ k) : lowk s c (k + 1) = if bsd c k ≠ -1 ∧ (lowk s c k = -1 ∨ hg s (bsd c k) < hg s (lowk s c k)) then bsd c k else lowk s c k := foI_s _ _ h
def low (s : Int → Int) (c : Int) : Int := lowk s c 4
theorem lowk_rg (s : Int → Int) {c : Int} (hc : 0 ≤ c ∧ c < 120) {k : Int} (hk : 0 ≤ k) : -1 ≤ lowk s c k ∧ lowk s c k < 120 := by
  refine foI_ind (P := fun _ y => -1 ≤ y ∧ y < 120) (by omega) (fun j y _ hy => ?_) hk
  have := bsd_rg hc j
  split <;> omega
theorem lowk_ne (s : Int → Int) {c : Int} {k : Int} (hk : 0 ≤ k) (h : lowk s c k ≠ -1) : lowk s c (k + 1) ≠ -1 := by
  rw [lowk_s s c hk]
  split <;> omega
theorem low_rg (s : Int → Int) {c : Int} (hc : 0 ≤ c ∧ c < 120) : 0 ≤ low s c ∧ low s c < 120 := by
  have h4 := lowk_rg s hc (k := 4) (by omega)
  have : lowk s c 4 ≠ -1 := by
    by_cases h0 : 12 ≤ c
    · have b0 : bsd c 0 = c - 12 := by unfold bsd; omega
      have e1 : lowk s c 1 ≠ -1 := by
        have := lowk_s s c (k := 0) (by omega)
        rw [lowk_0] at this
        have e : lowk s c 1 = lowk s c (0 + 1) := rfl
        rw [e, this, if_pos ⟨by omega, Or.inl rfl⟩]
        omega
      exact lowk_ne s (k := 3) (by omega) (lowk_ne s (k := 2) (by omega) (lowk_ne s (k := 1) (by omega) e1))
    · have b3 : bsd c 3 = c + 12 := by unfold bsd; omega
      have e : lowk s c 4 = lowk s c (3 + 1) := rfl
      rw [e, lowk_s s c (by omega)]
      split <;> omega
  unfold low
  omega
/-- the lowest is one that lies beside -/
theorem lowk_bs (s : Int → Int) (c : Int) {k : Int} (hk : 0 ≤ k) : lowk s c k = -1 ∨ ∃ j, bsd c j = lowk s c k := by
  refine foI_ind (P := fun _ y => y = -1 ∨ ∃ j, bsd c j = y) (Or.inl rfl) (fun j y _ hy => ?_) hk
  split
  · exact Or.inr ⟨j, rfl⟩
  · exact hy
theorem bsd_ne (c k : Int) (h : bsd c k ≠ -1) : bsd c k ≠ c := by
  revert h
  unfold bsd
  omega
theorem low_ne (s : Int → Int) {c : Int} (hc : 0 ≤ c ∧ c < 120) : low s c ≠ c := by
  have h := low_rg s hc
  rcases lowk_bs s c (k := 4) (by omega) with e | ⟨j, e⟩
  · unfold low at h; omega
  · have e2 : bsd c j = low s c := e
    rw [← e2]
    exact bsd_ne c j (by omega)
/-- water that a cell is open to -/
def opn (w : Int → Int) (c : Int) : Prop := c < 12 ∨ ∃ k : Int, 0 ≤ k ∧ k < 4 ∧ bsd c k ≠ -1 ∧ w (bsd c k) ≠ 0
/-- closed: what the water rises over -/
def clo (s : Int → Int) (L : Int) (Q : Int → Prop) : Prop := ∀ c : Int, 0 ≤ c → c < 120 → hg s c < L → (c < 12 ∨ ∃ k : Int, 0 ≤ k ∧ k < 4 ∧ bsd c k ≠ -1 ∧ Q (bsd c k)) → Q c
def wetP (s : Int → Int) (L c : Int) : Prop := ∀ Q : Int → Prop, clo s L Q → Q c
noncomputable def wet (s : Int → Int) (L c : Int) : Int := @ite Int (wetP s L c) (Classical.propDecidable _) 1 0
theorem wet_1 {s : Int → Int} {L c : Int} (h : wetP s L c) : wet s L c = 1 := by unfold wet; exact if_pos h
theorem wet_0 {s : Int → Int} {L c : Int} (h : ¬ wetP s L c) : wet s L c = 0 := by unfold wet; exact if_neg h
theorem wet_01 (s : Int → Int) (L c : Int) : wet s L c = 0 ∨ wet s L c = 1 := by
  by_cases h : wetP s L c
  · exact Or.inr (wet_1 h)
  · exact Or.inl (wet_0 h)
theorem wet_bd (s : Int → Int) (L : Int) : Bd (wet s L) 120 0 1 := fun j _ _ => by have := wet_01 s L j; omega
theorem wetP_clo (s : Int → Int) (L : Int) : clo s L (wetP s L) := by
  intro c h0 h1 h2 h3 Q hQ
  refine hQ c h0 h1 h2 ?_
  rcases h3 with h | ⟨k, a, b, e, h⟩
  · exact Or.inl h
  · exact Or.inr ⟨k, a, b, e, h Q hQ⟩
theorem wet_lt {s : Int → Int} {L c : Int} (h : wet s L c ≠ 0) : hg s c < L := by
  by_cases hp : wetP s L c
  · refine (hp (fun j => hg s j < L) ?_)
    intro c _ _ h _
    exact h
  · exact absurd (wet_0 hp) h
/-- one sweep, so far -/
def swI (s w : Int → Int) (L i r : Int) (v : Int → Int) : Prop :=
  (r = 0 ∨ r = 1) ∧ Bd v 120 0 1 ∧ (∀ j : Int, 0 ≤ j → j < 120 → w j ≠ 0 → v j ≠ 0) ∧
  (∀ Q : Int → Prop, clo s L Q → (∀ j : Int, 0 ≤ j → j < 120 → w j ≠ 0 → Q j) → ∀ j : Int, 0 ≤ j → j < 120 → v j ≠ 0 → Q j) ∧
  (r = 0 → (∀ j : Int, 0 ≤ j → j < 120 → v j = w j) ∧ ∀ j : Int, 0 ≤ j → j < i → w j = 0 → hg s j < L → ¬ opn w j) ∧
  (r = 1 → sumI w 120 < sumI v 120)
theorem swI_0 {s w : Int → Int} (L : Int) (hw : Bd w 120 0 1) : swI s w L 0 0 w := ⟨Or.inl rfl, hw, fun _ _ _ h => h, fun Q _ h => h, fun _ => ⟨fun _ _ _ => rfl, fun j h0 h1 => absurd h1 (by omega)⟩, fun h => absurd h (by decide)⟩
theorem opn_congr {w v : Int → Int} {c : Int} (hc : 0 ≤ c ∧ c < 120) (h : ∀ j : Int, 0 ≤ j → j < 120 → v j = w j) : opn v c ↔ opn w c := by
  unfold opn
  constructor
  · rintro (h1 | ⟨k, a, b, e, x⟩)
    · exact Or.inl h1
    · have := bsd_rg hc k
      exact Or.inr ⟨k, a, b, e, by rw [← h _ (by omega) (by omega)]; exact x⟩
  · rintro (h1 | ⟨k, a, b, e, x⟩)
    · exact Or.inl h1
    · have := bsd_rg hc k
      exact Or.inr ⟨k, a, b, e, by rw [h _ (by omega) (by omega)]; exact x⟩
theorem swI_skip {s w : Int → Int} {L i r : Int} {v : Int → Int} (h : swI s w L i r v) (hi : 0 ≤ i ∧ i < 120) (hn : v i = 0 → hg s i < L → ¬ opn v i) : swI s w L (i + 1) r v := by
  obtain ⟨h1, h2, h3, h4, h5, h6⟩ := h
  refine ⟨h1, h2, h3, h4, fun hr => ?_, h6⟩
  obtain ⟨e, n⟩ := h5 hr
  refine ⟨e, fun j h0 hj hw hh ho => ?_⟩
  by_cases hji : j = i
  · subst hji
    exact hn (by rw [e j h0 (by omega)]; exact hw) hh ((opn_congr hi e).mpr ho)
  · exact n j h0 (by omega) hw hh ho
theorem sumI_up {f : Int → Int} {k v N : Int} (h0 : 0 ≤ k) (h1 : k < N) : sumI (up f k v) N = sumI f N + (v - f k) := by
  have key : ∀ n : Nat, sumI (up f k v) (n : Int) = sumI f (n : Int) + (if k < (n : Int) then v - f k else 0) := by
    intro n
    induction n with
    | zero => rw [if_neg (by omega)]; rfl
    | succ n ih =>
      have e : ((n + 1 : Nat) : Int) = (n : Int) + 1 := by omega
      rw [e, sumI_s _ (by omega), sumI_s _ (by omega), ih]
      by_cases hk : (n : Int) = k
      · rw [hk, up_same, if_neg (by omega), if_pos (by omega)]
        omega
      · rw [up_ne hk]
        by_cases hlt : k < (n : Int)
        · rw [if_pos hlt, if_pos (by omega)]; omega
        · rw [if_neg hlt, if_neg (by omega)]; omega
  have := key N.toNat
  rw [Int.toNat_of_nonneg (by omega), if_pos h1] at this
  exact this
theorem sumI_mono {f f' : Int → Int} {N : Int} (hN : 0 ≤ N) (h : ∀ j : Int, 0 ≤ j → j < N → f j ≤ f' j) : sumI f N ≤ sumI f' N := by
  have key : ∀ n : Nat, (n : Int) ≤ N → sumI f (n : Int) ≤ sumI f' (n : Int) := by
    intro n
    induction n with
    | zero => intro _; exact Int.le_refl _
    | succ n ih =>
      intro hn
      have e : ((n + 1 : Nat) : Int) = (n : Int) + 1 := by omega
      rw [e, sumI_s _ (by omega), sumI_s _ (by omega)]
      have := ih (by omega)
      have := h n (by omega) (by omega)
      omega
  have := key N.toNat (by omega)
  rwa [Int.toNat_of_nonneg hN] at this
theorem swI_set {s w : Int → Int} {L i r : Int} {v : Int → Int} (h : swI s w L i r v) (hw : Bd w 120 0 1) (hi : 0 ≤ i ∧ i < 120) (hv : v i = 0) (hh : hg s i < L) (ho : opn v i) : swI s w L (i + 1) 1 (up v i 1) := by
  obtain ⟨h1, h2, h3, h4, h5, h6⟩ := h
  refine ⟨Or.inr rfl, Bd_up h2 (by omega), fun j a b c => ?_, fun Q hQ hq j a b c => ?_, fun e => absurd e (by decide), fun _ => ?_⟩
  · by_cases e : j = i
    · rw [e, up_same]; decide
    · rw [up_ne e]; exact h3 j a b c
  · by_cases e : j = i
    · subst e
      refine hQ j a b hh ?_
      rcases ho with x | ⟨k, k0, k1, kn, x⟩
      · exact Or.inl x
      · have := bsd_rg hi k
        exact Or.inr ⟨k, k0, k1, kn, h4 Q hQ hq _ (by omega) (by omega) x⟩
    · rw [up_ne e] at c
      exact h4 Q hQ hq j a b c
  · rw [sumI_up hi.1 hi.2, hv]
    have : sumI w 120 ≤ sumI v 120 := by
      refine sumI_mono (by omega) (fun j a b => ?_)
      have b1 := hw j a b
      have b2 := h2 j a b
      have b3 := h3 j a b
      omega
    omega
/-- what a sweep has done -/
def swQ (s w : Int → Int) (L z : Int) (v : Int → Int) : Prop := swI s w L 120 z v
/-- the search for the water, so far -/
def fwI (s : Int → Int) (L i z : Int) (v : Int → Int) : Prop :=
  (z = 0 ∨ z = 1) ∧ Bd v 120 0 1 ∧ (∀ j : Int, 0 ≤ j → j < 120 → v j ≠ 0 → wetP s L j) ∧
  (z = 0 → ∀ j : Int, 0 ≤ j → j < 120 → v j = 0 → hg s j < L → ¬ opn v j) ∧ (z = 1 → i ≤ sumI v 120)
theorem fwI_0 (s : Int → Int) (L : Int) : fwI s L 0 1 (fun _ => 0) := by
  refine ⟨Or.inr rfl, fun j _ _ => ⟨Int.le_refl 0, (by decide : (0 : Int) ≤ 1)⟩, fun j _ _ h => absurd rfl h, fun h => absurd h (by decide), fun _ => ?_⟩
  have := sumI_bd (f := fun _ => 0) (N := 120) (a := 0) (b := 0) (i := 120) (fun j _ _ => ⟨Int.le_refl 0, Int.le_refl 0⟩) (by omega) (by omega)
  omega
theorem fwI_s {s : Int → Int} {L i z z2 : Int} {v v2 : Int → Int} (h : fwI s L i z v) (hz : ¬ z = 0) (hs : swQ s v L z2 v2) : fwI s L (i + 1) z2 v2 := by
  obtain ⟨h1, h2, h3, h4, h5⟩ := h
  obtain ⟨g1, g2, g3, g4, g5, g6⟩ := hs
  refine ⟨g1, g2, fun j a b c => g4 _ (wetP_clo s L) h3 j a b c, fun e j a b c d o => ?_, fun e => ?_⟩
  · obtain ⟨q, n⟩ := g5 e
    exact n j a b (by rw [← q j a b]; exact c) d ((opn_congr ⟨a, b⟩ q).mp o)
  · have := h5 (by omega)
    have := g6 e
    omega
theorem fwI_done {s : Int → Int} {L i z : Int} {v : Int → Int} (h : fwI s L i z v) (hx : z = 0 ∨ 120 < i) : ∀ j : Int, 0 ≤ j → j < 120 → v j = wet s L j := by
  obtain ⟨h1, h2, h3, h4, h5⟩ := h
  have hz : z = 0 := by
    rcases hx with e | e
    · exact e
    · rcases h1 with e1 | e1
      · exact e1
      · have := h5 e1
        have := sumI_bd h2 (i := 120) (by omega) (by omega)
        omega
  have hcl : clo s L (fun j => 0 ≤ j ∧ j < 120 → v j ≠ 0) := by
    intro c h0 h1 hh ho _ hv
    refine h4 hz c h0 h1 hv hh ?_
    rcases ho with x | ⟨k, k0, k1, kn, x⟩
    · exact Or.inl x
    · have := bsd_rg ⟨h0, h1⟩ k
      exact Or.inr ⟨k, k0, k1, kn, x ⟨by omega, by omega⟩⟩
  intro j a b
  have := h2 j a b
  by_cases hj : v j = 0
  · rw [hj, wet_0]
    intro hw
    exact hw _ hcl ⟨a, b⟩ hj
  · rw [wet_1 (h3 j a b hj)]
    omega
/-- what the water takes -/
def ls (s f : Int → Int) (L c : Int) : Int := min (max (1 + (L - hg s c) / 3 - f c / 2) 0) (s c)
theorem ls_bd {s f : Int → Int} (L : Int) {c : Int} (h : 0 ≤ s c) : 0 ≤ ls s f L c ∧ ls s f L c ≤ s c := by
  unfold ls
  omega
def wsh (s f w : Int → Int) (L i : Int) : Int → Int := fun j => if j < i ∧ w j ≠ 0 then s j - ls s f L j else s j
def wshF (f w : Int → Int) (i : Int) : Int → Int := fun j => if j < i ∧ w j ≠ 0 ∧ 0 < f j then f j - 1 else f j
def wshL (s f w : Int → Int) (L i : Int) : Int := sumI (fun j => if w j ≠ 0 then ls s f L j else 0) i
theorem wsh_at (s f w : Int → Int) (L i : Int) : wsh s f w L i i = s i := if_neg (fun h => absurd h.1 (by omega))
theorem wshF_at (f w : Int → Int) (i : Int) : wshF f w i i = f i := if_neg (fun h => absurd h.1 (by omega))
theorem wsh_bd {s : Int → Int} (f w : Int → Int) (L i : Int) (h : Bd s 120 0 20) : Bd (wsh s f w L i) 120 0 20 := by
  intro j a b
  have h1 := h j a b
  have h2 := ls_bd (f := f) L (c := j) h1.1
  unfold wsh
  split <;> omega
theorem wshF_bd {f : Int → Int} (w : Int → Int) (i : Int) (h : Bd f 120 0 5) : Bd (wshF f w i) 120 0 5 := by
  intro j a b
  have h1 := h j a b
  unfold wshF
  split <;> omega
theorem wsh_s {s f w : Int → Int} {L i x : Int} (hw : w i ≠ 0) (hx : x = ls s f L i) (j : Int) : up (wsh s f w L i) i (wsh s f w L i i - x) j = wsh s f w L (i + 1) j := by
  rw [wsh_at]
  by_cases e : j = i
  · subst e
    rw [up_same]
    unfold wsh
    rw [if_pos ⟨by omega, hw⟩, hx]
  · rw [up_ne e]
    unfold wsh
    by_cases h : j < i ∧ w j ≠ 0
    · rw [if_pos h, if_pos ⟨by omega, h.2⟩]
    · rw [if_neg h, if_neg (fun q => h ⟨by omega, q.2⟩)]
theorem wsh_k {s f w : Int → Int} {L i : Int} (hw : w i = 0) (j : Int) : wsh s f w L i j = wsh s f w L (i + 1) j := by
  unfold wsh
  by_cases h : j < i ∧ w j ≠ 0
  · rw [if_pos h, if_pos ⟨by omega, h.2⟩]
  · rw [if_neg h, if_neg]
    intro q
    by_cases e : j = i
    · subst e; exact q.2 hw
    · exact h ⟨by omega, q.2⟩
theorem wshF_s {f w : Int → Int} {i : Int} (hw : w i ≠ 0) (j : Int) : up (wshF f w i) i (if 0 < wshF f w i i then wshF f w i i - 1 else wshF f w i i) j = wshF f w (i + 1) j := by
  rw [wshF_at]
  by_cases e : j = i
  · subst e
    rw [up_same]
    unfold wshF
    by_cases h : 0 < f j
    · rw [if_pos h, if_pos ⟨by omega, hw, h⟩]
    · rw [if_neg h, if_neg (fun q => h q.2.2)]
  · rw [up_ne e]
    unfold wshF
    by_cases h : j < i ∧ w j ≠ 0 ∧ 0 < f j
    · rw [if_pos h, if_pos ⟨by omega, h.2⟩]
    · rw [if_neg h, if_neg (fun q => h ⟨by omega, q.2⟩)]
theorem wshF_k {f w : Int → Int} {i : Int} (hw : w i = 0) (j : Int) : wshF f w i j = wshF f w (i + 1) j := by
  unfold wshF
  by_cases h : j < i ∧ w j ≠ 0 ∧ 0 < f j
  · rw [if_pos h, if_pos ⟨by omega, h.2⟩]
  · rw [if_neg h, if_neg]
    intro q
    by_cases e : j = i
    · subst e; exact q.2.1 hw
    · exact h ⟨by omega, q.2⟩
theorem wshL_s {s f w : Int → Int} {L i x : Int} (h : 0 ≤ i) (hw : w i ≠ 0) (hx : x = ls s f L i) : wshL s f w L i + x = wshL s f w L (i + 1) := by
  unfold wshL
  rw [sumI_s _ h, if_pos hw, hx]
theorem wshL_k {s f w : Int → Int} {L i : Int} (h : 0 ≤ i) (hw : w i = 0) : wshL s f w L i = wshL s f w L (i + 1) := by
  unfold wshL
  rw [sumI_s _ h, if_neg (fun q => q hw)]
  omega
/-- one cell slides -/
def sld (f : Int → Int) (j : Int) (x : (Int → Int) × Int) : (Int → Int) × Int :=
  if 0 < x.1 j ∧ hg x.1 (low x.1 j) + 4 + f j < hg x.1 j ∧ x.1 (low x.1 j) < 20 then (up (up x.1 j (x.1 j - 1)) (low x.1 j) (up x.1 j (x.1 j - 1) (low x.1 j) + 1), x.2 + 1) else x
/-- a round of slides, its first i cells -/
def rnd (f s : Int → Int) (i : Int) : (Int → Int) × Int := foI (sld f) (s, 0) i
theorem rnd_0 (f s : Int → Int) : rnd f s 0 = (s, 0) := rfl
theorem rnd_s (f s : Int → Int) {i : Int} (h : 0 ≤ i) : rnd f s (i + 1) = sld f i (rnd f s i) := foI_s _ _ h
theorem sld_bd {f : Int → Int} {j : Int} (hj : 0 ≤ j ∧ j < 120) {x : (Int → Int) × Int} (h : Bd x.1 120 0 20) : Bd (sld f j x).1 120 0 20 := by
  unfold sld
  split
  · rename_i hc
    have h1 := h j hj.1 hj.2
    have h2 := low_rg x.1 hj
    have h3 := h _ h2.1 h2.2
    have h4 := low_ne x.1 hj
    refine Bd_up (Bd_up h (by omega)) ?_
    rw [up_ne h4]
    omega
  · exact h
theorem rnd_bd {f s : Int → Int} (h : Bd s 120 0 20) {i : Int} (h0 : 0 ≤ i) (h1 : i ≤ 120) : Bd (rnd f s i).1 120 0 20 := by
  have key : ∀ n : Nat, (n : Int) ≤ 120 → Bd (rnd f s (n : Int)).1 120 0 20 := by
    intro n
    induction n with
    | zero => intro _; exact h
    | succ n ih =>
      intro hn
      have e : ((n + 1 : Nat) : Int) = (n : Int) + 1 := by omega
      rw [e, rnd_s f s (by omega)]
      exact sld_bd ⟨by omega, by omega⟩ (ih (by omega))
  have := key i.toNat (by omega)
  rwa [Int.toNat_of_nonneg h0] at this
theorem rnd_ct (f s : Int → Int) {i : Int} (h0 : 0 ≤ i) : 0 ≤ (rnd f s i).2 ∧ (rnd f s i).2 ≤ i := by
  refine foI_ind (P := fun (i : Int) (x : (Int → Int) × Int) => 0 ≤ x.2 ∧ x.2 ≤ i) ⟨Int.le_refl 0, Int.le_refl 0⟩ (fun j y _ hy => ?_) h0
  unfold sld
  split
  · exact ⟨by show 0 ≤ y.2 + 1; omega, by show y.2 + 1 ≤ j + 1; omega⟩
  · omega
theorem rnd_none (f s : Int → Int) {i : Int} (h0 : 0 ≤ i) : (rnd f s i).2 = 0 → (rnd f s i).1 = s := by
  refine foI_ind (P := fun (i : Int) (x : (Int → Int) × Int) => 0 ≤ x.2 ∧ (x.2 = 0 → x.1 = s)) ⟨Int.le_refl 0, fun _ => rfl⟩ (fun j y _ hy => ?_) h0 |>.2
  unfold sld
  split
  · exact ⟨by show 0 ≤ y.2 + 1; omega, fun e => by have e2 : y.2 + 1 = 0 := e; omega⟩
  · exact hy
/-- rounds of slides -/
def slA (f : Int → Int) : Nat → (Int → Int) → (Int → Int) × Int
  | 0, s => (s, 0)
  | n + 1, s => if (rnd f s 120).2 = 0 then (s, 0) else ((slA f n (rnd f s 120).1).1, (rnd f s 120).2 + (slA f n (rnd f s 120).1).2)
theorem slA_bd {f : Int → Int} : ∀ (n : Nat) {s : Int → Int}, Bd s 120 0 20 → Bd (slA f n s).1 120 0 20 := by
  intro n
  induction n with
  | zero => intro s h; exact h
  | succ n ih =>
    intro s h
    by_cases hz : (rnd f s 120).2 = 0
    · have e : slA f (n + 1) s = (s, 0) := if_pos hz
      rw [e]
      exact h
    · have e : slA f (n + 1) s = ((slA f n (rnd f s 120).1).1, (rnd f s 120).2 + (slA f n (rnd f s 120).1).2) := if_neg hz
      have e1 : (slA f (n + 1) s).1 = (slA f n (rnd f s 120).1).1 := by rw [e]
      rw [e1]
      exact ih (rnd_bd h (by omega) (by omega))
/-- the rounds so far: i rounds gone, z slides in the last one, y in all -/
def slI (f s : Int → Int) (i z y : Int) (v : Int → Int) : Prop :=
  0 ≤ z ∧ Bd v 120 0 20 ∧ (0 < z → slA f 40 s = ((slA f (40 - i).toNat v).1, y + (slA f (40 - i).toNat v).2)) ∧ (z = 0 → slA f 40 s = (v, y))
theorem slI_0 {f s : Int → Int} (h : Bd s 120 0 20) : slI f s 0 1 0 s := ⟨by omega, h, fun _ => by show slA f 40 s = ((slA f 40 s).1, 0 + (slA f 40 s).2); rw [Int.zero_add], fun h => absurd h (by omega)⟩
theorem slI_s {f s : Int → Int} {i z y : Int} {v : Int → Int} (h : slI f s i z y v) (hz : 0 < z) (hi : 0 ≤ i ∧ i < 40) : slI f s (i + 1) (rnd f v 120).2 (y + (rnd f v 120).2) (rnd f v 120).1 := by
  obtain ⟨h1, h2, h3, -⟩ := h
  have hc := rnd_ct f v (i := 120) (by omega)
  have h4 := h3 hz
  have e : (40 - i).toNat = (40 - (i + 1)).toNat + 1 := by omega
  rw [e] at h4
  refine ⟨hc.1, rnd_bd h2 (by omega) (by omega), fun hp => ?_, fun he => ?_⟩
  · have e9 : slA f ((40 - (i + 1)).toNat + 1) v = ((slA f (40 - (i + 1)).toNat (rnd f v 120).1).1, (rnd f v 120).2 + (slA f (40 - (i + 1)).toNat (rnd f v 120).1).2) := if_neg (by omega)
    rw [h4, e9]
    refine Prod.ext rfl ?_
    show y + ((rnd f v 120).2 + _) = y + (rnd f v 120).2 + _
    omega
  · have e9 : slA f ((40 - (i + 1)).toNat + 1) v = (v, 0) := if_pos he
    rw [h4, e9, rnd_none f v (by omega) he, he]
theorem slI_done {f s : Int → Int} {i z y : Int} {v : Int → Int} (h : slI f s i z y v) (hi : i ≤ 40) (hx : z ≤ 0 ∨ 40 ≤ i) : slA f 40 s = (v, y) := by
  obtain ⟨h1, h2, h3, h4⟩ := h
  by_cases hz : z = 0
  · exact h4 hz
  · have e := h3 (by omega)
    have e2 : (40 - i).toNat = 0 := by omega
    rw [e2] at e
    rw [e]
    show (v, y + 0) = (v, y)
    rw [Int.add_zero]
/-- a stick falls: 1 -/
def fal (s w p : Int → Int) (j : Int) : Int := if w j ≠ 0 ∨ hg s j < p j - 1 then 1 else 0
def jO (s w o p : Int → Int) (i : Int) : Int → Int := fun j => if j < i ∧ 0 ≤ o j ∧ fal s w p j = 1 then -1 else o j
def jP (s w o p : Int → Int) (i : Int) : Int → Int := fun j => if j < i ∧ 0 ≤ o j ∧ fal s w p j = 1 then 0 else p j
def jT (s w o p t : Int → Int) (i : Int) : Int → Int := fun x => t x + sumI (fun j => if o j = x ∧ fal s w p j = 0 then 1 + s j / 5 else 0) i
def jF (s w o p : Int → Int) (i : Int) : Int := sumI (fun j => if 0 ≤ o j ∧ fal s w p j = 1 then 1 else 0) i
theorem hg_bd {s : Int → Int} (h : Bd s 120 0 20) {c : Int} (hc : 0 ≤ c ∧ c < 120) : 0 ≤ hg s c ∧ hg s c ≤ 38 := by
  have := h c hc.1 hc.2
  unfold hg
  omega
theorem sld_y {f : Int → Int} {j : Int} {x : (Int → Int) × Int} (h : 0 < x.1 j ∧ hg x.1 (low x.1 j) + 4 + f j < hg x.1 j ∧ x.1 (low x.1 j) < 20) : sld f j x = (up (up x.1 j (x.1 j - 1)) (low x.1 j) (up x.1 j (x.1 j - 1) (low x.1 j) + 1), x.2 + 1) := if_pos h
theorem sld_n {f : Int → Int} {j : Int} {x : (Int → Int) × Int} (h : ¬ (0 < x.1 j ∧ hg x.1 (low x.1 j) + 4 + f j < hg x.1 j ∧ x.1 (low x.1 j) < 20)) : sld f j x = x := if_neg h
theorem rnd_y {f s : Int → Int} {i : Int} (hi : 0 ≤ i) (h : 0 < (rnd f s i).1 i ∧ hg (rnd f s i).1 (low (rnd f s i).1 i) + 4 + f i < hg (rnd f s i).1 i ∧ (rnd f s i).1 (low (rnd f s i).1 i) < 20) : rnd f s (i + 1) = (up (up (rnd f s i).1 i ((rnd f s i).1 i - 1)) (low (rnd f s i).1 i) (up (rnd f s i).1 i ((rnd f s i).1 i - 1) (low (rnd f s i).1 i) + 1), (rnd f s i).2 + 1) := by
  rw [rnd_s f s hi, sld_y h]
theorem rnd_n {f s : Int → Int} {i : Int} (hi : 0 ≤ i) (h : ¬ (0 < (rnd f s i).1 i ∧ hg (rnd f s i).1 (low (rnd f s i).1 i) + 4 + f i < hg (rnd f s i).1 i ∧ (rnd f s i).1 (low (rnd f s i).1 i) < 20)) : rnd f s (i + 1) = rnd f s i := by
  rw [rnd_s f s hi, sld_n h]
theorem jO_n {s w o p : Int → Int} {i : Int} (ho : o i < 0) (j : Int) : jO s w o p i j = jO s w o p (i + 1) j := by
  unfold jO
  by_cases e : j = i
  · subst e; rw [if_neg (fun q => by omega), if_neg (fun q => by omega)]
  · by_cases c : j < i ∧ 0 ≤ o j ∧ fal s w p j = 1
    · rw [if_pos c, if_pos ⟨by omega, c.2⟩]
    · rw [if_neg c, if_neg (fun q => c ⟨by omega, q.2⟩)]
theorem jO_k {s w o p : Int → Int} {i : Int} (hf : fal s w p i = 0) (j : Int) : jO s w o p i j = jO s w o p (i + 1) j := by
  unfold jO
  by_cases e : j = i
  · subst e; rw [if_neg (fun q => by omega), if_neg (fun q => by omega)]
  · by_cases c : j < i ∧ 0 ≤ o j ∧ fal s w p j = 1
    · rw [if_pos c, if_pos ⟨by omega, c.2⟩]
    · rw [if_neg c, if_neg (fun q => c ⟨by omega, q.2⟩)]
theorem jO_y {s w o p : Int → Int} {i : Int} (ho : 0 ≤ o i) (hf : fal s w p i = 1) (j : Int) : up (jO s w o p i) i (-1) j = jO s w o p (i + 1) j := by
  by_cases e : j = i
  · subst e
    rw [up_same]
    unfold jO
    rw [if_pos ⟨by omega, ho, hf⟩]
  · rw [up_ne e]
    unfold jO
    by_cases c : j < i ∧ 0 ≤ o j ∧ fal s w p j = 1
    · rw [if_pos c, if_pos ⟨by omega, c.2⟩]
    · rw [if_neg c, if_neg (fun q => c ⟨by omega, q.2⟩)]
theorem jP_n {s w o p : Int → Int} {i : Int} (ho : o i < 0) (j : Int) : jP s w o p i j = jP s w o p (i + 1) j := by
  unfold jP
  by_cases e : j = i
  · subst e; rw [if_neg (fun q => by omega), if_neg (fun q => by omega)]
  · by_cases c : j < i ∧ 0 ≤ o j ∧ fal s w p j = 1
    · rw [if_pos c, if_pos ⟨by omega, c.2⟩]
    · rw [if_neg c, if_neg (fun q => c ⟨by omega, q.2⟩)]
theorem jP_k {s w o p : Int → Int} {i : Int} (hf : fal s w p i = 0) (j : Int) : jP s w o p i j = jP s w o p (i + 1) j := by
  unfold jP
  by_cases e : j = i
  · subst e; rw [if_neg (fun q => by omega), if_neg (fun q => by omega)]
  · by_cases c : j < i ∧ 0 ≤ o j ∧ fal s w p j = 1
    · rw [if_pos c, if_pos ⟨by omega, c.2⟩]
    · rw [if_neg c, if_neg (fun q => c ⟨by omega, q.2⟩)]
theorem jP_y {s w o p : Int → Int} {i : Int} (ho : 0 ≤ o i) (hf : fal s w p i = 1) (j : Int) : up (jP s w o p i) i 0 j = jP s w o p (i + 1) j := by
  by_cases e : j = i
  · subst e
    rw [up_same]
    unfold jP
    rw [if_pos ⟨by omega, ho, hf⟩]
  · rw [up_ne e]
    unfold jP
    by_cases c : j < i ∧ 0 ≤ o j ∧ fal s w p j = 1
    · rw [if_pos c, if_pos ⟨by omega, c.2⟩]
    · rw [if_neg c, if_neg (fun q => c ⟨by omega, q.2⟩)]
theorem jT_n {s w o p t : Int → Int} {i : Int} (hi : 0 ≤ i) (ho : o i < 0) (j : Int) (hj : 0 ≤ j) : jT s w o p t i j = jT s w o p t (i + 1) j := by
  unfold jT
  rw [sumI_s _ hi, if_neg (fun q => by omega)]
  omega
theorem jT_k {s w o p t : Int → Int} {i : Int} (hi : 0 ≤ i) (hf : fal s w p i = 1) (j : Int) : jT s w o p t i j = jT s w o p t (i + 1) j := by
  unfold jT
  rw [sumI_s _ hi, if_neg (fun q => by omega)]
  omega
theorem jT_y {s w o p t : Int → Int} {i : Int} (hi : 0 ≤ i) (ho : 0 ≤ o i) (hf : fal s w p i = 0) (j : Int) : up (jT s w o p t i) (o i) (jT s w o p t i (o i) + (1 + s i / 5)) j = jT s w o p t (i + 1) j := by
  by_cases e : j = o i
  · subst e
    rw [up_same]
    unfold jT
    rw [sumI_s _ hi, if_pos ⟨rfl, hf⟩]
    omega
  · rw [up_ne e]
    unfold jT
    rw [sumI_s _ hi, if_neg (fun q => e q.1.symm)]
    omega
theorem jF_n {s w o p : Int → Int} {i fa : Int} (hi : 0 ≤ i) (ho : o i < 0) : fa + jF s w o p i = fa + jF s w o p (i + 1) := by
  unfold jF
  rw [sumI_s _ hi, if_neg (fun q => by omega)]
  omega
theorem jF_k {s w o p : Int → Int} {i fa : Int} (hi : 0 ≤ i) (hf : fal s w p i = 0) : fa + jF s w o p i = fa + jF s w o p (i + 1) := by
  unfold jF
  rw [sumI_s _ hi, if_neg (fun q => by omega)]
  omega
theorem jF_y {s w o p : Int → Int} {i fa : Int} (hi : 0 ≤ i) (ho : 0 ≤ o i) (hf : fal s w p i = 1) : fa + jF s w o p i + 1 = fa + jF s w o p (i + 1) := by
  unfold jF
  rw [sumI_s _ hi, if_pos ⟨ho, hf⟩]
  omega
/-- an hour with the level L: what each number is behind it -/
noncomputable def hW1 (s f : Int → Int) (L : Int) : Int → Int := wsh s f (wet s L) L 120
noncomputable def hF (s f : Int → Int) (L : Int) : Int → Int := wshF f (wet s L) 120
noncomputable def hS (s f : Int → Int) (L : Int) : Int → Int := (slA (hF s f L) 40 (hW1 s f L)).1
noncomputable def hSl (s f : Int → Int) (L : Int) : Int := (slA (hF s f L) 40 (hW1 s f L)).2
noncomputable def hO (s f o p : Int → Int) (L : Int) : Int → Int := jO (hS s f L) (wet s L) o p 120
noncomputable def hP (s f o p : Int → Int) (L : Int) : Int → Int := jP (hS s f L) (wet s L) o p 120
noncomputable def hT (s f o p t : Int → Int) (L : Int) : Int → Int := jT (hS s f L) (wet s L) o p t 120
noncomputable def hLo (s f : Int → Int) (L : Int) : Int := wshL s f (wet s L) L 120
noncomputable def hFa (s f o p : Int → Int) (L : Int) : Int := jF (hS s f L) (wet s L) o p 120
