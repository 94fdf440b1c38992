/-! the numbers of the league -/
abbrev SS : Type := (Int → Int) × (Int → Int) × (Int → Int) × (Int → Int) × (Int → Int) × (Int → Int) × Int × Int × Int
def ssS (S : SS) : Int → Int := S.1
def ssF (S : SS) : Int → Int := S.2.1
def ssW (S : SS) : Int → Int := S.2.2.1
def ssO (S : SS) : Int → Int := S.2.2.2.1
def ssP (S : SS) : Int → Int := S.2.2.2.2.1
def ssT (S : SS) : Int → Int := S.2.2.2.2.2.1
def ssLo (S : SS) : Int := S.2.2.2.2.2.2.1
def ssSl (S : SS) : Int := S.2.2.2.2.2.2.2.1
def ssFa (S : SS) : Int := S.2.2.2.2.2.2.2.2
noncomputable def hourT (L : Int) (S : SS) : SS := (hS (ssS S) (ssF S) L, hF (ssS S) (ssF S) L, wet (ssS S) L, hO (ssS S) (ssF S) (ssO S) (ssP S) L, hP (ssS S) (ssF S) (ssO S) (ssP S) L, hT (ssS S) (ssF S) (ssO S) (ssP S) (ssT S) L, ssLo S + hLo (ssS S) (ssF S) L, hSl (ssS S) (ssF S) L, ssFa S + hFa (ssS S) (ssF S) (ssO S) (ssP S) L)
noncomputable def hrs (td : Int → Int) (hr : Int) (S : SS) (n : Int) : SS := foI (fun j X => hourT (td ((hr + j) % 12)) X) S n
theorem hrs_0 (td : Int → Int) (hr : Int) (S : SS) : hrs td hr S 0 = S := rfl
theorem hrs_s (td : Int → Int) (hr : Int) (S : SS) {i : Int} (h : 0 ≤ i) : hrs td hr S (i + 1) = hourT (td ((hr + i) % 12)) (hrs td hr S i) := foI_s _ _ h
def SB (S : SS) : Prop := Bd (ssS S) 120 0 20 ∧ Bd (ssF S) 120 0 5 ∧ Bd (ssW S) 120 0 1 ∧ Bd (ssO S) 120 (-1) 119 ∧ Bd (ssP S) 120 0 38
theorem hourT_T (L : Int) (S : SS) : ssT (hourT L S) = hT (ssS S) (ssF S) (ssO S) (ssP S) (ssT S) L := by dsimp only [ssT, hourT]
theorem hourT_S (L : Int) (S : SS) : ssS (hourT L S) = hS (ssS S) (ssF S) L := by dsimp only [ssS, hourT]
theorem hourT_F (L : Int) (S : SS) : ssF (hourT L S) = hF (ssS S) (ssF S) L := by dsimp only [ssF, hourT]
theorem hourT_W (L : Int) (S : SS) : ssW (hourT L S) = wet (ssS S) L := by dsimp only [ssW, hourT]
theorem hourT_O (L : Int) (S : SS) : ssO (hourT L S) = hO (ssS S) (ssF S) (ssO S) (ssP S) L := by dsimp only [ssO, hourT]
theorem hourT_P (L : Int) (S : SS) : ssP (hourT L S) = hP (ssS S) (ssF S) (ssO S) (ssP S) L := by dsimp only [ssP, hourT]
theorem jO_bd {s w o p : Int → Int} (i : Int) (h : Bd o 120 (-1) 119) : Bd (jO s w o p i) 120 (-1) 119 := by
  intro j a b
  have := h j a b
  unfold jO
  split <;> omega
theorem jP_bd {s w o p : Int → Int} (i : Int) (h : Bd p 120 0 38) : Bd (jP s w o p i) 120 0 38 := by
  intro j a b
  have := h j a b
  unfold jP
  split <;> omega
theorem hS_bd {s f : Int → Int} (L : Int) (h : Bd s 120 0 20) : Bd (hS s f L) 120 0 20 := by
  unfold hS hW1
  exact slA_bd 40 (wsh_bd f (wet s L) L 120 h)
theorem hourT_bd (L : Int) {S : SS} (h : SB S) : SB (hourT L S) := by
  obtain ⟨hs, hf, hw, ho, hp⟩ := h
  unfold SB
  rw [hourT_S, hourT_F, hourT_W, hourT_O, hourT_P]
  refine ⟨hS_bd L hs, ?_, wet_bd _ L, ?_, ?_⟩
  · unfold hF; exact wshF_bd _ 120 hf
  · unfold hO; exact jO_bd 120 ho
  · unfold hP; exact jP_bd 120 hp
theorem hrs_bd (td : Int → Int) (hr : Int) {S : SS} (h : SB S) {i : Int} (h0 : 0 ≤ i) : SB (hrs td hr S i) :=
  foI_ind (P := fun _ X => SB X) h (fun j X _ hX => hourT_bd _ hX) h0
set_option maxRecDepth 100000 in
/-- the points that an hour brings: at most 600 -/
theorem hourT_pt (L : Int) {S : SS} (h : SB S) {B : Int} (hPT : Bd (ssT S) 120 0 B) : Bd (ssT (hourT L S)) 120 0 (B + 600) := by
  intro j a b
  have h1 := hPT j a b
  have hs : Bd (hS (ssS S) (ssF S) L) 120 0 20 := (hourT_bd L h).1
  have h2 : Bd (fun q => if ssO S q = j ∧ fal (hS (ssS S) (ssF S) L) (wet (ssS S) L) (ssP S) q = 0 then 1 + hS (ssS S) (ssF S) L q / 5 else 0) 120 0 5 := by
    intro q c d
    have := hs q c d
    by_cases c9 : ssO S q = j ∧ fal (hS (ssS S) (ssF S) L) (wet (ssS S) L) (ssP S) q = 0
    · simp only [if_pos c9]; omega
    · simp only [if_neg c9]; omega
  have h3 := sumI_bd h2 (i := 120) (by omega) (by omega)
  rw [hourT_T]
  unfold hT jT
  omega
set_option maxRecDepth 100000 in
theorem hrs_pt (td : Int → Int) (hr : Int) {S : SS} (h : SB S) {B : Int} (hPT : Bd (ssT S) 120 0 B) {i : Int} (h0 : 0 ≤ i) : Bd (ssT (hrs td hr S i)) 120 0 (B + 600 * i) := by
  refine (foI_ind (P := fun (i : Int) (X : SS) => SB X ∧ Bd (ssT X) 120 0 (B + 600 * i)) ⟨h, by rw [Int.mul_zero, Int.add_zero]; exact hPT⟩ (fun j X _ hX => ⟨hourT_bd _ hX.1, ?_⟩) h0).2
  have := hourT_pt (td ((hr + j) % 12)) hX.1 hX.2
  rw [Int.mul_add, Int.mul_one, ← Int.add_assoc]
  exact this
def LI (td bu sr lg : Int → Int) (tm hr : Int) (S : SS) : Prop := Bd td 12 0 30 ∧ Bd bu 4 0 40 ∧ Bd sr 4 0 20 ∧ Bd lg 4 0 1000000 ∧ (0 ≤ tm ∧ tm ≤ 4) ∧ (0 ≤ hr ∧ hr ≤ 1000000) ∧ SB S ∧ Bd (ssT S) 120 0 1000000000
def ahI (lg t : Int → Int) (i k : Int) : Int := if lg k < lg i ∨ (lg i = lg k ∧ (t k < t i ∨ (t i = t k ∧ i < k))) then 1 else 0
def fwI' (t : Int → Int) (k tm : Int) : Int := sumI (fun j => if t j < t k then 1 else 0) tm
def ahN (lg t : Int → Int) (k tm : Int) : Int := sumI (fun j => ahI lg t j k) tm
def ldr (lg t : Int → Int) (tm pl i : Int) : Int := foI (fun j x => if ahN lg t j tm = pl then j else x) 0 i
theorem ldr_s (lg t : Int → Int) (tm pl : Int) {i : Int} (h : 0 ≤ i) : ldr lg t tm pl (i + 1) = if ahN lg t i tm = pl then i else ldr lg t tm pl i := foI_s _ _ h
/-- league points behind a round -/
def lgE (lg t : Int → Int) (tm i : Int) : Int → Int := fun j => if j < i then lg j + fwI' t j tm else lg j
def cV (S : SS) (tm hr en x : Int) : Int := if x = 0 then hr else if x = 1 then tm else if x = 2 then sumI (ssW S) 120 else if x = 3 then sumI (ssS S) 120 else if x = 4 then ssLo S else if x = 5 then ssSl S else if x = 6 then stkS (ssO S) else if x = 7 then ssFa S else en
def asum (f : Int → Int) (k : Int) : Int := sumI (fun j => if j % 12 / 3 = k then f j else 0) 120
def tV (bu sr lg : Int → Int) (S : SS) (k x : Int) : Int := if x = 0 then bu k else if x = 1 then sr k else if x = 2 then ssT S k else if x = 3 then cntS (ssO S) k else if x = 4 then asum (ssS S) k else if x = 5 then gha (ssS S) k 120 else if x = 6 then asum (ssW S) k else lg k
/-- which exception: by the number that the law gives it -/
def xIAS (z : Int) (Ex : String) : Prop := (z = 1 ∧ Ex = zXi) ∨ (z = 2 ∧ Ex = zXa) ∨ (z = 3 ∧ Ex = zXs)
def xAI (z : Int) (Ex : String) : Prop := (z = 1 ∧ Ex = zXa) ∨ (z = 2 ∧ Ex = zXi)
def thrD (tm : Int) (sr : Int → Int) (k x y n : Int) : Int := if ¬ (0 ≤ k ∧ k < tm) then 1 else if ¬ (0 ≤ x ∧ x < 12 ∧ 0 ≤ y ∧ y < 10 ∧ x / 3 = k ∧ 1 ≤ n ∧ n ≤ 5) then 2 else if sr k ≤ 0 then 3 else 0
def thrP (tm : Int) (sr o w : Int → Int) (k x y : Int) : Int := if thrD tm sr k x y 1 ≠ 0 then thrD tm sr k x y 1 else if 3 ≤ cntS o k ∨ o (x + 12 * y) ≠ -1 ∨ w (x + 12 * y) ≠ 0 then 3 else 0
