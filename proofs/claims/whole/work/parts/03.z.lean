/-! The walk's own words: whole numbers as Int, a walk's state without its heap -/
def iI (z : Int) : Int32 := Int32.ofInt z
theorem iI_toInt {z : Int} (h : -2147483648 ≤ z ∧ z ≤ 2147483647) : (iI z).toInt = z := by
  unfold iI
  have hs : (Int32.size : Int) = 4294967296 := rfl
  rw [Int32.toInt_ofInt, Int.bmod_eq_of_le] <;> omega
theorem iI_of (x : Int32) : x = iI x.toInt := by
  unfold iI
  exact (Int32.ofInt_toInt x).symm
theorem iI_rg (x : Int32) : -2147483648 ≤ x.toInt ∧ x.toInt ≤ 2147483647 := ⟨Int32.le_toInt x, by have := Int32.toInt_lt x; omega⟩
theorem iI_add (a b : Int) : iI a + iI b = iI (a + b) := (Int32.ofInt_add a b).symm
theorem iI_mul (a b : Int) : iI a * iI b = iI (a * b) := (Int32.ofInt_mul a b).symm
theorem iI_neg (a : Int) : - iI a = iI (-a) := (Int32.ofInt_neg a).symm
theorem iI_sub (a b : Int) : iI a - iI b = iI (a - b) := (Int32.ofInt_sub a b).symm
theorem iI_inj {a b : Int} (ha : -2147483648 ≤ a ∧ a ≤ 2147483647) (hb : -2147483648 ≤ b ∧ b ≤ 2147483647) : iI a = iI b ↔ a = b := ⟨fun h => by rw [← iI_toInt ha, ← iI_toInt hb, h], fun h => by rw [h]⟩
theorem iI_lt {a b : Int} (ha : -2147483648 ≤ a ∧ a ≤ 2147483647) (hb : -2147483648 ≤ b ∧ b ≤ 2147483647) : iI a < iI b ↔ a < b := by
  rw [Int32.lt_iff_toInt_lt, iI_toInt ha, iI_toInt hb]
theorem iI_le {a b : Int} (ha : -2147483648 ≤ a ∧ a ≤ 2147483647) (hb : -2147483648 ≤ b ∧ b ≤ 2147483647) : iI a ≤ iI b ↔ a ≤ b := by
  rw [Int32.le_iff_toInt_le, iI_toInt ha, iI_toInt hb]
theorem iI_0 : iI 0 = 0 := rfl
theorem iI_nI {a : Int} (h : 0 ≤ a) : iI a = nI a.toNat := by
  unfold iI nI
  rw [← Int32.ofInt_eq_ofNat, Int.toNat_of_nonneg h]
theorem iI_cl {a : Int} (h : 0 ≤ a) (h2 : a < 2147483648) : (iI a).toNatClampNeg = a.toNat := by
  show (iI a).toInt.toNat = a.toNat
  rw [iI_toInt ⟨by omega, by omega⟩]
theorem iI_in {a : Int} {N : Nat} (h : 0 ≤ a) (h2 : a < (N : Int)) (hN : N < 2147483648) : vp_in (iI a) N := by
  rw [vp_in_iff, iI_toInt ⟨by omega, by omega⟩]
  exact ⟨h, h2⟩
theorem iI_div {a b : Int} (ha : 0 ≤ a ∧ a ≤ 2147483647) (hb : 0 < b ∧ b ≤ 2147483647) : iI a / iI b = iI (a / b) := by
  have h0 : 0 < b.toNat := by omega
  rw [iI_nI ha.1, iI_nI (by omega : 0 ≤ b), pk_div (by omega) h0 (by omega), iI_nI (Int.ediv_nonneg ha.1 (by omega))]
  congr 1
  apply Int.ofNat.inj
  show ((a.toNat / b.toNat : Nat) : Int) = ((a / b).toNat : Int)
  rw [Int.natCast_ediv, Int.toNat_of_nonneg ha.1, Int.toNat_of_nonneg (by omega : 0 ≤ b), Int.toNat_of_nonneg (Int.ediv_nonneg ha.1 (by omega))]
theorem iI_rem {a b : Int} (ha : 0 ≤ a ∧ a ≤ 2147483647) (hb : 0 < b ∧ b ≤ 2147483647) : iI a - iI a / iI b * iI b = iI (a % b) := by
  rw [iI_div ha hb, iI_mul, iI_sub]
  congr 1
  have := Int.mul_ediv_add_emod a b
  rw [Int.mul_comm] at this
  omega
theorem iI_ne0 {b : Int} (hb : 0 < b ∧ b ≤ 2147483647) : ¬ iI b = 0 := by
  rw [← iI_0, iI_inj (by omega) (by omega)]
  omega
def ia (f : Int → Int) : Nat → Int32 := fun j => iI (f (j : Int))
def up (f : Int → Int) (k v : Int) : Int → Int := fun j => if j = k then v else f j
theorem ia_up (f : Int → Int) {i v : Int} (h : 0 ≤ i) (h2 : i < 2147483648) : upd (ia f) (iI i).toNatClampNeg (iI v) = ia (up f i v) := by
  rw [iI_cl h h2]
  funext j
  unfold upd ia up
  by_cases hj : j = i.toNat
  · have hj2 : (j : Int) = i := by omega
    rw [if_pos hj, if_pos hj2]
  · have hj2 : ¬ (j : Int) = i := by omega
    rw [if_neg hj, if_neg hj2]
theorem ia_at (f : Int → Int) {i : Int} (h : 0 ≤ i) (h2 : i < 2147483648) : ia f (iI i).toNatClampNeg = iI (f i) := by
  rw [iI_cl h h2]
  unfold ia
  rw [Int.toNat_of_nonneg h]
theorem zfm {α β : Type} {is : List α} {f : α → Option β} {ws : List β} (h : is.map f = ws.map some) : is.filterMap f = ws := by
  have : is.filterMap f = (is.map f).filterMap id := by simp [List.filterMap_map]
  rw [this, h]
  simp [List.filterMap_map]
theorem nle {a b : Nat} (h : Nat.ble a b = true) : a ≤ b := Nat.le_of_ble_eq_true h
theorem zfk {α : Type} {x : α} {l l' : List α} (h : l = l') : x :: l = x :: l' := by rw [h]
theorem zlc {i : Nat} {a b : Int} {l l' : List (Nat × Value)} (h : a = b) (hl : l = l') : (i, Value.int (iI a)) :: l = (i, Value.int (iI b)) :: l' := by rw [h, hl]
theorem zfc {a b : Int} {l l' : List Value} (h : a = b) (hl : l = l') : Value.int (iI a) :: l = Value.int (iI b) :: l' := by rw [h, hl]
theorem znb {z : Int} (h : z = 0 ∨ z = 1) : narrow .boolean (.int (iI z)) = .int (iI z) := by
  rcases h with rfl | rfl <;> decide
/-- two cells that hold the same -/
def zE1 (q q' : Nat × va_E) : Prop := q'.1 = q.1 ∧ ∀ (D : va_G) (H : Heap), va_at D vwCl q H → va_at D vwCl q' H
theorem zE1.rf {q : Nat × va_E} : zE1 q q := ⟨rfl, fun _ _ h => h⟩
theorem zE1.arr {a N : Nat} {cA : ClassId} {f f' : Int → Int} (h : ∀ j : Int, 0 ≤ j → j < (N : Int) → f j = f' j) : zE1 (a, .inl (cA, N, .inl (ia f))) (a, .inl (cA, N, .inl (ia f'))) := by
  refine ⟨rfl, fun D H hq => ?_⟩
  have e : vp_cell cA (N, .inl (ia f)) = vp_cell cA (N, .inl (ia f')) := by
    simp only [vp_cell_i, arrV]
    congr 1
    apply congrArg
    funext j
    unfold ia
    rw [h j.val (by omega) (by have := j.isLt; omega)]
  show H[a]? = some (vp_cell cA (N, .inl (ia f')))
  rw [← e]
  exact hq
theorem zE1.arrR {a N : Nat} {cA : ClassId} {f f' : Nat → Int32} (h : ∀ j : Nat, j < N → f j = f' j) : zE1 (a, .inl (cA, N, .inl f)) (a, .inl (cA, N, .inl f')) := by
  refine ⟨rfl, fun D H hq => ?_⟩
  have e : vp_cell cA (N, .inl f) = vp_cell cA (N, .inl f') := by
    simp only [vp_cell_i, arrV]
    congr 1
    apply congrArg
    funext j
    rw [h j.val j.isLt]
  show H[a]? = some (vp_cell cA (N, .inl f'))
  rw [← e]
  exact hq
theorem zE1.obj {a ci : Nat} {fs fs' : List Value} (h : fs = fs') : zE1 (a, .inr (ci, fs)) (a, .inr (ci, fs')) := by
  subst h
  exact zE1.rf
def zEq (ws ws' : va_W) : Prop := (∀ (D : va_G) (H : Heap), va_P D vwCl ws H → va_P D vwCl ws' H) ∧ ws'.map Prod.fst = ws.map Prod.fst
theorem zEq.nil : zEq [] [] := ⟨fun _ _ h => h, rfl⟩
theorem zEq.cons {q q' : Nat × va_E} {ws ws' : va_W} (h : zE1 q q') (t : zEq ws ws') : zEq (q :: ws) (q' :: ws') := by
  refine ⟨fun D H hP => ?_, by simp only [List.map_cons, h.1, t.2]⟩
  intro k x hx
  cases k with
  | zero =>
    simp only [List.getElem?_cons_zero, Option.some.injEq] at hx
    subst hx
    exact h.2 D H (hP 0 q rfl)
  | succ k =>
    have : va_P D vwCl ws H := fun i y hy => hP (i + 1) y (by simpa using hy)
    exact t.1 D H this k x (by simpa using hx)
theorem zEq.P {ws ws' : va_W} (h : zEq ws ws') {D : va_G} {H : Heap} (hP : va_P D vwCl ws H) : va_P D vwCl ws' H := h.1 D H hP
theorem zEq.D {ws ws' : va_W} (h : zEq ws ws') {A : Nat → Prop} (hD : va_D A ws) : va_D A ws' := by
  have key : ∀ (i : Nat) (p : Nat × va_E), ws'[i]? = some p → ∃ q, ws[i]? = some q ∧ q.1 = p.1 := by
    intro i p hp
    have h1 : (ws'.map Prod.fst)[i]? = some p.1 := by rw [List.getElem?_map, hp]; rfl
    rw [h.2, List.getElem?_map] at h1
    cases hq : ws[i]? with
    | none => rw [hq] at h1; cases h1
    | some q => rw [hq] at h1; exact ⟨q, rfl, by simpa using h1⟩
  refine ⟨fun i j p q hp hq e => ?_, fun k q hq => ?_⟩
  · obtain ⟨p', hp', ep⟩ := key i p hp
    obtain ⟨q', hq', eq⟩ := key j q hq
    exact hD.1 i j p' q' hp' hq' (by rw [ep, eq, e])
  · obtain ⟨q', hq', eq⟩ := key k q hq
    rw [← eq]
    exact hD.2 k q' hq'
def Bd (f : Int → Int) (N a b : Int) : Prop := ∀ j : Int, 0 ≤ j → j < N → a ≤ f j ∧ f j ≤ b
theorem Bd_up {f : Int → Int} {N a b k v : Int} (h : Bd f N a b) (hv : a ≤ v ∧ v ≤ b) : Bd (up f k v) N a b := by
  intro j h0 h1
  by_cases e : j = k
  · have e2 : up f k v j = v := if_pos e
    rw [e2]
    exact hv
  · have e2 : up f k v j = f j := if_neg e
    rw [e2]
    exact h j h0 h1
theorem up_same (f : Int → Int) (k v : Int) : up f k v k = v := if_pos rfl
theorem up_ne {f : Int → Int} {k v j : Int} (h : ¬ j = k) : up f k v j = f j := if_neg h
theorem iI_min {a b : Int} (ha : -2147483648 ≤ a ∧ a ≤ 2147483647) (hb : -2147483648 ≤ b ∧ b ≤ 2147483647) : (if iI b < iI a then iI b else iI a) = iI (min a b) := by
  by_cases h : b < a
  · rw [if_pos ((iI_lt hb ha).mpr h), Int.min_eq_right (by omega)]
  · rw [if_neg (fun x => h ((iI_lt hb ha).mp x)), Int.min_eq_left (by omega)]
theorem zEq.rf {ws : va_W} : zEq ws ws := ⟨fun _ _ h => h, rfl⟩
theorem zEq.set {ws : va_W} {q : Nat} {x y : Nat × va_E} (h : zE1 x y) : zEq (ws.set q x) (ws.set q y) := by
  induction ws generalizing q with
  | nil => exact zEq.nil
  | cons z ws ih =>
    cases q with
    | zero => exact zEq.cons h zEq.rf
    | succ q => exact zEq.cons zE1.rf ih
theorem iI_max {a b : Int} (ha : -2147483648 ≤ a ∧ a ≤ 2147483647) (hb : -2147483648 ≤ b ∧ b ≤ 2147483647) : (if iI a < iI b then iI b else iI a) = iI (max a b) := by
  by_cases h : a < b
  · rw [if_pos ((iI_lt ha hb).mpr h), Int.max_eq_right (by omega)]
  · rw [if_neg (fun x => h ((iI_lt ha hb).mp x)), Int.max_eq_left (by omega)]
/-- the kinds of arrays: int, long, boolean, int[] -/
def zT (g : Nat → ClassId) : List (ClassId × FieldType) := [(g 0, .int), (g 1, .long), (g 2, .boolean), (g 3, .array .int)]
abbrev ZE : Type := Program × Launch × Env × Room × State × MethodId × Array Value × List Frame × Method × Code × (State → Prop) × (Nat → Prop) × va_G × (Nat → ClassId) × Nat
/-- the walk's state: world, locals, cells, slots, place, stack, over any heap that holds the world -/
def Z (E : ZE) (ws : va_W) (lv : List (Nat × Value)) (k n pc : Nat) (st : List Value) : Prop :=
  match E with
  | (p, l, e, R, s, m, args, below, meth, c, Q, A, D, _, nL) => ∀ (H : Heap) (locs : List Loc) (ls : Array Slot), va_P D vwCl ws H → va_D A ws → va_S A s.heap H locs → lv_has ls nL lv → W p l e R s m args below meth c H locs k n Q (F0 m pc ls st)
/-- what the walk knows all the way -/
def ZC (E : ZE) (cc : ByteArray) (own : String) (Ts : List Cond) (rm : Room) (nL : Nat) (D : va_G) (g : Nat → ClassId) (l : Launch) : Prop :=
  match E with
  | (p, l', _, R, s, m, args, _, _, c, _, A, D', g', nL') => p.tables.exec = Jvm.exec ∧ c.code = cc ∧ c.maxLocals = nL ∧ nL' = nL ∧ R = rm ∧ D' = D ∧ g' = g ∧ l' = l ∧ s.vm.findClass own = some m.cls ∧ (∀ w ∈ Ts, w.before args s = true) ∧ va_K D vwCl (zT g) s ∧ (∀ q, s.heap.size ≤ q → A q)
section ZR
variable {E : ZE} {cc : ByteArray} {own : String} {Ts : List Cond} {rm : Room} {nL : Nat} {D : va_G} {g : Nat → ClassId} {l : Launch} {ws ws' : va_W} {lv lv' : List (Nat × Value)} {k n pc : Nat} {st : List Value}
theorem z_iconst (q : Nat) (hC : ZC E cc own Ts rm nL D g l) {a : Int} (d : decode cc pc = .ok (.iconst a, 1)) (hq : pc + 1 = q)  (kk : Z E ws lv k n q (.int (iI a) :: st)) : Z E ws lv k n pc (st) := by
  subst hq
  obtain ⟨p, l', e, R, s, m, args, below, meth, c, Q, A, D', g', nL'⟩ := E
  obtain ⟨hx, hb, hml, rfl, rfl, rfl, rfl, rfl, hown, hts, hK, hA⟩ := hC
  intro H locs ls hP hD hS hl
  exact lv_iconst hx hb d rfl (kk H locs ls hP hD hS hl)
theorem z_bipush (q : Nat) (hC : ZC E cc own Ts rm nL D g l) {a : Int} (d : decode cc pc = .ok (.bipush a, 2)) (hv : (Int8.ofInt a).toInt32 = iI a) (hq : pc + 2 = q) (kk : Z E ws lv k n q (.int (iI a) :: st)) : Z E ws lv k n pc (st) := by
  subst hq
  obtain ⟨p, l', e, R, s, m, args, below, meth, c, Q, A, D', g', nL'⟩ := E
  obtain ⟨hx, hb, hml, rfl, rfl, rfl, rfl, rfl, hown, hts, hK, hA⟩ := hC
  intro H locs ls hP hD hS hl
  exact lv_bipush hx hb d hv (kk H locs ls hP hD hS hl)
theorem z_iloadn (q : Nat) (hC : ZC E cc own Ts rm nL D g l) (t : Nat) {kf : Fin 4} {i : Nat} {x : Int32} (d : decode cc pc = .ok (.iload_n kf, 1)) (hq : pc + 1 = q) (hi : (kf : Nat) = i) (hk : lv[t]? = some (i, .int x)) (kk : Z E ws lv k n q (.int x :: st)) : Z E ws lv k n pc (st) := by
  subst hq
  obtain ⟨p, l', e, R, s, m, args, below, meth, c, Q, A, D', g', nL'⟩ := E
  obtain ⟨hx, hb, hml, rfl, rfl, rfl, rfl, rfl, hown, hts, hK, hA⟩ := hC
  intro H locs ls hP hD hS hl
  exact lv_iload_n hx hb d hi (lv_at hl t hk) (kk H locs ls hP hD hS hl)
theorem z_iload (q : Nat) (hC : ZC E cc own Ts rm nL D g l) (t : Nat) {i : Nat} {x : Int32} (d : decode cc pc = .ok (.iload i, 2)) (hq : pc + 2 = q) (hk : lv[t]? = some (i, .int x)) (kk : Z E ws lv k n q (.int x :: st)) : Z E ws lv k n pc (st) := by
  subst hq
  obtain ⟨p, l', e, R, s, m, args, below, meth, c, Q, A, D', g', nL'⟩ := E
  obtain ⟨hx, hb, hml, rfl, rfl, rfl, rfl, rfl, hown, hts, hK, hA⟩ := hC
  intro H locs ls hP hD hS hl
  exact lv_iload hx hb d (lv_at hl t hk) (kk H locs ls hP hD hS hl)
theorem z_aloadn (q : Nat) (hC : ZC E cc own Ts rm nL D g l) (t : Nat) {kf : Fin 4} {i x : Nat} (d : decode cc pc = .ok (.aload_n kf, 1)) (hq : pc + 1 = q) (hi : (kf : Nat) = i) (hk : lv[t]? = some (i, .ref x)) (kk : Z E ws lv k n q (.ref x :: st)) : Z E ws lv k n pc (st) := by
  subst hq
  obtain ⟨p, l', e, R, s, m, args, below, meth, c, Q, A, D', g', nL'⟩ := E
  obtain ⟨hx, hb, hml, rfl, rfl, rfl, rfl, rfl, hown, hts, hK, hA⟩ := hC
  intro H locs ls hP hD hS hl
  exact lv_aload_n hx hb d hi (lv_at hl t hk) (kk H locs ls hP hD hS hl)
theorem z_aload (q : Nat) (hC : ZC E cc own Ts rm nL D g l) (t : Nat) {i x : Nat} (d : decode cc pc = .ok (.aload i, 2)) (hq : pc + 2 = q) (hk : lv[t]? = some (i, .ref x)) (kk : Z E ws lv k n q (.ref x :: st)) : Z E ws lv k n pc (st) := by
  subst hq
  obtain ⟨p, l', e, R, s, m, args, below, meth, c, Q, A, D', g', nL'⟩ := E
  obtain ⟨hx, hb, hml, rfl, rfl, rfl, rfl, rfl, hown, hts, hK, hA⟩ := hC
  intro H locs ls hP hD hS hl
  exact lv_aload hx hb d (lv_at hl t hk) (kk H locs ls hP hD hS hl)
theorem z_lloadn (q : Nat) (hC : ZC E cc own Ts rm nL D g l) (t : Nat) {kf : Fin 4} {i : Nat} {x : Int64} (d : decode cc pc = .ok (.lload_n kf, 1)) (hq : pc + 1 = q) (hi : (kf : Nat) = i) (hk : lv[t]? = some (i, .long x)) (kk : Z E ws lv k n q (.long x :: st)) : Z E ws lv k n pc (st) := by
  subst hq
  obtain ⟨p, l', e, R, s, m, args, below, meth, c, Q, A, D', g', nL'⟩ := E
  obtain ⟨hx, hb, hml, rfl, rfl, rfl, rfl, rfl, hown, hts, hK, hA⟩ := hC
  intro H locs ls hP hD hS hl
  exact lv_lload_n hx hb d hi (lv_at hl t hk) (kk H locs ls hP hD hS hl)
theorem z_istoren (q : Nat) (hC : ZC E cc own Ts rm nL D g l) {kf : Fin 4} {i : Nat} {x : Int32} (d : decode cc pc = .ok (.istore_n kf, 1)) (hq : pc + 1 = q) (hi : (kf : Nat) = i) (hn : i < nL) (hl9 : (i, Value.int x) :: lv.filter (fun q => !(q.1 == i) && !(q.1 + 1 == i && q.2.category == 2)) = lv') (kk : Z E ws lv' k n q st) : Z E ws lv k n pc (.int x :: st) := by
  subst hq
  obtain ⟨p, l', e, R, s, m, args, below, meth, c, Q, A, D', g', nL'⟩ := E
  obtain ⟨hx, hb, hml, rfl, rfl, rfl, rfl, rfl, hown, hts, hK, hA⟩ := hC
  intro H locs ls hP hD hS hl
  exact lv_istore_n hx hb d hi hl hn hl9 (fun ls hl => kk H locs ls hP hD hS hl)
theorem z_istore (q : Nat) (hC : ZC E cc own Ts rm nL D g l) {i : Nat} {x : Int32} (d : decode cc pc = .ok (.istore i, 2)) (hq : pc + 2 = q) (hn : i < nL) (hl9 : (i, Value.int x) :: lv.filter (fun q => !(q.1 == i) && !(q.1 + 1 == i && q.2.category == 2)) = lv') (kk : Z E ws lv' k n q st) : Z E ws lv k n pc (.int x :: st) := by
  subst hq
  obtain ⟨p, l', e, R, s, m, args, below, meth, c, Q, A, D', g', nL'⟩ := E
  obtain ⟨hx, hb, hml, rfl, rfl, rfl, rfl, rfl, hown, hts, hK, hA⟩ := hC
  intro H locs ls hP hD hS hl
  exact lv_istore hx hb d hl hn hl9 (fun ls hl => kk H locs ls hP hD hS hl)
theorem z_astoren (q : Nat) (hC : ZC E cc own Ts rm nL D g l) {kf : Fin 4} {i x : Nat} (d : decode cc pc = .ok (.astore_n kf, 1)) (hq : pc + 1 = q) (hi : (kf : Nat) = i) (hn : i < nL) (hl9 : (i, Value.ref x) :: lv.filter (fun q => !(q.1 == i) && !(q.1 + 1 == i && q.2.category == 2)) = lv') (kk : Z E ws lv' k n q st) : Z E ws lv k n pc (.ref x :: st) := by
  subst hq
  obtain ⟨p, l', e, R, s, m, args, below, meth, c, Q, A, D', g', nL'⟩ := E
  obtain ⟨hx, hb, hml, rfl, rfl, rfl, rfl, rfl, hown, hts, hK, hA⟩ := hC
  intro H locs ls hP hD hS hl
  exact lv_astore_n hx hb d hi hl hn hl9 (fun ls hl => kk H locs ls hP hD hS hl)
theorem z_astore (q : Nat) (hC : ZC E cc own Ts rm nL D g l) {i x : Nat} (d : decode cc pc = .ok (.astore i, 2)) (hq : pc + 2 = q) (hn : i < nL) (hl9 : (i, Value.ref x) :: lv.filter (fun q => !(q.1 == i) && !(q.1 + 1 == i && q.2.category == 2)) = lv') (kk : Z E ws lv' k n q st) : Z E ws lv k n pc (.ref x :: st) := by
  subst hq
  obtain ⟨p, l', e, R, s, m, args, below, meth, c, Q, A, D', g', nL'⟩ := E
  obtain ⟨hx, hb, hml, rfl, rfl, rfl, rfl, rfl, hown, hts, hK, hA⟩ := hC
  intro H locs ls hP hD hS hl
  exact lv_astore hx hb d hl hn hl9 (fun ls hl => kk H locs ls hP hD hS hl)
theorem z_lstoren (q : Nat) (hC : ZC E cc own Ts rm nL D g l) {kf : Fin 4} {i : Nat} {x : Int64} (d : decode cc pc = .ok (.lstore_n kf, 1)) (hq : pc + 1 = q) (hi : (kf : Nat) = i) (hn : i + 1 < nL) (hl9 : (i, Value.long x) :: lv.filter (fun q => !(q.1 == i) && (!(q.1 == i + 1) && !(q.1 + 1 == i && q.2.category == 2))) = lv') (kk : Z E ws lv' k n q st) : Z E ws lv k n pc (.long x :: st) := by
  subst hq
  obtain ⟨p, l', e, R, s, m, args, below, meth, c, Q, A, D', g', nL'⟩ := E
  obtain ⟨hx, hb, hml, rfl, rfl, rfl, rfl, rfl, hown, hts, hK, hA⟩ := hC
  intro H locs ls hP hD hS hl
  exact lv_lstore_n hx hb d hi hl hn hl9 (fun ls hl => kk H locs ls hP hD hS hl)
theorem z_iinc (q t : Nat) (hC : ZC E cc own Ts rm nL D g l) {i : Nat} {a b : Int} (d : decode cc pc = .ok (.iinc i b, 3)) (hq : pc + 3 = q) (hk : lv[t]? = some (i, .int (iI a))) (hn : i < nL) (hl9 : (i, Value.int (iI (a + b))) :: lv.filter (fun q => !(q.1 == i) && !(q.1 + 1 == i && q.2.category == 2)) = lv') (kk : Z E ws lv' k n q st) : Z E ws lv k n pc st := by
  subst hq
  obtain ⟨p, l', e, R, s, m, args, below, meth, c, Q, A, D', g', nL'⟩ := E
  obtain ⟨hx, hb, hml, rfl, rfl, rfl, rfl, rfl, hown, hts, hK, hA⟩ := hC
  intro H locs ls hP hD hS hl
  exact lv_iinc hx hb d hl hk (iI_add a b) hn hl9 (fun ls hl => kk H locs ls hP hD hS hl)
theorem z_dup (q : Nat) (hC : ZC E cc own Ts rm nL D g l) {v : Value} (d : decode cc pc = .ok (.dup, 1)) (hq : pc + 1 = q) (hv : v.category = 1) (kk : Z E ws lv k n q (v :: v :: st)) : Z E ws lv k n pc (v :: st) := by
  subst hq
  obtain ⟨p, l', e, R, s, m, args, below, meth, c, Q, A, D', g', nL'⟩ := E
  obtain ⟨hx, hb, hml, rfl, rfl, rfl, rfl, rfl, hown, hts, hK, hA⟩ := hC
  intro H locs ls hP hD hS hl
  exact lv_dup hx hb d hv (kk H locs ls hP hD hS hl)
theorem z_pop (q : Nat) (hC : ZC E cc own Ts rm nL D g l) {v : Value} (d : decode cc pc = .ok (.pop, 1)) (hq : pc + 1 = q) (hv : v.category = 1) (kk : Z E ws lv k n q (st)) : Z E ws lv k n pc (v :: st) := by
  subst hq
  obtain ⟨p, l', e, R, s, m, args, below, meth, c, Q, A, D', g', nL'⟩ := E
  obtain ⟨hx, hb, hml, rfl, rfl, rfl, rfl, rfl, hown, hts, hK, hA⟩ := hC
  intro H locs ls hP hD hS hl
  exact lv_pop hx hb d hv (kk H locs ls hP hD hS hl)
theorem z_dup2 (q : Nat) (hC : ZC E cc own Ts rm nL D g l) {v v2 : Value} (d : decode cc pc = .ok (.dup2, 1)) (hq : pc + 1 = q) (hv : v.category = 1) (hv2 : v2.category = 1) (kk : Z E ws lv k n q (v :: v2 :: v :: v2 :: st)) : Z E ws lv k n pc (v :: v2 :: st) := by
  subst hq
  obtain ⟨p, l', e, R, s, m, args, below, meth, c, Q, A, D', g', nL'⟩ := E
  obtain ⟨hx, hb, hml, rfl, rfl, rfl, rfl, rfl, hown, hts, hK, hA⟩ := hC
  intro H locs ls hP hD hS hl
  exact lv_dup2_11 hx hb d hv hv2 (kk H locs ls hP hD hS hl)
theorem z_iadd (q : Nat) (hC : ZC E cc own Ts rm nL D g l) {a b : Int} (d : decode cc pc = .ok (.iadd, 1)) (hq : pc + 1 = q) (kk : Z E ws lv k n q (.int (iI (a + b)) :: st)) : Z E ws lv k n pc (.int (iI b) :: .int (iI a) :: st) := by
  subst hq
  obtain ⟨p, l', e, R, s, m, args, below, meth, c, Q, A, D', g', nL'⟩ := E
  obtain ⟨hx, hb, hml, rfl, rfl, rfl, rfl, rfl, hown, hts, hK, hA⟩ := hC
  intro H locs ls hP hD hS hl
  exact lv_iadd hx hb d (by rw [iI_add]; exact kk H locs ls hP hD hS hl)
theorem z_isub (q : Nat) (hC : ZC E cc own Ts rm nL D g l) {a b : Int} (d : decode cc pc = .ok (.isub, 1)) (hq : pc + 1 = q) (kk : Z E ws lv k n q (.int (iI (a - b)) :: st)) : Z E ws lv k n pc (.int (iI b) :: .int (iI a) :: st) := by
  subst hq
  obtain ⟨p, l', e, R, s, m, args, below, meth, c, Q, A, D', g', nL'⟩ := E
  obtain ⟨hx, hb, hml, rfl, rfl, rfl, rfl, rfl, hown, hts, hK, hA⟩ := hC
  intro H locs ls hP hD hS hl
  exact lv_isub hx hb d (by rw [iI_sub]; exact kk H locs ls hP hD hS hl)
theorem z_imul (q : Nat) (hC : ZC E cc own Ts rm nL D g l) {a b : Int} (d : decode cc pc = .ok (.imul, 1)) (hq : pc + 1 = q) (kk : Z E ws lv k n q (.int (iI (a * b)) :: st)) : Z E ws lv k n pc (.int (iI b) :: .int (iI a) :: st) := by
  subst hq
  obtain ⟨p, l', e, R, s, m, args, below, meth, c, Q, A, D', g', nL'⟩ := E
  obtain ⟨hx, hb, hml, rfl, rfl, rfl, rfl, rfl, hown, hts, hK, hA⟩ := hC
  intro H locs ls hP hD hS hl
  exact lv_imul hx hb d (by rw [iI_mul]; exact kk H locs ls hP hD hS hl)
theorem z_idiv (q : Nat) (hC : ZC E cc own Ts rm nL D g l) {a b : Int} (d : decode cc pc = .ok (.idiv, 1)) (hq : pc + 1 = q) (ha : 0 ≤ a ∧ a ≤ 2147483647) (hb0 : 0 < b ∧ b ≤ 2147483647) (kk : Z E ws lv k n q (.int (iI (a / b)) :: st)) : Z E ws lv k n pc (.int (iI b) :: .int (iI a) :: st) := by
  subst hq
  obtain ⟨p, l', e, R, s, m, args, below, meth, c, Q, A, D', g', nL'⟩ := E
  obtain ⟨hx, hb, hml, rfl, rfl, rfl, rfl, rfl, hown, hts, hK, hA⟩ := hC
  intro H locs ls hP hD hS hl
  exact lv_idiv hx hb d (iI_ne0 hb0) (by rw [iI_div ha hb0]; exact kk H locs ls hP hD hS hl)
theorem z_irem (q : Nat) (hC : ZC E cc own Ts rm nL D g l) {a b : Int} (d : decode cc pc = .ok (.irem, 1)) (hq : pc + 1 = q) (ha : 0 ≤ a ∧ a ≤ 2147483647) (hb0 : 0 < b ∧ b ≤ 2147483647) (kk : Z E ws lv k n q (.int (iI (a % b)) :: st)) : Z E ws lv k n pc (.int (iI b) :: .int (iI a) :: st) := by
  subst hq
  obtain ⟨p, l', e, R, s, m, args, below, meth, c, Q, A, D', g', nL'⟩ := E
  obtain ⟨hx, hb, hml, rfl, rfl, rfl, rfl, rfl, hown, hts, hK, hA⟩ := hC
  intro H locs ls hP hD hS hl
  exact lv_irem hx hb d (iI_ne0 hb0) (by rw [iI_rem ha hb0]; exact kk H locs ls hP hD hS hl)
theorem z_ineg (q : Nat) (hC : ZC E cc own Ts rm nL D g l) {a : Int} (d : decode cc pc = .ok (.ineg, 1)) (hq : pc + 1 = q) (kk : Z E ws lv k n q (.int (iI (-a)) :: st)) : Z E ws lv k n pc (.int (iI a) :: st) := by
  subst hq
  obtain ⟨p, l', e, R, s, m, args, below, meth, c, Q, A, D', g', nL'⟩ := E
  obtain ⟨hx, hb, hml, rfl, rfl, rfl, rfl, rfl, hown, hts, hK, hA⟩ := hC
  intro H locs ls hP hD hS hl
  exact lv_ineg hx hb d (by rw [iI_neg]; exact kk H locs ls hP hD hS hl)
theorem z_goto (t : Nat) (hC : ZC E cc own Ts rm nL D g l) {off : Int} (d : decode cc pc = .ok (.goto off, 3)) (ht : (pc : Int) + off = (t : Int)) (kk : Z E ws lv k n t st) : Z E ws lv k n pc st := by
  obtain ⟨p, l', e, R, s, m, args, below, meth, c, Q, A, D', g', nL'⟩ := E
  obtain ⟨hx, hb, hml, rfl, rfl, rfl, rfl, rfl, hown, hts, hK, hA⟩ := hC
  intro H locs ls hP hD hS hl
  exact lv_goto hx hb d ht (kk H locs ls hP hD hS hl)
theorem z_icmp_eq (t q : Nat) (hC : ZC E cc own Ts rm nL D g l) {a b off : Int} (d : decode cc pc = .ok (.if_icmp .eq off, 3)) (ht : (pc : Int) + off = (t : Int)) (hq : pc + 3 = q) (ha : -2147483648 ≤ a ∧ a ≤ 2147483647) (hb : -2147483648 ≤ b ∧ b ≤ 2147483647) (kt : a = b → Z E ws lv k n t st) (kf : ¬ a = b → Z E ws lv k n q st) : Z E ws lv k n pc (.int (iI b) :: .int (iI a) :: st) := by
  subst hq
  obtain ⟨p, l', e, R, s, m, args, below, meth, c, Q, A, D', g', nL'⟩ := E
  obtain ⟨hx, hb9, hml, rfl, rfl, rfl, rfl, rfl, hown, hts, hK, hA⟩ := hC
  intro H locs ls hP hD hS hl
  exact lv_icmp_eq hx hb9 d ht (fun h => kt ((iI_inj ha hb).mp h) H locs ls hP hD hS hl) (fun h => kf ((not_congr (iI_inj ha hb)).mp h) H locs ls hP hD hS hl)
theorem z_if_eq (t q : Nat) (hC : ZC E cc own Ts rm nL D g l) {a off : Int} (d : decode cc pc = .ok (.ifCond .eq off, 3)) (ht : (pc : Int) + off = (t : Int)) (hq : pc + 3 = q) (ha : -2147483648 ≤ a ∧ a ≤ 2147483647) (kt : a = 0 → Z E ws lv k n t st) (kf : ¬ a = 0 → Z E ws lv k n q st) : Z E ws lv k n pc (.int (iI a) :: st) := by
  subst hq
  obtain ⟨p, l', e, R, s, m, args, below, meth, c, Q, A, D', g', nL'⟩ := E
  obtain ⟨hx, hb, hml, rfl, rfl, rfl, rfl, rfl, hown, hts, hK, hA⟩ := hC
  intro H locs ls hP hD hS hl
  exact lv_if_eq hx hb d ht (fun h => kt ((iI_inj ha (by omega : -2147483648 ≤ (0 : Int) ∧ (0 : Int) ≤ 2147483647)).mp h) H locs ls hP hD hS hl) (fun h => kf ((not_congr (iI_inj ha (by omega : -2147483648 ≤ (0 : Int) ∧ (0 : Int) ≤ 2147483647))).mp h) H locs ls hP hD hS hl)
theorem z_icmp_ne (t q : Nat) (hC : ZC E cc own Ts rm nL D g l) {a b off : Int} (d : decode cc pc = .ok (.if_icmp .ne off, 3)) (ht : (pc : Int) + off = (t : Int)) (hq : pc + 3 = q) (ha : -2147483648 ≤ a ∧ a ≤ 2147483647) (hb : -2147483648 ≤ b ∧ b ≤ 2147483647) (kt : ¬ a = b → Z E ws lv k n t st) (kf : a = b → Z E ws lv k n q st) : Z E ws lv k n pc (.int (iI b) :: .int (iI a) :: st) := by
  subst hq
  obtain ⟨p, l', e, R, s, m, args, below, meth, c, Q, A, D', g', nL'⟩ := E
  obtain ⟨hx, hb9, hml, rfl, rfl, rfl, rfl, rfl, hown, hts, hK, hA⟩ := hC
  intro H locs ls hP hD hS hl
  exact lv_icmp_ne hx hb9 d ht (fun h => kt ((not_congr (iI_inj ha hb)).mp h) H locs ls hP hD hS hl) (fun h => kf ((iI_inj ha hb).mp h) H locs ls hP hD hS hl)
theorem z_if_ne (t q : Nat) (hC : ZC E cc own Ts rm nL D g l) {a off : Int} (d : decode cc pc = .ok (.ifCond .ne off, 3)) (ht : (pc : Int) + off = (t : Int)) (hq : pc + 3 = q) (ha : -2147483648 ≤ a ∧ a ≤ 2147483647) (kt : ¬ a = 0 → Z E ws lv k n t st) (kf : a = 0 → Z E ws lv k n q st) : Z E ws lv k n pc (.int (iI a) :: st) := by
  subst hq
  obtain ⟨p, l', e, R, s, m, args, below, meth, c, Q, A, D', g', nL'⟩ := E
  obtain ⟨hx, hb, hml, rfl, rfl, rfl, rfl, rfl, hown, hts, hK, hA⟩ := hC
  intro H locs ls hP hD hS hl
  exact lv_if_ne hx hb d ht (fun h => kt ((not_congr (iI_inj ha (by omega : -2147483648 ≤ (0 : Int) ∧ (0 : Int) ≤ 2147483647))).mp h) H locs ls hP hD hS hl) (fun h => kf ((iI_inj ha (by omega : -2147483648 ≤ (0 : Int) ∧ (0 : Int) ≤ 2147483647)).mp h) H locs ls hP hD hS hl)
theorem z_icmp_lt (t q : Nat) (hC : ZC E cc own Ts rm nL D g l) {a b off : Int} (d : decode cc pc = .ok (.if_icmp .lt off, 3)) (ht : (pc : Int) + off = (t : Int)) (hq : pc + 3 = q) (ha : -2147483648 ≤ a ∧ a ≤ 2147483647) (hb : -2147483648 ≤ b ∧ b ≤ 2147483647) (kt : a < b → Z E ws lv k n t st) (kf : ¬ a < b → Z E ws lv k n q st) : Z E ws lv k n pc (.int (iI b) :: .int (iI a) :: st) := by
  subst hq
  obtain ⟨p, l', e, R, s, m, args, below, meth, c, Q, A, D', g', nL'⟩ := E
  obtain ⟨hx, hb9, hml, rfl, rfl, rfl, rfl, rfl, hown, hts, hK, hA⟩ := hC
  intro H locs ls hP hD hS hl
  exact lv_icmp_lt hx hb9 d ht (fun h => kt ((iI_lt ha hb).mp h) H locs ls hP hD hS hl) (fun h => kf ((not_congr (iI_lt ha hb)).mp h) H locs ls hP hD hS hl)
theorem z_if_lt (t q : Nat) (hC : ZC E cc own Ts rm nL D g l) {a off : Int} (d : decode cc pc = .ok (.ifCond .lt off, 3)) (ht : (pc : Int) + off = (t : Int)) (hq : pc + 3 = q) (ha : -2147483648 ≤ a ∧ a ≤ 2147483647) (kt : a < 0 → Z E ws lv k n t st) (kf : ¬ a < 0 → Z E ws lv k n q st) : Z E ws lv k n pc (.int (iI a) :: st) := by
  subst hq
  obtain ⟨p, l', e, R, s, m, args, below, meth, c, Q, A, D', g', nL'⟩ := E
  obtain ⟨hx, hb, hml, rfl, rfl, rfl, rfl, rfl, hown, hts, hK, hA⟩ := hC
  intro H locs ls hP hD hS hl
  exact lv_if_lt hx hb d ht (fun h => kt ((iI_lt ha (by omega : -2147483648 ≤ (0 : Int) ∧ (0 : Int) ≤ 2147483647)).mp h) H locs ls hP hD hS hl) (fun h => kf ((not_congr (iI_lt ha (by omega : -2147483648 ≤ (0 : Int) ∧ (0 : Int) ≤ 2147483647))).mp h) H locs ls hP hD hS hl)
theorem z_icmp_ge (t q : Nat) (hC : ZC E cc own Ts rm nL D g l) {a b off : Int} (d : decode cc pc = .ok (.if_icmp .ge off, 3)) (ht : (pc : Int) + off = (t : Int)) (hq : pc + 3 = q) (ha : -2147483648 ≤ a ∧ a ≤ 2147483647) (hb : -2147483648 ≤ b ∧ b ≤ 2147483647) (kt : b ≤ a → Z E ws lv k n t st) (kf : ¬ b ≤ a → Z E ws lv k n q st) : Z E ws lv k n pc (.int (iI b) :: .int (iI a) :: st) := by
  subst hq
  obtain ⟨p, l', e, R, s, m, args, below, meth, c, Q, A, D', g', nL'⟩ := E
  obtain ⟨hx, hb9, hml, rfl, rfl, rfl, rfl, rfl, hown, hts, hK, hA⟩ := hC
  intro H locs ls hP hD hS hl
  exact lv_icmp_ge hx hb9 d ht (fun h => kt ((iI_le hb ha).mp h) H locs ls hP hD hS hl) (fun h => kf ((not_congr (iI_le hb ha)).mp h) H locs ls hP hD hS hl)
theorem z_if_ge (t q : Nat) (hC : ZC E cc own Ts rm nL D g l) {a off : Int} (d : decode cc pc = .ok (.ifCond .ge off, 3)) (ht : (pc : Int) + off = (t : Int)) (hq : pc + 3 = q) (ha : -2147483648 ≤ a ∧ a ≤ 2147483647) (kt : 0 ≤ a → Z E ws lv k n t st) (kf : ¬ 0 ≤ a → Z E ws lv k n q st) : Z E ws lv k n pc (.int (iI a) :: st) := by
  subst hq
  obtain ⟨p, l', e, R, s, m, args, below, meth, c, Q, A, D', g', nL'⟩ := E
  obtain ⟨hx, hb, hml, rfl, rfl, rfl, rfl, rfl, hown, hts, hK, hA⟩ := hC
  intro H locs ls hP hD hS hl
  exact lv_if_ge hx hb d ht (fun h => kt ((iI_le (by omega : -2147483648 ≤ (0 : Int) ∧ (0 : Int) ≤ 2147483647) ha).mp h) H locs ls hP hD hS hl) (fun h => kf ((not_congr (iI_le (by omega : -2147483648 ≤ (0 : Int) ∧ (0 : Int) ≤ 2147483647) ha)).mp h) H locs ls hP hD hS hl)
theorem z_icmp_gt (t q : Nat) (hC : ZC E cc own Ts rm nL D g l) {a b off : Int} (d : decode cc pc = .ok (.if_icmp .gt off, 3)) (ht : (pc : Int) + off = (t : Int)) (hq : pc + 3 = q) (ha : -2147483648 ≤ a ∧ a ≤ 2147483647) (hb : -2147483648 ≤ b ∧ b ≤ 2147483647) (kt : b < a → Z E ws lv k n t st) (kf : ¬ b < a → Z E ws lv k n q st) : Z E ws lv k n pc (.int (iI b) :: .int (iI a) :: st) := by
  subst hq
  obtain ⟨p, l', e, R, s, m, args, below, meth, c, Q, A, D', g', nL'⟩ := E
  obtain ⟨hx, hb9, hml, rfl, rfl, rfl, rfl, rfl, hown, hts, hK, hA⟩ := hC
  intro H locs ls hP hD hS hl
  exact lv_icmp_gt hx hb9 d ht (fun h => kt ((iI_lt hb ha).mp h) H locs ls hP hD hS hl) (fun h => kf ((not_congr (iI_lt hb ha)).mp h) H locs ls hP hD hS hl)
theorem z_if_gt (t q : Nat) (hC : ZC E cc own Ts rm nL D g l) {a off : Int} (d : decode cc pc = .ok (.ifCond .gt off, 3)) (ht : (pc : Int) + off = (t : Int)) (hq : pc + 3 = q) (ha : -2147483648 ≤ a ∧ a ≤ 2147483647) (kt : 0 < a → Z E ws lv k n t st) (kf : ¬ 0 < a → Z E ws lv k n q st) : Z E ws lv k n pc (.int (iI a) :: st) := by
  subst hq
  obtain ⟨p, l', e, R, s, m, args, below, meth, c, Q, A, D', g', nL'⟩ := E
  obtain ⟨hx, hb, hml, rfl, rfl, rfl, rfl, rfl, hown, hts, hK, hA⟩ := hC
  intro H locs ls hP hD hS hl
  exact lv_if_gt hx hb d ht (fun h => kt ((iI_lt (by omega : -2147483648 ≤ (0 : Int) ∧ (0 : Int) ≤ 2147483647) ha).mp h) H locs ls hP hD hS hl) (fun h => kf ((not_congr (iI_lt (by omega : -2147483648 ≤ (0 : Int) ∧ (0 : Int) ≤ 2147483647) ha)).mp h) H locs ls hP hD hS hl)
theorem z_icmp_le (t q : Nat) (hC : ZC E cc own Ts rm nL D g l) {a b off : Int} (d : decode cc pc = .ok (.if_icmp .le off, 3)) (ht : (pc : Int) + off = (t : Int)) (hq : pc + 3 = q) (ha : -2147483648 ≤ a ∧ a ≤ 2147483647) (hb : -2147483648 ≤ b ∧ b ≤ 2147483647) (kt : a ≤ b → Z E ws lv k n t st) (kf : ¬ a ≤ b → Z E ws lv k n q st) : Z E ws lv k n pc (.int (iI b) :: .int (iI a) :: st) := by
  subst hq
  obtain ⟨p, l', e, R, s, m, args, below, meth, c, Q, A, D', g', nL'⟩ := E
  obtain ⟨hx, hb9, hml, rfl, rfl, rfl, rfl, rfl, hown, hts, hK, hA⟩ := hC
  intro H locs ls hP hD hS hl
  exact lv_icmp_le hx hb9 d ht (fun h => kt ((iI_le ha hb).mp h) H locs ls hP hD hS hl) (fun h => kf ((not_congr (iI_le ha hb)).mp h) H locs ls hP hD hS hl)
theorem z_if_le (t q : Nat) (hC : ZC E cc own Ts rm nL D g l) {a off : Int} (d : decode cc pc = .ok (.ifCond .le off, 3)) (ht : (pc : Int) + off = (t : Int)) (hq : pc + 3 = q) (ha : -2147483648 ≤ a ∧ a ≤ 2147483647) (kt : a ≤ 0 → Z E ws lv k n t st) (kf : ¬ a ≤ 0 → Z E ws lv k n q st) : Z E ws lv k n pc (.int (iI a) :: st) := by
  subst hq
  obtain ⟨p, l', e, R, s, m, args, below, meth, c, Q, A, D', g', nL'⟩ := E
  obtain ⟨hx, hb, hml, rfl, rfl, rfl, rfl, rfl, hown, hts, hK, hA⟩ := hC
  intro H locs ls hP hD hS hl
  exact lv_if_le hx hb d ht (fun h => kt ((iI_le ha (by omega : -2147483648 ≤ (0 : Int) ∧ (0 : Int) ≤ 2147483647)).mp h) H locs ls hP hD hS hl) (fun h => kf ((not_congr (iI_le ha (by omega : -2147483648 ≤ (0 : Int) ∧ (0 : Int) ≤ 2147483647))).mp h) H locs ls hP hD hS hl)
theorem z_get (q q0 kf : Nat) (hC : ZC E cc own Ts rm nL D g l) {C : String} {T : u_T} {N ci index a : Nat} {fs : List Value} {v : Value} (hin : ∀ w ∈ u_ws C T N, w ∈ Ts) (hL : Cond.fieldLink own index (T kf).1 (T kf).2.1 (T kf).2.2.1 ∈ Ts) (d : decode cc pc = .ok (.getfield index, 3)) (hq : pc + 3 = q) (he : ws[q0]? = some (a, .inr (ci, fs))) (hc : vwCl[ci]? = some (C, T, N)) (hk : kf < N) (hv : fs[kf]? = some v) (kk : Z E ws lv k n q (v :: st)) : Z E ws lv k n pc (.ref a :: st) := by
  subst hq
  obtain ⟨p, l', e, R, s, m, args, below, meth, c, Q, A, D', g', nL'⟩ := E
  obtain ⟨hx, hb, hml, rfl, rfl, rfl, rfl, rfl, hown, hts, hK, hA⟩ := hC
  intro H locs ls hP hD hS hl
  exact va_get hx hb hts hin hown hK hP q0 he hc kf hk (hts _ hL) (fun _ h9 => h9) hv d (kk H locs ls hP hD hS hl)
theorem z_put (q q0 kf : Nat) (hC : ZC E cc own Ts rm nL D g l) {C : String} {T : u_T} {N ci index a : Nat} {fs : List Value} {v : Value} {ty : FieldType} (ty0 : Nat → FieldType) (hty : ∀ k, k < N → parseFieldDescriptor (T k).2.2.1 = some (ty0 k)) (hnm : ∀ a, a < N → ∀ b, b < N → a ≠ b → (T a).2.1 ≠ (T b).2.1) (hin : ∀ w ∈ u_ws C T N, w ∈ Ts) (hL : Cond.fieldLink own index (T kf).1 (T kf).2.1 (T kf).2.2.1 ∈ Ts) (d : decode cc pc = .ok (.putfield index, 3)) (hq : pc + 3 = q) (he : ws[q0]? = some (a, .inr (ci, fs))) (hc : vwCl[ci]? = some (C, T, N)) (hk : kf < N) (hfin : (T kf).2.2.2 = false) (hd : parseFieldDescriptor (T kf).2.2.1 = some ty) (hn : narrow ty v = v) (hfit : fits ty v = true) (hlen : kf < fs.length) (hw : ws.set q0 (a, .inr (ci, fs.set kf v)) = ws') (kk : Z E ws' lv k n q st) : Z E ws lv k n pc (v :: .ref a :: st) := by
  subst hq; subst hw
  obtain ⟨p, l', e, R, s, m, args, below, meth, c, Q, A, D', g', nL'⟩ := E
  obtain ⟨hx, hb, hml, rfl, rfl, rfl, rfl, rfl, hown, hts, hK, hA⟩ := hC
  intro H locs ls hP hD hS hl
  exact va_put hx hb hts hin ty0 hty hnm hown hK hP hD hS q0 he hc kf hk (hts _ hL) (fun _ h9 => h9) hfin hd hn hfit hlen d (fun H locs hP hD hS => kk H locs ls hP hD hS hl)
theorem z_iald (q q0 : Nat) (hC : ZC E cc own Ts rm nL D g l) {a N : Nat} {f : Int → Int} {i : Int} (d : decode cc pc = .ok (.iaload, 1)) (hq : pc + 1 = q) (he : ws[q0]? = some (a, .inl (g 0, N, .inl (ia f)))) (hN : N < 2147483648) (hi : 0 ≤ i ∧ i < (N : Int)) (kk : Z E ws lv k n q (.int (iI (f i)) :: st)) : Z E ws lv k n pc (.int (iI i) :: .ref a :: st) := by
  subst hq
  obtain ⟨p, l', e, R, s, m, args, below, meth, c, Q, A, D', g', nL'⟩ := E
  obtain ⟨hx, hb, hml, rfl, rfl, rfl, rfl, rfl, hown, hts, hK, hA⟩ := hC
  intro H locs ls hP hD hS hl
  exact va_iald hx hb hK hP q0 0 he rfl (iI_in hi.1 hi.2 hN) d (by rw [ia_at f hi.1 (by omega)]; exact kk H locs ls hP hD hS hl)
theorem z_iast (q q0 : Nat) (hC : ZC E cc own Ts rm nL D g l) {a N : Nat} {f : Int → Int} {i v : Int} (d : decode cc pc = .ok (.iastore, 1)) (hq : pc + 1 = q) (he : ws[q0]? = some (a, .inl (g 0, N, .inl (ia f)))) (hN : N < 2147483648) (hi : 0 ≤ i ∧ i < (N : Int)) (hw : ws.set q0 (a, .inl (g 0, N, .inl (ia (up f i v)))) = ws') (kk : Z E ws' lv k n q st) : Z E ws lv k n pc (.int (iI v) :: .int (iI i) :: .ref a :: st) := by
  subst hq; subst hw
  obtain ⟨p, l', e, R, s, m, args, below, meth, c, Q, A, D', g', nL'⟩ := E
  obtain ⟨hx, hb, hml, rfl, rfl, rfl, rfl, rfl, hown, hts, hK, hA⟩ := hC
  intro H locs ls hP hD hS hl
  exact va_iast hx hb hK hP hD hS q0 0 he rfl (iI_in hi.1 hi.2 hN) d (fun H locs hP hD hS => by rw [ia_up f hi.1 (by omega)] at hP hD; exact kk H locs ls hP hD hS hl)
theorem z_alen (q q0 : Nat) (hC : ZC E cc own Ts rm nL D g l) {a N : Nat} {f : Nat → Int32} (d : decode cc pc = .ok (.arraylength, 1)) (hq : pc + 1 = q) (he : ws[q0]? = some (a, .inl (g 0, N, .inl f))) (hv : Int32.ofNat N = iI (N : Int)) (kk : Z E ws lv k n q (.int (iI (N : Int)) :: st)) : Z E ws lv k n pc (.ref a :: st) := by
  subst hq
  obtain ⟨p, l', e, R, s, m, args, below, meth, c, Q, A, D', g', nL'⟩ := E
  obtain ⟨hx, hb, hml, rfl, rfl, rfl, rfl, rfl, hown, hts, hK, hA⟩ := hC
  intro H locs ls hP hD hS hl
  exact va_alen hx hb hK hP q0 0 he rfl hv d (kk H locs ls hP hD hS hl)
theorem z_mmax (q : Nat) (hC : ZC E cc own Ts rm nL D g l) {a b : Int} {index : Nat} (h1 : Cond.methodLink own index Lib.Math.max.name ∈ Ts) (h2 : Cond.static Lib.Math.max.name ∈ Ts) (h3 : Cond.initialized "java/lang/Math" ∈ Ts) (h4 : Cond.code Lib.Math.max.name Lib.Math.max.code 2 (some .int) ∈ Ts) (hf : 1 ≤ rm.frames) (hlo : (st.map fun v => v.category).sum + 13 ≤ rm.locals) (hk : k ≤ rm.cells) (hn : n ≤ rm.slots) (ha : -2147483648 ≤ a ∧ a ≤ 2147483647) (hb : -2147483648 ≤ b ∧ b ≤ 2147483647) (d : decode cc pc = .ok (.invokestatic index, 3)) (hq : pc + 3 = q) (kk : Z E ws lv k n q (.int (iI (max a b)) :: st)) : Z E ws lv k n pc (.int (iI b) :: .int (iI a) :: st) := by
  subst hq
  obtain ⟨p, l', e, R, s, m, args, below, meth, c, Q, A, D', g', nL'⟩ := E
  obtain ⟨hx, hb9, hml, rfl, rfl, rfl, rfl, rfl, hown, hts, hK, hA⟩ := hC
  intro H locs ls hP hD hS hl
  exact va_mmax hx hb9 (hml.trans hl.1.symm) hown (hts _ h1) (hts _ h2) (hts _ h3) (hts _ h4) hf hlo hk hn d (by rw [iI_max ha hb]; exact kk H locs ls hP hD hS hl)
theorem z_mmin (q : Nat) (hC : ZC E cc own Ts rm nL D g l) {a b : Int} {index : Nat} (h1 : Cond.methodLink own index Lib.Math.min.name ∈ Ts) (h2 : Cond.static Lib.Math.min.name ∈ Ts) (h3 : Cond.initialized "java/lang/Math" ∈ Ts) (h4 : Cond.code Lib.Math.min.name Lib.Math.min.code 2 (some .int) ∈ Ts) (hf : 1 ≤ rm.frames) (hlo : (st.map fun v => v.category).sum + 13 ≤ rm.locals) (hk : k ≤ rm.cells) (hn : n ≤ rm.slots) (ha : -2147483648 ≤ a ∧ a ≤ 2147483647) (hb : -2147483648 ≤ b ∧ b ≤ 2147483647) (d : decode cc pc = .ok (.invokestatic index, 3)) (hq : pc + 3 = q) (kk : Z E ws lv k n q (.int (iI (min a b)) :: st)) : Z E ws lv k n pc (.int (iI b) :: .int (iI a) :: st) := by
  subst hq
  obtain ⟨p, l', e, R, s, m, args, below, meth, c, Q, A, D', g', nL'⟩ := E
  obtain ⟨hx, hb9, hml, rfl, rfl, rfl, rfl, rfl, hown, hts, hK, hA⟩ := hC
  intro H locs ls hP hD hS hl
  exact va_mmin hx hb9 (hml.trans hl.1.symm) hown (hts _ h1) (hts _ h2) (hts _ h3) (hts _ h4) hf hlo hk hn d (by rw [iI_min ha hb]; exact kk H locs ls hP hD hS hl)
theorem z_copy (q q0 q1 : Nat) (hC : ZC E cc own Ts rm nL D g l) {index a0 a N : Nat} {f f' : Int → Int} (h1 : Cond.methodLink own index arraycopyName ∈ Ts) (h2 : Cond.native arraycopyName ∈ Ts) (h3 : Cond.static arraycopyName ∈ Ts) (h4 : Cond.initialized "java/lang/System" ∈ Ts) (hf : 1 ≤ rm.frames) (hlo : (st.map fun v => v.category).sum + (nativeFrameWords "java/lang/System" "arraycopy" 5 + 11) ≤ rm.locals) (d : decode cc pc = .ok (.invokestatic index, 3)) (hq : pc + 3 = q) (he0 : ws[q0]? = some (a0, .inl (g 0, N, .inl (ia f)))) (he1 : ws[q1]? = some (a, .inl (g 0, N, .inl (ia f')))) (hN : N < 2147483648) (hw : ws.set q1 (a, .inl (g 0, N, .inl (ia f))) = ws') (kk : Z E ws' lv k n q st) : Z E ws lv k n pc (.int (iI (N : Int)) :: .int (iI 0) :: .ref a :: .int (iI 0) :: .ref a0 :: st) := by
  subst hq; subst hw
  obtain ⟨p, l', e, R, s, m, args, below, meth, c, Q, A, D', g', nL'⟩ := E
  obtain ⟨hx, hb, hml, rfl, rfl, rfl, rfl, rfl, hown, hts, hK, hA⟩ := hC
  intro H locs ls hP hD hS hl
  have eN : (iI (N : Int)).toNatClampNeg = N := by rw [iI_cl (by omega) (by omega)]; omega
  have e0 : (iI 0).toNatClampNeg = 0 := by rw [iI_cl (by omega) (by omega)]; rfl
  have n0 : ¬ iI (N : Int) < 0 := by rw [← iI_0, iI_lt (by omega) (by omega)]; omega
  have n1 : ¬ iI 0 < 0 := by decide
  refine va_copyi hx hb (hml.trans hl.1.symm) hown (hts _ h1) (hts _ h2) (hts _ h3) (hts _ h4) hK hP hD hS q0 q1 0 0 he0 he1 rfl rfl rfl n1 n1 n0 (by rw [eN, e0]; omega) (by rw [eN, e0]; omega) (fun i hi => rfl) hf hlo d (fun H locs hP hD hS => ?_)
  rw [eN, e0] at hP hD
  have hcell : zE1 (a, .inl (g' 0, N, .inl (va_cpy (ia f) (ia f') 0 0 N))) (a, .inl (g' 0, N, .inl (ia f))) := zE1.arrR (fun j hj => by simp only [va_cpy]; rw [if_pos ⟨Nat.zero_le _, by omega⟩]; congr 1; omega)
  have hset := zEq.set (ws := ws) (q := q1) hcell
  exact kk H locs ls (hset.P hP) (hset.D hD) hS hl
theorem z_tabIn (t j : Nat) (hC : ZC E cc own Ts rm nL D g l) {a dflt lo hi off v : Int} {offs : Array Int} {len : Nat} (d : decode cc pc = .ok (.tableswitch dflt lo hi offs, len)) (hv : a = v) (h1 : -2147483648 ≤ v ∧ v ≤ 2147483647 ∧ lo ≤ v ∧ v ≤ hi) (hj : (v - lo).toNat = j) (ho : offs[j]? = some off) (ht : (pc : Int) + off = (t : Int)) (kk : Z E ws lv k n t st) : Z E ws lv k n pc (.int (iI a) :: st) := by
  subst hv
  obtain ⟨p, l', e, R, s, m, args, below, meth, c, Q, A, D', g', nL'⟩ := E
  obtain ⟨hx, hb, hml, rfl, rfl, rfl, rfl, rfl, hown, hts, hK, hA⟩ := hC
  intro H locs ls hP hD hS hl
  have e : (iI a).toInt = a := iI_toInt ⟨h1.1, h1.2.1⟩
  exact lv_tableIn hx hb d (by rw [e]; omega) (by rw [e]; omega) (by rw [e, hj]; exact ho) ht (kk H locs ls hP hD hS hl)
theorem z_tabOut (t : Nat) (hC : ZC E cc own Ts rm nL D g l) {a dflt lo hi : Int} {offs : Array Int} {len : Nat} (d : decode cc pc = .ok (.tableswitch dflt lo hi offs, len)) (ha : -2147483648 ≤ a ∧ a ≤ 2147483647) (h1 : a < lo ∨ hi < a) (ht : (pc : Int) + dflt = (t : Int)) (kk : Z E ws lv k n t st) : Z E ws lv k n pc (.int (iI a) :: st) := by
  obtain ⟨p, l', e, R, s, m, args, below, meth, c, Q, A, D', g', nL'⟩ := E
  obtain ⟨hx, hb, hml, rfl, rfl, rfl, rfl, rfl, hown, hts, hK, hA⟩ := hC
  intro H locs ls hP hD hS hl
  exact lv_tableOut hx hb d (by rw [iI_toInt ha]; exact h1) ht (kk H locs ls hP hD hS hl)
/-- the locals in another order, fewer -/
theorem z_lv (ps : List Nat) (hE : lv_pick lv ps = lv') (kk : Z E ws lv' k n pc st) : Z E ws lv k n pc st := by
  obtain ⟨p, l', e, R, s, m, args, below, meth, c, Q, A, D', g', nL'⟩ := E
  intro H locs ls hP hD hS hl
  exact kk H locs ls hP hD hS (lv_sub hl ps hE)
/-- room is taken by rounding up -/
theorem z_widen {k2 n2 : Nat} (h1 : k ≤ k2) (h2 : n ≤ n2) (kk : Z E ws lv k2 n2 pc st) : Z E ws lv k n pc st := by
  obtain ⟨p, l', e, R, s, m, args, below, meth, c, Q, A, D', g', nL'⟩ := E
  intro H locs ls hP hD hS hl
  exact W.widen h1 h2 (kk H locs ls hP hD hS hl)
/-- the world in another order, fewer -/
theorem z_sub (ps : List Nat) (hn : va_nd ps = true) (hw : ps.map (fun i => ws[i]?) = ws'.map some) (kk : Z E ws' lv k n pc st) : Z E ws lv k n pc st := by
  obtain ⟨p, l', e, R, s, m, args, below, meth, c, Q, A, D', g', nL'⟩ := E
  intro H locs ls hP hD hS hl
  exact kk H locs ls (hP.sub ps (zfm hw)) (hD.sub ps hn hw) hS hl
theorem z_weq (h : zEq ws ws') (kk : Z E ws' lv k n pc st) : Z E ws lv k n pc st := by
  obtain ⟨p, l', e, R, s, m, args, below, meth, c, Q, A, D', g', nL'⟩ := E
  intro H locs ls hP hD hS hl
  exact kk H locs ls (h.P hP) (h.D hD) hS hl
theorem z_lveq (h : lv = lv') (kk : Z E ws lv' k n pc st) : Z E ws lv k n pc st := by
  subst h
  exact kk
end ZR
