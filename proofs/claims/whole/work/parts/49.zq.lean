/-! arrays of arrays -/
section ZAA
variable {E : ZE} {cc : ByteArray} {own : String} {Ts : List Cond} {rm : Room} {nL : Nat} {D : va_G} {g : Nat → ClassId} {l : Launch} {ws : va_W} {lv lv' : List (Nat × Value)} {k n k2 n2 pc : Nat} {st : List Value}
theorem z_anewA (q : Nat) (hC : ZC E cc own Ts rm nL D g l) (hN : ZNst E) {index N : Nat} {ws' : Nat → va_W} (h1 : Cond.classLink own index "[I" ∈ Ts) (hN2 : N < 134217728) (hk : k + 1 ≤ rm.cells) (hn : n + N ≤ rm.slots) (d : decode cc pc = .ok (.anewarray index, 3)) (hq : pc + 3 = q) (hk2 : k + 1 = k2) (hn2 : n + N = n2) (hw : ∀ x, ws ++ [(x, .inl (g 3, N, .inr (.inr (.inr (.inr (fun _ => none))))))] = ws' x) (kk : ∀ x : Nat, Z E (ws' x) lv k2 n2 q (.ref x :: st)) : Z E ws lv k n pc (.int (iI (N : Int)) :: st) := by
  subst hq; subst hk2; subst hn2
  obtain ⟨p, l', e, R, s, m, args, below, meth, c, Q, A, D', g', nL'⟩ := E
  obtain ⟨hx, hb, hml, rfl, rfl, rfl, rfl, rfl, hown, hts, hK, hA⟩ := hC
  intro H locs ls hP hD hS hl
  have eN : (iI (N : Int)).toNatClampNeg = N := by rw [iI_cl (by omega) (by omega)]; omega
  have n0 : ¬ iI (N : Int) < 0 := by rw [← iI_0, iI_lt (by omega) (by omega)]; omega
  refine W.anewA (t := .int) hx hb hown (hts _ h1) (zAA.use (A := args) hN.2.2) rfl d rfl n0 (by rw [eN]; omega) hk (by rw [eN]; exact hn) fun cA kA comp f1 f2 f3 f4 => ?_
  rw [eN]
  have e2 : s.vm.findClass ("[" ++ (FieldType.array .int).toString) = some (g' 3) := (hK.2 3 _ rfl).2
  have e3 : cA = g' 3 := Option.some.inj (f1.symm.trans e2)
  subst e3
  generalize hH1 : H.push ({ cls := g' 3, slots := Array.replicate N .null, vm := .none } : Cell) = H1
  have e1 : H1[H.size]? = some (arrV (g' 3) N (fun _ => .null)) := by rw [← hH1, Array.getElem?_push_size, ← arrV_new]
  have z1 : H1.size = H.size + 1 := by rw [← hH1, Array.size_push]
  have o1 : ∀ q : Nat, q < H.size → H1[q]? = H[q]? := fun q hq => by rw [← hH1, Array.getElem?_push, if_neg (Nat.ne_of_lt hq)]
  have hk9 : ∀ (k : Nat) (y : Nat × va_E), ws[k]? = some y → H1[y.1]? = H[y.1]? := fun k y hy => o1 y.1 ((hP k y hy).lt)
  have hP1 : va_P D' vwCl (ws ++ [(H.size, .inl (g' 3, N, .inr (.inr (.inr (.inr (fun _ => none))))))]) H1 := (hP.kept hk9).app (fun k y hy => by
    have hz : k < 1 := (List.getElem?_eq_some_iff.mp hy).1
    rw [show k = 0 by omega] at hy
    cases hy
    exact e1)
  have hD1 := hD.push (e := (.inl (g' 3, N, .inr (.inr (.inr (.inr (fun _ => none))))) : va_E)) hP rfl (hA _ hS.1)
  have hS1 : va_S A s.heap H1 locs := ⟨Nat.le_trans hS.1 (by omega), fun y h1 h2 => (o1 y (Nat.lt_of_lt_of_le h1 hS.1)).trans (hS.2.1 y h1 h2), hS.2.2⟩
  rw [hw H.size] at hP1 hD1
  exact kk H.size H1 locs ls hP1 hD1 hS1 hl
theorem z_aldA (q q0 : Nat) (hC : ZC E cc own Ts rm nL D g l) {a N b : Nat} {i : Int} {f : Nat → Option Nat} (he : ws[q0]? = some (a, .inl (g 3, N, .inr (.inr (.inr (.inr f)))))) (hN : N < 2147483648) (hi : 0 ≤ i ∧ i < N) (hv : f i.toNat = some b) (d : decode cc pc = .ok (.aaload, 1)) (hq : pc + 1 = q) (kk : Z E ws lv k n q (.ref b :: st)) : Z E ws lv k n pc (.int (iI i) :: .ref a :: st) := by
  subst hq
  obtain ⟨p, l', e, R, s, m, args, below, meth, c, Q, A, D', g', nL'⟩ := E
  obtain ⟨hx, hb, hml, rfl, rfl, rfl, rfl, rfl, hown, hts, hK, hA⟩ := hC
  intro H locs ls hP hD hS hl
  have eN : (iI i).toNatClampNeg = i.toNat := iI_cl (by omega) (by omega)
  have n0 : ¬ iI i < 0 := by rw [← iI_0, iI_lt (by omega) (by omega)]; omega
  have hlt : i.toNat < N := by omega
  refine W.aald (v := va_rf (f i.toNat)) (ty := .array .int) hx hb (hP q0 _ he) ((hK.2 3 _ rfl).1 N (fun j => va_rf (f j))) rfl (fun q => by cases q) (by show ¬ (iI i < 0 ∨ (arrV _ _ _).slots.size ≤ _); rw [arrV_size, eN]; exact fun h => h.elim n0 (fun h => Nat.not_le.mpr hlt h)) (by rw [eN]; show (arrV _ _ _).slots[_]? = _; rw [arrV_read _ _ hlt]) rfl rfl d ?_
  rw [hv]
  exact kk H locs ls hP hD hS hl
theorem z_astA (q q0 qv : Nat) (hC : ZC E cc own Ts rm nL D g l) (hN : ZNst E) {a v N M : Nat} {i : Int} {f : Nat → Option Nat} {fv : Int → Int} {ws' : va_W} (he : ws[q0]? = some (a, .inl (g 3, N, .inr (.inr (.inr (.inr f)))))) (hv : ws[qv]? = some (v, .inl (g 0, M, .inl (ia fv)))) (hN2 : N < 2147483648) (hi : 0 ≤ i ∧ i < N) (d : decode cc pc = .ok (.aastore, 1)) (hq : pc + 1 = q) (hw : ws.set q0 (a, .inl (g 3, N, .inr (.inr (.inr (.inr (va_up f i.toNat (some v))))))) = ws') (kk : Z E ws' lv k n q st) : Z E ws lv k n pc (.ref v :: .int (iI i) :: .ref a :: st) := by
  subst hq; subst hw
  obtain ⟨p, l', e, R, s, m, args, below, meth, c, Q, A, D', g', nL'⟩ := E
  obtain ⟨hx, hb, hml, rfl, rfl, rfl, rfl, rfl, hown, hts, hK, hA⟩ := hC
  intro H locs ls hP hD hS hl
  have eN : (iI i).toNatClampNeg = i.toNat := iI_cl (by omega) (by omega)
  have n0 : ¬ iI i < 0 := by rw [← iI_0, iI_lt (by omega) (by omega)]; omega
  obtain ⟨comp, cA, kA, f1, -, f2, f3, f4⟩ := arrayOverA_spec (zAA.use (A := args) hN.2.2)
  have e2 : s.vm.findClass ("[" ++ (FieldType.array .int).toString) = some (g' 3) := (hK.2 3 _ rfl).2
  have e3 : cA = g' 3 := Option.some.inj (f4.symm.trans e2)
  have e4 : s.vm.findClass (FieldType.array .int).toString = some (g' 0) := (hK.2 0 _ rfl).2
  have e5 : comp = g' 0 := Option.some.inj (f1.symm.trans e4)
  subst e3; subst e5
  obtain ⟨-, kS, hkS, compS, hkindS⟩ := (hK.2 0 _ rfl).1 0 (fun _ => .null)
  have hlt : i.toNat < N := by omega
  refine W.aast hx hb (hP q0 _ he) (fun q h => by cases h) (fun h => by cases h) f2 f3 rfl hkS ⟨n0, by show _ < (arrV _ _ _).slots.size; rw [arrV_size, eN]; exact hlt⟩ (hP qv _ hv) (fun q h => by cases h) hkS (by show s.vm.assignable (g' 0) (g' 0) = true; show ((g' 0 == g' 0) || _) = true; rw [beq_self_eq_true, Bool.true_or]) rfl rfl d fun H1 e9 z oq => ?_
  rw [eN] at e9
  refine kk H1 _ ls (hP.set hD he ?_ oq) (hD.set he) (hS.put z oq (hD.2 q0 _ he)) hl
  show H1[a]? = some (vp_cell _ _)
  rw [e9]
  rw [vp_cell_q, vp_cell_q, arrV_store]
  congr 2
  funext q
  by_cases hq : q = i.toNat
  · subst hq
    simp [updV, va_up, va_rf]
  · simp [updV, va_up, hq]
end ZAA
