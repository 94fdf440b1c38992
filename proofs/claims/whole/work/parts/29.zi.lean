/-! arrays that are cloned; the first tides -/
abbrev clN : MethodName := ⟨"[I", "clone", "()Ljava/lang/Object;"⟩
abbrev clO : MethodName := ⟨"java/lang/Object", "clone", "()Ljava/lang/Object;"⟩
def ftd (j : Int) : Int := if j = 0 then 2 else if j = 1 then 4 else if j = 2 then 7 else if j = 3 then 9 else if j = 4 then 10 else if j = 5 then 10 else if j = 6 then 9 else if j = 7 then 7 else if j = 8 then 5 else if j = 9 then 3 else if j = 10 then 2 else 1
/-- the static array of the first tides -/
def zTd (A : Nat → Prop) (U : State) (H : Heap) : Prop := ∃ (t : Nat) (cell : Cell), va_Z RX1 "FIRST_TIDES" "[I" (.ref t) A U H ∧ H[t]? = some cell ∧ ¬ A t ∧ U.vm.findClass "[I" = some cell.cls ∧ cell.vm ≠ .unknown ∧ (∀ k, cell.vm ≠ .statics k) ∧ cell.slots.size = 12 ∧ ∀ j : Nat, j < 12 → cell.slots[j]? = some (.int (ia ftd j))
def zTdU (w0 : va_W) (sz : Nat) : State → Prop := fun U => zTd (va_A w0 sz) U U.heap
theorem zTd.same {A : Nat → Prop} {u U : State} {H : Heap} (h : u.vm = U.vm) (hX : zTd A u H) : zTd A U H := by
  obtain ⟨t, cell, h1, h2, h3, h4, h5⟩ := hX
  exact ⟨t, cell, va_Z.moved (by rw [h]; exact Vm.Alike.refl _) h1, h2, h3, by rw [← h]; exact h4, h5⟩
theorem zTd.call {A B : Nat → Prop} {s U : State} {H : Heap} {locs : List Loc} (hW : s.WarmedH U.vm) (hS : va_S A s.heap H locs) (hAB : ∀ q, B q → A q) (hX : zTd A s s.heap) : zTd B U H := by
  obtain ⟨t, cell, h1, h2, h3, h4, h5⟩ := hX
  have ht : t < s.heap.size := (Array.getElem?_eq_some_iff.mp h2).1
  exact ⟨t, cell, va_Z.moved hW.alike ((h1.kept (fun a h1 h2 => hS.2.1 a h1 h2)).narrow hAB), by rw [hS.2.1 t ht h3]; exact h2, fun q => h3 (hAB t q), by rw [hW.alike.findClass]; exact h4, h5⟩
def ZTdt (E : ZE) : Prop := match E with
  | (_, _, _, _, s, _, _, _, _, _, _, A, _, _, _) => zTd A s s.heap
section ZCL
variable {E : ZE} {cc : ByteArray} {own : String} {Ts : List Cond} {rm : Room} {nL : Nat} {D : va_G} {g : Nat → ClassId} {l : Launch} {ws : va_W} {lv lv' : List (Nat × Value)} {k n k2 n2 pc : Nat} {st : List Value}
theorem z_clone (q q0 : Nat) (hC : ZC E cc own Ts rm nL D g l) (hN : ZNst E) {index a N : Nat} {f : Int → Int} {ws' : Nat → va_W} (h1 : Cond.methodLink own index clN ∈ Ts) (h2 : Cond.sameMethod "[I" "java/lang/Object" "clone" "()Ljava/lang/Object;" ∈ Ts) (h3 : Cond.native clO ∈ Ts) (h4 : Cond.instanceMethod clO ∈ Ts) (h5 : Cond.selects "[I" clN clO ∈ Ts) (he : ws[q0]? = some (a, .inl (g 0, N, .inl (ia f)))) (hf : 1 ≤ rm.frames) (hlo : (st.map fun v => v.category).sum + 14 ≤ rm.locals) (hk : k + 1 ≤ rm.cells) (hn : n + N ≤ rm.slots) (d : decode cc pc = .ok (.invokevirtual index, 3)) (hq : pc + 3 = q) (hk2 : k + 1 = k2) (hn2 : n + N = n2) (hw : ∀ x, ws ++ [(x, .inl (g 0, N, .inl (ia f)))] = ws' x) (kk : ∀ x : Nat, Z E (ws' x) lv k2 n2 q (.ref x :: st)) : Z E ws lv k n pc (.ref a :: st) := by
  subst hq; subst hk2; subst hn2
  obtain ⟨p, l', e, R, s, m, args, below, meth, c, Q, A, D', g', nL'⟩ := E
  obtain ⟨hx, hb, hml, rfl, rfl, rfl, rfl, rfl, hown, hts, hK, hA⟩ := hC
  intro H locs ls hP hD hS hl
  have hfit : ∀ (i : Nat) (v : Value), (vp_cell (g' 0) (N, .inl (ia f))).slots[i]? = some v → fits .int v = true := by
    intro i v h
    rw [vp_cell_i] at h
    simp only [arrV, Array.getElem?_ofFn] at h
    split at h
    · cases h; rfl
    · cases h
  refine va_clone hx hb (hml.trans hl.1.symm) hown (hts _ h1) (hts _ h2) (hts _ h3) (hts _ h4) (hts _ h5) (hN.1 _ (by decide +kernel)) hK hP hD hS hA q0 0 he rfl (hK.2 0 _ rfl).2 hfit hf hlo hk hn d (fun x H hK2 hP hD hS => ?_)
  rw [hw x] at hP hD
  exact kk x H locs ls hP hD hS hl
theorem z_castA (q q0 : Nat) (hC : ZC E cc own Ts rm nL D g l) {index a N : Nat} {f : Int → Int} (h1 : Cond.classLink own index "[I" ∈ Ts) (he : ws[q0]? = some (a, .inl (g 0, N, .inl (ia f)))) (d : decode cc pc = .ok (.checkcast index, 3)) (hq : pc + 3 = q) (kk : Z E ws lv k n q (.ref a :: st)) : Z E ws lv k n pc (.ref a :: st) := by
  subst hq
  obtain ⟨p, l', e, R, s, m, args, below, meth, c, Q, A, D', g', nL'⟩ := E
  obtain ⟨hx, hb, hml, rfl, rfl, rfl, rfl, rfl, hown, hts, hK, hA⟩ := hC
  intro H locs ls hP hD hS hl
  exact va_castA hx hb hown (hts _ h1) hP q0 he (hK.2 0 _ rfl).2 d (kk H locs ls hP hD hS hl)
theorem z_tides (q : Nat) (hC : ZC E cc own Ts rm nL D g l) (hN : ZNst E) (hX : ZTdt E) {index ix : Nat} {ws' : Nat → va_W} (h0 : Cond.fieldLink own ix RX1 "FIRST_TIDES" "[I" ∈ Ts) (h1 : Cond.methodLink own index clN ∈ Ts) (h2 : Cond.sameMethod "[I" "java/lang/Object" "clone" "()Ljava/lang/Object;" ∈ Ts) (h3 : Cond.native clO ∈ Ts) (h4 : Cond.instanceMethod clO ∈ Ts) (h5 : Cond.selects "[I" clN clO ∈ Ts) (hf : 1 ≤ rm.frames) (hlo : (st.map fun v => v.category).sum + 14 ≤ rm.locals) (hk : k + 1 ≤ rm.cells) (hn : n + 12 ≤ rm.slots) (d0 : decode cc pc = .ok (.getstatic ix, 3)) (d : decode cc (pc + 3) = .ok (.invokevirtual index, 3)) (hq : pc + 3 + 3 = q) (hk2 : k + 1 = k2) (hn2 : n + 12 = n2) (hw : ∀ x, ws ++ [(x, .inl (g 0, 12, .inl (ia ftd)))] = ws' x) (kk : ∀ x : Nat, Z E (ws' x) lv k2 n2 q (.ref x :: st)) : Z E ws lv k n pc st := by
  subst hq; subst hk2; subst hn2
  obtain ⟨p, l', e, R, s, m, args, below, meth, c, Q, A, D', g', nL'⟩ := E
  obtain ⟨hx, hb, hml, rfl, rfl, rfl, rfl, rfl, hown, hts, hK, hA⟩ := hC
  intro H locs ls hP hD hS hl
  obtain ⟨a, cell, hZ, hcl0, hnA, hfc, hun, hst9, hsz, hel⟩ := hX
  refine va_gets hx hb hZ hS hown (hts _ h0) (fun _ h9 => h9) d0 ?_
  have ha : a < s.heap.size := (Array.getElem?_eq_some_iff.mp hcl0).1
  have hcellH : H[a]? = some cell := by rw [hS.2.1 a ha hnA]; exact hcl0
  have hfc2 : s.vm.findClass "[I" = some (g' 0) := (hK.2 0 _ rfl).2
  have hcls : cell.cls = g' 0 := Option.some.inj (hfc.symm.trans hfc2)
  have hcellE : ({ cls := cell.cls, slots := cell.slots } : Cell) = vp_cell (g' 0) (12, .inl (ia ftd)) := by
    rw [vp_cell_i, hcls]
    simp only [arrV]
    congr 1
    apply Array.ext (by simp [hsz])
    intro i h1 h2
    have h3 := hel i (by omega)
    rw [Array.getElem?_eq_getElem h1] at h3
    simpa using h3
  obtain ⟨c0, t0', f1, f2, f3⟩ := Cond.castable_spec (va_Nw.use (A := args) rfl (hN.1 (Cond.castable "[I" "java/lang/Cloneable") (by decide +kernel)))
  cases hfc.symm.trans f1
  intro T hT X
  have hcellT : T.heap[a]? = some cell := by rw [hT]; exact hcellH
  obtain ⟨-, kA, hkA, comp, hkind⟩ := State.isArrayOf_alike X.warmed.alike ((hK.2 0 _ rfl).1 0 (fun _ => .null))
  obtain ⟨-, kS, hkS, compS, hkindS⟩ := (hK.2 0 _ rfl).1 0 (fun _ => .null)
  obtain ⟨vm', X', st9⟩ := X.cloneArray hx hown (hts _ h1) (hts _ h2) (hts _ h3) (hts _ h4) (hts _ h5) (a := a) (cell := cell) hcellT hst9 hun hfc f2 f3
    (fun i v hv => by
      rw [hcls]
      have hi : i < 12 := by rw [← hsz]; exact (Array.getElem?_eq_some_iff.mp hv).1
      have hv2 := hel i hi
      rw [hv] at hv2
      cases hv2
      have hk' : T.vm.classes[g' 0]? = some kA := hkA
      have hf9 : fits FieldType.int (.int (ia ftd i)) = true := rfl
      simpa [State.fitsSlot, State.slotType?, hk', hkind] using hf9)
    (g := F0 m (pc + 3) ls (.ref a :: st)) rfl (by rw [hml]; exact hl.1) rfl (by rw [hb]; exact d) hf (by show 2 * 0 + _ + 14 ≤ _; omega) hk (by rw [hsz]; exact hn) (hloader := by rw [hcls]; exact Vm.clonesLoader_of_array hkS hkindS)
  rw [hcellE, hsz] at X'
  generalize hH1 : H.push (vp_cell (g' 0) (12, .inl (ia ftd))) = H1
  have e1 : H1[H.size]? = some (vp_cell (g' 0) (12, .inl (ia ftd))) := by rw [← hH1, Array.getElem?_push_size]
  have z1 : H1.size = H.size + 1 := by rw [← hH1, Array.size_push]
  have o1 : ∀ q : Nat, q < H.size → H1[q]? = H[q]? := fun q hq => by rw [← hH1, Array.getElem?_push, if_neg (Nat.ne_of_lt hq)]
  have hk9 : ∀ (k : Nat) (y : Nat × va_E), ws[k]? = some y → H1[y.1]? = H[y.1]? := fun k y hy => o1 y.1 ((hP k y hy).lt)
  have hP1 : va_P D' vwCl (ws ++ [(H.size, .inl (g' 0, 12, .inl (ia ftd)))]) H1 := (hP.kept hk9).app (fun k y hy => by
    have hz : k < 1 := (List.getElem?_eq_some_iff.mp hy).1
    rw [show k = 0 by omega] at hy
    cases hy
    exact e1)
  have hD1 : va_D A (ws ++ [(H.size, .inl (g' 0, 12, .inl (ia ftd)))]) := hD.push hP rfl (hA _ hS.1)
  have hS1 : va_S A s.heap H1 locs := ⟨Nat.le_trans hS.1 (by omega), fun y h1 h2 => (o1 y (Nat.lt_of_lt_of_le h1 hS.1)).trans (hS.2.1 y h1 h2), hS.2.2⟩
  rw [hw H.size] at hP1 hD1
  obtain ⟨t, b1, b2⟩ := kk H.size H1 locs ls hP1 hD1 hS1 hl ((T.setVm vm').pushCell (vp_cell (g' 0) (12, .inl (ia ftd)))) (by rw [← hH1, ← hT]; rfl) X'
  refine ⟨t, st9 t ?_, b2⟩
  rw [hcellE, hT]
  exact b1
end ZCL
def ZTv {S : Type} (l : Launch) (y : MethodName) (wsY : List Cond) (rm : Room) (D : va_G) (g : Nat → ClassId) (av : List Value) (w0 : va_W) (post : S → Prop) (w1 : S → va_W) (mc ms : Nat) : Prop :=
  ∀ sz : Nat, Met l y wsY rm (zPc D g av w0 (zTdU w0 sz) sz) (va_Qv post (zB D g w0 sz w1) (va_A w0 sz)) mc ms (va_A w0 sz)
theorem ZTv.ofI {S : Type} {l : Launch} {y : MethodName} {wsY ws' : List Cond} {rm : Room} {D : va_G} {g : Nat → ClassId} {av : List Value} {w0 : va_W} {post : S → Prop} {w1 : S → va_W} {mc ms : Nat} {own : String} (cc : ByteArray) (maxL : Nat) (lv0 : List (Nat × Value)) (hy : plainName y.cls = true) (hyn : y.name = "<init>") (hw : wsY = Cond.code y cc maxL none :: ws') (hlen : (lg_sl av).length ≤ maxL) (hlv : lv_args 0 av = lv0) (hown : y.cls = own)
    (body : ∀ E : ZE, ZC E cc own wsY rm maxL D g l → ZNst E → ZIn E → ZTdt E → (∀ {pc : Nat} {lv : List (Nat × Value)} (u : S), decode cc pc = .ok (.return_, 1) → post u → Z E (w1 u) lv mc ms pc []) → Z E w0 lv0 0 0 0 []) : ZTv l y wsY rm D g av w0 post w1 mc ms := by
  intro sz
  refine Met.ofW (cc := cc) (maxL := maxL) (ret := none) hy hw ?_
  intro p e s m args below meth c s₁ B hml hv
  obtain ⟨rfl, hsz, hP, hK, hD0, hN, hX⟩ := hv
  subst hsz
  have hin : meth.name = "<init>" := by rw [← hyn]; exact (name_of_methodNamed B.named B.method).1
  have hE := body (p, l, e, (headSpec wsY rm).room, s, m, av.toArray, below, meth, c, MQ below (va_Qv post (zB D g w0 s.heap.size w1) (va_A w0 s.heap.size)) av.toArray s mc ms (va_A w0 s.heap.size), va_A w0 s.heap.size, D, g, maxL) ⟨B.exec, B.bytes, hml, rfl, rfl, rfl, rfl, rfl, by rw [← hown]; exact findClass_of_methodNamed B.named, atoms_spec B.pre, hK, fun q h => Or.inr h⟩ hN hin hX ?_
  · have hl := lv_entry av (n := maxL) hlen
    rw [lg_entry_eq]
    exact hE s.heap [] _ hP hD0.self va_S.rf (by rw [← hlv]; exact hl)
  · intro pc lv u hd hp
    intro H locs ls hP hD hS hl
    exact W.vret B.exec B.bytes B.returns (fun t ht hW => ⟨⟨u, rfl, hp, by rw [ht]; exact hP, va_K.moved hW.alike hK, hD⟩, hS.F ht⟩) hS.2.2 hd B.notSynchronized
theorem zPc_blindT {D : va_G} {g : Nat → ClassId} {av : List Value} {w0 : va_W} {sz : Nat} : FrameBlind (zPc D g av w0 (zTdU w0 sz) sz) := fun a U g9 mk q => by
  obtain ⟨q0, q1, qP, qK, qD, qN, qX⟩ := q
  exact ⟨q0, q1, qP, va_K.moved (u := U) (U := U.calling g9 mk a) (Vm.Alike.refl U.vm) qK, qD, zNs.same (u := U) (U := U.calling g9 mk a) rfl qN, zTd.same (u := U) (U := U.calling g9 mk a) rfl qX⟩
