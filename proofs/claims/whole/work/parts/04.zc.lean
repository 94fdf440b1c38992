/-! contracts of methods and their calls, in the walk's own words -/
def zXi : String := "java/lang/IndexOutOfBoundsException"
def zXa : String := "java/lang/IllegalArgumentException"
def zXs : String := "java/lang/IllegalStateException"
def zNestF : List Cond := [.fieldLinkNest RX1 141 RX0 "lostSand" "I" RX1, .fieldLinkNest RX1 144 RX0 "slides" "I" RX1, .fieldLinkNest RX1 150 RX0 "fallenSticks" "I" RX1]
def zNestM : List Cond := [.methodLinkNest RX1 9 yX0_init RX1, .methodLinkNest RX0 115 yX1_isInArea RX1]
def zCasts : List Cond := [.castable "[I" "java/lang/Cloneable", .castable zXi zXi, .castable zXa zXa, .castable zXs zXs]
def zDecs : List Cond := [.declares (Bundle.initS "java/lang/RuntimeException"), .declares (Bundle.initS "java/lang/Exception"), .declares (Bundle.initS Bundle.tN)]
/-- words that are no list's, but hold all the way -/
def zNest : List Cond := zNestF ++ zNestM ++ zCasts ++ zDecs
def zNcs : List (String × String) := [(zXa, zXi), (zXs, zXi), (zXs, zXa), (zXi, zXa)]
/-- an array class over arrays of ints -/
def zAA (U : State) : Prop := (Cond.arrayOver (.array .int)).before #[] U = true
theorem zAA.of {A : Array Value} {U : State} (h : (Cond.arrayOver (.array .int)).before A U = true) : zAA U := h
theorem zAA.use {A : Array Value} {U : State} (h : zAA U) : (Cond.arrayOver (.array .int)).before A U = true := h
theorem zAA.moved {u U : State} (h : u.vm.Alike U.vm) (hN : zAA u) : zAA U := by
  have h9 : (Cond.arrayOver (.array .int)).before #[] (u.setVm U.vm) = true := by rw [Cond.arrayOver_setVmC h]; exact hN
  exact h9
def zNs (U : State) : Prop := (∀ w ∈ zNest, va_Nw w U) ∧ (∀ q ∈ zNcs, va_Nc q.1 q.2 U) ∧ zAA U
theorem zNs.same {u U : State} (h : u.vm = U.vm) (hN : zNs u) : zNs U := by
  refine ⟨fun w hw => ?_, fun q hq => va_Nc.moved (by rw [h]; exact Vm.Alike.refl _) (hN.2.1 q hq), zAA.moved (by rw [h]; exact Vm.Alike.refl _) hN.2.2⟩
  refine va_Nw.same ?_ h (hN.1 w hw)
  revert w
  decide +kernel
theorem zNs.warm {s U : State} (h : s.WarmedH U.vm) (hN : zNs s) : zNs U := by
  refine ⟨fun w hw => ?_, fun q hq => va_Nc.moved h.alike (hN.2.1 q hq), hN.2.2.moved h.alike⟩
  have hw0 := hN.1 w hw
  simp only [zNest, List.mem_append] at hw
  rcases hw with ((hw | hw) | hw) | hw
  · simp only [zNestF, List.mem_cons, List.not_mem_nil, or_false] at hw
    rcases hw with rfl | rfl | rfl <;> exact va_Nw.warmF h hw0
  · simp only [zNestM, List.mem_cons, List.not_mem_nil, or_false] at hw
    rcases hw with rfl | rfl <;> exact va_Nw.warmM h hw0
  · simp only [zCasts, List.mem_cons, List.not_mem_nil, or_false] at hw
    rcases hw with rfl | rfl | rfl | rfl <;> exact va_Nw.warmC h hw0
  · simp only [zDecs, List.mem_cons, List.not_mem_nil, or_false] at hw
    rcases hw with rfl | rfl | rfl <;> exact va_Nw.warmD h hw0
/-- the start of a contract -/
def zPc (D : va_G) (g : Nat → ClassId) (av : List Value) (w0 : va_W) (X : State → Prop) (sz : Nat) : Array Value → State → Prop := va_Pc av (fun U => U.heap.size = sz ∧ va_P D vwCl w0 U.heap ∧ va_K D vwCl (zT g) U ∧ va_D (fun _ => True) w0 ∧ zNs U ∧ X U)
/-- the world behind it -/
def zB {S : Type} (D : va_G) (g : Nat → ClassId) (w0 : va_W) (sz : Nat) (w1 : S → va_W) : S → State → Prop := fun u t => va_P D vwCl (w1 u) t.heap ∧ va_K D vwCl (zT g) t ∧ va_D (va_A w0 sz) (w1 u)
def zTr (_ : State) : Prop := True
/-- contracts by what is answered: int, nothing, long, double, a reference -/
def ZMi {S : Type} (l : Launch) (y : MethodName) (wsY : List Cond) (rm : Room) (D : va_G) (g : Nat → ClassId) (av : List Value) (w0 : va_W) (post : Int → S → Prop) (w1 : S → va_W) (mc ms : Nat) : Prop :=
  ∀ sz : Nat, Met l y wsY rm (zPc D g av w0 zTr sz) (va_Qi (fun r u => ∃ z, r = iI z ∧ post z u) (zB D g w0 sz w1) (va_A w0 sz)) mc ms (va_A w0 sz)
def ZMv {S : Type} (l : Launch) (y : MethodName) (wsY : List Cond) (rm : Room) (D : va_G) (g : Nat → ClassId) (av : List Value) (w0 : va_W) (post : S → Prop) (w1 : S → va_W) (mc ms : Nat) : Prop :=
  ∀ sz : Nat, Met l y wsY rm (zPc D g av w0 zTr sz) (va_Qv post (zB D g w0 sz w1) (va_A w0 sz)) mc ms (va_A w0 sz)
def ZMl {S : Type} (l : Launch) (y : MethodName) (wsY : List Cond) (rm : Room) (D : va_G) (g : Nat → ClassId) (av : List Value) (w0 : va_W) (post : Int64 → S → Prop) (w1 : S → va_W) (mc ms : Nat) : Prop :=
  ∀ sz : Nat, Met l y wsY rm (zPc D g av w0 zTr sz) (va_Ql post (zB D g w0 sz w1) (va_A w0 sz)) mc ms (va_A w0 sz)
def ZMd {S : Type} (l : Launch) (y : MethodName) (wsY : List Cond) (rm : Room) (D : va_G) (g : Nat → ClassId) (av : List Value) (w0 : va_W) (post : UInt64 → S → Prop) (w1 : S → va_W) (mc ms : Nat) : Prop :=
  ∀ sz : Nat, Met l y wsY rm (zPc D g av w0 zTr sz) (va_Qd post (zB D g w0 sz w1) (va_A w0 sz)) mc ms (va_A w0 sz)
def ZMr {S : Type} (l : Launch) (y : MethodName) (wsY : List Cond) (rm : Room) (D : va_G) (g : Nat → ClassId) (av : List Value) (w0 : va_W) (post : S → Prop) (w1 : S → Nat → va_W) (mc ms : Nat) : Prop :=
  ∀ sz : Nat, Met l y wsY rm (zPc D g av w0 zTr sz) (va_Qr post (fun u a t => zB D g w0 sz (fun u => w1 u a) u t) (va_A w0 sz)) mc ms (va_A w0 sz)
/-- a constructor's frame -/
def ZIn (E : ZE) : Prop := match E with
  | (_, _, _, _, _, _, _, _, meth, _, _, _, _, _, _) => meth.name = "<init>"
def ZNst (E : ZE) : Prop := match E with
  | (_, _, _, _, s, _, _, _, _, _, _, _, _, _, _) => zNs s
section ZGN
variable {E : ZE} {cc : ByteArray} {own : String} {Ts : List Cond} {rm : Room} {nL : Nat} {D : va_G} {g : Nat → ClassId} {l : Launch} {ws : va_W} {lv : List (Nat × Value)} {k n pc : Nat} {st : List Value}
theorem z_getN (q q0 kf : Nat) (hC : ZC E cc own Ts rm nL D g l) (hN : ZNst E) {C host : String} {T : u_T} {N ci index a : Nat} {fs : List Value} {v : Value} (hin : ∀ w ∈ u_ws C T N, w ∈ Ts) (hL : Cond.fieldLinkNest own index (T kf).1 (T kf).2.1 (T kf).2.2.1 host ∈ zNest) (d : decode cc pc = .ok (.getfield index, 3)) (hq : pc + 3 = q) (he : ws[q0]? = some (a, .inr (ci, fs))) (hc : vwCl[ci]? = some (C, T, N)) (hk : kf < N) (hv : fs[kf]? = some v) (kk : Z E ws lv k n q (v :: st)) : Z E ws lv k n pc (.ref a :: st) := by
  subst hq
  obtain ⟨p, l', e, R, s, m, args, below, meth, c, Q, A, D', g', nL'⟩ := E
  obtain ⟨hx, hb, hml, rfl, rfl, rfl, rfl, rfl, hown, hts, hK, hA⟩ := hC
  intro H locs ls hP hD hS hl
  exact va_getN hx hb hts hin hown hK hP q0 he hc kf hk (va_Nw.use rfl (hN.1 _ hL)) (fun _ h9 => h9) hv d (kk H locs ls hP hD hS hl)
end ZGN
theorem ZMi.of {S : Type} {l : Launch} {y : MethodName} {wsY ws' : List Cond} {rm : Room} {D : va_G} {g : Nat → ClassId} {av : List Value} {w0 : va_W} {post : Int → S → Prop} {w1 : S → va_W} {mc ms : Nat} {own : String} (cc : ByteArray) (maxL : Nat) {ty : FieldType} (lv0 : List (Nat × Value)) (hy : plainName y.cls = true) (hw : wsY = Cond.code y cc maxL (some ty) :: ws') (hlen : (lg_sl av).length ≤ maxL) (hlv : lv_args 0 av = lv0) (hown : y.cls = own)
    (body : ∀ E : ZE, ZC E cc own wsY rm maxL D g l → ZNst E → (∀ {pc : Nat} {lv : List (Nat × Value)} {z : Int} (u : S), decode cc pc = .ok (.ireturn, 1) → narrow ty (.int (iI z)) = .int (iI z) → post z u → Z E (w1 u) lv mc ms pc [.int (iI z)]) → Z E w0 lv0 0 0 0 []) : ZMi l y wsY rm D g av w0 post w1 mc ms := by
  intro sz
  refine Met.ofW (cc := cc) (maxL := maxL) (ret := some ty) hy hw ?_
  intro p e s m args below meth c s₁ B hml hv
  obtain ⟨rfl, hsz, hP, hK, hD0, hN, -⟩ := hv
  subst hsz
  have hE := body (p, l, e, (headSpec wsY rm).room, s, m, av.toArray, below, meth, c, MQ below (va_Qi (fun r u => ∃ z, r = iI z ∧ post z u) (zB D g w0 s.heap.size w1) (va_A w0 s.heap.size)) av.toArray s mc ms (va_A w0 s.heap.size), va_A w0 s.heap.size, D, g, maxL) ⟨B.exec, B.bytes, hml, rfl, rfl, rfl, rfl, rfl, by rw [← hown]; exact findClass_of_methodNamed B.named, atoms_spec B.pre, hK, fun q h => Or.inr h⟩ hN ?_
  · have hl := lv_entry av (n := maxL) hlen
    rw [lg_entry_eq]
    exact hE s.heap [] _ hP hD0.self va_S.rf (by rw [← hlv]; exact hl)
  · intro pc lv z u hd hn hp
    intro H locs ls hP hD hS hl
    exact W.zret (v := iI z) B.exec B.bytes B.returns hn (fun t ht hW => ⟨⟨iI z, u, rfl, ⟨z, rfl, hp⟩, ⟨by rw [ht]; exact hP, va_K.moved hW.alike hK, hD⟩⟩, hS.F ht⟩) hS.2.2 hd B.notSynchronized
theorem ZMv.of {S : Type} {l : Launch} {y : MethodName} {wsY ws' : List Cond} {rm : Room} {D : va_G} {g : Nat → ClassId} {av : List Value} {w0 : va_W} {post : S → Prop} {w1 : S → va_W} {mc ms : Nat} {own : String} (cc : ByteArray) (maxL : Nat) {ty : FieldType} (lv0 : List (Nat × Value)) (hy : plainName y.cls = true) (hw : wsY = Cond.code y cc maxL (none) :: ws') (hlen : (lg_sl av).length ≤ maxL) (hlv : lv_args 0 av = lv0) (hown : y.cls = own)
    (body : ∀ E : ZE, ZC E cc own wsY rm maxL D g l → ZNst E → (∀ {pc : Nat} {lv : List (Nat × Value)}  (u : S), decode cc pc = .ok (.return_, 1) → post u → Z E (w1 u) lv mc ms pc []) → Z E w0 lv0 0 0 0 []) : ZMv l y wsY rm D g av w0 post w1 mc ms := by
  intro sz
  refine Met.ofW (cc := cc) (maxL := maxL) (ret := none) hy hw ?_
  intro p e s m args below meth c s₁ B hml hv
  obtain ⟨rfl, hsz, hP, hK, hD0, hN, -⟩ := hv
  subst hsz
  have hE := body (p, l, e, (headSpec wsY rm).room, s, m, av.toArray, below, meth, c, MQ below (va_Qv post (zB D g w0 s.heap.size w1) (va_A w0 s.heap.size)) av.toArray s mc ms (va_A w0 s.heap.size), va_A w0 s.heap.size, D, g, maxL) ⟨B.exec, B.bytes, hml, rfl, rfl, rfl, rfl, rfl, by rw [← hown]; exact findClass_of_methodNamed B.named, atoms_spec B.pre, hK, fun q h => Or.inr h⟩ hN ?_
  · have hl := lv_entry av (n := maxL) hlen
    rw [lg_entry_eq]
    exact hE s.heap [] _ hP hD0.self va_S.rf (by rw [← hlv]; exact hl)
  · intro pc lv u hd hp
    intro H locs ls hP hD hS hl
    exact W.vret B.exec B.bytes B.returns (fun t ht hW => ⟨⟨u, rfl, hp, ⟨by rw [ht]; exact hP, va_K.moved hW.alike hK, hD⟩⟩, hS.F ht⟩) hS.2.2 hd B.notSynchronized
theorem ZMl.of {S : Type} {l : Launch} {y : MethodName} {wsY ws' : List Cond} {rm : Room} {D : va_G} {g : Nat → ClassId} {av : List Value} {w0 : va_W} {post : Int64 → S → Prop} {w1 : S → va_W} {mc ms : Nat} {own : String} (cc : ByteArray) (maxL : Nat) {ty : FieldType} (lv0 : List (Nat × Value)) (hy : plainName y.cls = true) (hw : wsY = Cond.code y cc maxL (some .long) :: ws') (hlen : (lg_sl av).length ≤ maxL) (hlv : lv_args 0 av = lv0) (hown : y.cls = own)
    (body : ∀ E : ZE, ZC E cc own wsY rm maxL D g l → ZNst E → (∀ {pc : Nat} {lv : List (Nat × Value)} {z : Int64} (u : S), decode cc pc = .ok (.lreturn, 1) → post z u → Z E (w1 u) lv mc ms pc [.long z]) → Z E w0 lv0 0 0 0 []) : ZMl l y wsY rm D g av w0 post w1 mc ms := by
  intro sz
  refine Met.ofW (cc := cc) (maxL := maxL) (ret := some .long) hy hw ?_
  intro p e s m args below meth c s₁ B hml hv
  obtain ⟨rfl, hsz, hP, hK, hD0, hN, -⟩ := hv
  subst hsz
  have hE := body (p, l, e, (headSpec wsY rm).room, s, m, av.toArray, below, meth, c, MQ below (va_Ql post (zB D g w0 s.heap.size w1) (va_A w0 s.heap.size)) av.toArray s mc ms (va_A w0 s.heap.size), va_A w0 s.heap.size, D, g, maxL) ⟨B.exec, B.bytes, hml, rfl, rfl, rfl, rfl, rfl, by rw [← hown]; exact findClass_of_methodNamed B.named, atoms_spec B.pre, hK, fun q h => Or.inr h⟩ hN ?_
  · have hl := lv_entry av (n := maxL) hlen
    rw [lg_entry_eq]
    exact hE s.heap [] _ hP hD0.self va_S.rf (by rw [← hlv]; exact hl)
  · intro pc lv z u hd hp
    intro H locs ls hP hD hS hl
    exact W.lret (v := z) B.exec B.bytes B.returns (fun t ht hW => ⟨⟨z, u, rfl, hp, ⟨by rw [ht]; exact hP, va_K.moved hW.alike hK, hD⟩⟩, hS.F ht⟩) hS.2.2 hd B.notSynchronized
theorem ZMd.of {S : Type} {l : Launch} {y : MethodName} {wsY ws' : List Cond} {rm : Room} {D : va_G} {g : Nat → ClassId} {av : List Value} {w0 : va_W} {post : UInt64 → S → Prop} {w1 : S → va_W} {mc ms : Nat} {own : String} (cc : ByteArray) (maxL : Nat) {ty : FieldType} (lv0 : List (Nat × Value)) (hy : plainName y.cls = true) (hw : wsY = Cond.code y cc maxL (some .double) :: ws') (hlen : (lg_sl av).length ≤ maxL) (hlv : lv_args 0 av = lv0) (hown : y.cls = own)
    (body : ∀ E : ZE, ZC E cc own wsY rm maxL D g l → ZNst E → (∀ {pc : Nat} {lv : List (Nat × Value)} {z : UInt64} (u : S), decode cc pc = .ok (.dreturn, 1) → post z u → Z E (w1 u) lv mc ms pc [.double z]) → Z E w0 lv0 0 0 0 []) : ZMd l y wsY rm D g av w0 post w1 mc ms := by
  intro sz
  refine Met.ofW (cc := cc) (maxL := maxL) (ret := some .double) hy hw ?_
  intro p e s m args below meth c s₁ B hml hv
  obtain ⟨rfl, hsz, hP, hK, hD0, hN, -⟩ := hv
  subst hsz
  have hE := body (p, l, e, (headSpec wsY rm).room, s, m, av.toArray, below, meth, c, MQ below (va_Qd post (zB D g w0 s.heap.size w1) (va_A w0 s.heap.size)) av.toArray s mc ms (va_A w0 s.heap.size), va_A w0 s.heap.size, D, g, maxL) ⟨B.exec, B.bytes, hml, rfl, rfl, rfl, rfl, rfl, by rw [← hown]; exact findClass_of_methodNamed B.named, atoms_spec B.pre, hK, fun q h => Or.inr h⟩ hN ?_
  · have hl := lv_entry av (n := maxL) hlen
    rw [lg_entry_eq]
    exact hE s.heap [] _ hP hD0.self va_S.rf (by rw [← hlv]; exact hl)
  · intro pc lv z u hd hp
    intro H locs ls hP hD hS hl
    exact W.dret (v := z) B.exec B.bytes B.returns (fun t ht hW => ⟨⟨z, u, rfl, hp, ⟨by rw [ht]; exact hP, va_K.moved hW.alike hK, hD⟩⟩, hS.F ht⟩) hS.2.2 hd B.notSynchronized
theorem ZMr.of {S : Type} {l : Launch} {y : MethodName} {wsY ws' : List Cond} {rm : Room} {D : va_G} {g : Nat → ClassId} {av : List Value} {w0 : va_W} {post : S → Prop} {w1 : S → Nat → va_W} {mc ms : Nat} {own : String} (cc : ByteArray) (maxL : Nat) {ty : FieldType} (lv0 : List (Nat × Value)) (hy : plainName y.cls = true) (hw : wsY = Cond.code y cc maxL (some (.array ty)) :: ws') (hlen : (lg_sl av).length ≤ maxL) (hlv : lv_args 0 av = lv0) (hown : y.cls = own)
    (body : ∀ E : ZE, ZC E cc own wsY rm maxL D g l → ZNst E → (∀ {pc : Nat} {lv : List (Nat × Value)} {a : Nat} (u : S), decode cc pc = .ok (.areturn, 1) → post u → Z E (w1 u a) lv mc ms pc [.ref a]) → Z E w0 lv0 0 0 0 []) : ZMr l y wsY rm D g av w0 post w1 mc ms := by
  intro sz
  refine Met.ofW (cc := cc) (maxL := maxL) (ret := some (.array ty)) hy hw ?_
  intro p e s m args below meth c s₁ B hml hv
  obtain ⟨rfl, hsz, hP, hK, hD0, hN, -⟩ := hv
  subst hsz
  have hE := body (p, l, e, (headSpec wsY rm).room, s, m, av.toArray, below, meth, c, MQ below (va_Qr post (fun u a t => zB D g w0 s.heap.size (fun u => w1 u a) u t) (va_A w0 s.heap.size)) av.toArray s mc ms (va_A w0 s.heap.size), va_A w0 s.heap.size, D, g, maxL) ⟨B.exec, B.bytes, hml, rfl, rfl, rfl, rfl, rfl, by rw [← hown]; exact findClass_of_methodNamed B.named, atoms_spec B.pre, hK, fun q h => Or.inr h⟩ hN ?_
  · have hl := lv_entry av (n := maxL) hlen
    rw [lg_entry_eq]
    exact hE s.heap [] _ hP hD0.self va_S.rf (by rw [← hlv]; exact hl)
  · intro pc lv a u hd hp
    intro H locs ls hP hD hS hl
    exact W.aret (v := .ref a) B.exec B.bytes B.returns (Or.inr ⟨ty, rfl⟩) (Or.inr ⟨a, rfl⟩) (fun t ht hW => ⟨⟨u, a, rfl, hp, ⟨by rw [ht]; exact hP, va_K.moved hW.alike hK, hD⟩⟩, hS.F ht⟩) hS.2.2 hd B.notSynchronized
theorem ZMv.ofI {S : Type} {l : Launch} {y : MethodName} {wsY ws' : List Cond} {rm : Room} {D : va_G} {g : Nat → ClassId} {av : List Value} {w0 : va_W} {post : S → Prop} {w1 : S → va_W} {mc ms : Nat} {own : String} (cc : ByteArray) (maxL : Nat) (lv0 : List (Nat × Value)) (hy : plainName y.cls = true) (hyn : y.name = "<init>") (hw : wsY = Cond.code y cc maxL none :: ws') (hlen : (lg_sl av).length ≤ maxL) (hlv : lv_args 0 av = lv0) (hown : y.cls = own)
    (body : ∀ E : ZE, ZC E cc own wsY rm maxL D g l → ZNst E → ZIn E → (∀ {pc : Nat} {lv : List (Nat × Value)} (u : S), decode cc pc = .ok (.return_, 1) → post u → Z E (w1 u) lv mc ms pc []) → Z E w0 lv0 0 0 0 []) : ZMv l y wsY rm D g av w0 post w1 mc ms := by
  intro sz
  refine Met.ofW (cc := cc) (maxL := maxL) (ret := none) hy hw ?_
  intro p e s m args below meth c s₁ B hml hv
  obtain ⟨rfl, hsz, hP, hK, hD0, hN, -⟩ := hv
  subst hsz
  have hin : meth.name = "<init>" := by rw [← hyn]; exact (name_of_methodNamed B.named B.method).1
  have hE := body (p, l, e, (headSpec wsY rm).room, s, m, av.toArray, below, meth, c, MQ below (va_Qv post (zB D g w0 s.heap.size w1) (va_A w0 s.heap.size)) av.toArray s mc ms (va_A w0 s.heap.size), va_A w0 s.heap.size, D, g, maxL) ⟨B.exec, B.bytes, hml, rfl, rfl, rfl, rfl, rfl, by rw [← hown]; exact findClass_of_methodNamed B.named, atoms_spec B.pre, hK, fun q h => Or.inr h⟩ hN hin ?_
  · have hl := lv_entry av (n := maxL) hlen
    rw [lg_entry_eq]
    exact hE s.heap [] _ hP hD0.self va_S.rf (by rw [← hlv]; exact hl)
  · intro pc lv u hd hp
    intro H locs ls hP hD hS hl
    exact W.vret B.exec B.bytes B.returns (fun t ht hW => ⟨⟨u, rfl, hp, ⟨by rw [ht]; exact hP, va_K.moved hW.alike hK, hD⟩⟩, hS.F ht⟩) hS.2.2 hd B.notSynchronized
/-- a call that runs from here -/
def ZRun (E : ZE) (ws : va_W) (lv : List (Nat × Value)) (k n pc : Nat) (st rest : List Value) (mc ms : Nat) (Qa : Nat → State → Outcome → State → Prop) (w0 : va_W) : Prop := match E with
  | (p, l, e, R, s, m, args, below, meth, c, _, A, D, _, nL) => ∀ (H : Heap) (locs : List Loc) (ls : Array Slot), va_P D vwCl ws H → va_D A ws → va_S A s.heap H locs → lv_has ls nL lv → va_Run p l e R s m args below meth c H locs k n mc ms (F0 m pc ls st) rest (Qa H.size) (va_A w0 H.size)
theorem zPc_blind {D : va_G} {g : Nat → ClassId} {av : List Value} {w0 : va_W} {sz : Nat} : FrameBlind (zPc D g av w0 zTr sz) := fun a U g9 mk q => by
  obtain ⟨q0, q1, qP, qK, qD, qN, _⟩ := q
  exact ⟨q0, q1, qP, va_K.moved (u := U) (U := U.calling g9 mk a) (Vm.Alike.refl U.vm) qK, qD, zNs.same (u := U) (U := U.calling g9 mk a) rfl qN, trivial⟩
section ZCALL
variable {E : ZE} {cc : ByteArray} {own : String} {Ts : List Cond} {rm : Room} {nL : Nat} {D : va_G} {g : Nat → ClassId} {l : Launch} {ws ws' w0 wr : va_W} {lv lv' : List (Nat × Value)} {k n k2 n2 pc mc ms index maxL nA b : Nat} {st As rest : List Value} {y : MethodName} {wsY wsY' : List Cond} {rmY : Room} {bytes : ByteArray} {ret : Option FieldType} {Qa : Nat → Array Value → State → Outcome → State → Prop}
theorem z_runV (hC : ZC E cc own Ts rm nL D g l) (hN : ZNst E) (hM : ∀ sz, Met l y wsY rmY (zPc D g (.ref b :: As) w0 zTr sz) (Qa sz) mc ms (va_A w0 sz)) (isC : List Nat) (hCp : isC.map (fun i => ws[i]?) = w0.map some) (hCn : va_nd isC = true) {C : String} {T : u_T} {N ci : Nat} {fs : List Value} (hT : GoodIn Ts (wsV own index C y wsY)) (hd : y.cls = C ∧ y.cls ≠ "java/lang/invoke/MethodHandle" ∧ y.cls ≠ "java/lang/invoke/VarHandle" ∧ (parseMethodDescriptor y.desc).map (fun d => d.parameters.length) = some nA) (hw : wsY = Cond.code y bytes maxL ret :: wsY') (hrc : rmY.cells = mc) (hrs : rmY.slots = ms) (hR : rmY.frames + 1 ≤ rm.frames ∧ 8 + (maxL + 11) + rmY.locals ≤ rm.locals) (hnA : As.length = nA) (hst : st = As.reverse ++ .ref b :: rest) (hcat : (rest.map fun v => v.category).sum ≤ 8) (d : decode cc pc = .ok (.invokevirtual index, 3)) (hf : k + mc ≤ rm.cells ∧ n + ms ≤ rm.slots) (q0 : Nat) (he : ws[q0]? = some (b, .inr (ci, fs))) (hc : vwCl[ci]? = some (C, T, N)) : ZRun E ws lv k n pc st rest mc ms (fun sz => Qa sz ((.ref b :: As) : List Value).toArray) w0 := by
  obtain ⟨p, l', e, R, s, m, args, below, meth, c, Q, A, D', g', nL'⟩ := E
  obtain ⟨hx, hb, hml, rfl, rfl, rfl, rfl, rfl, hown, hts, hK, hA⟩ := hC
  intro H locs ls hP hD hS hl
  have hPc := hP.sub isC (zfm hCp)
  have hDc := hD.sub isC hCn hCp
  exact va_runV ⟨hx, hb, hml, hown, hts⟩ (hM H.size) (cwV nA hts hT hw hrc hrs hd hR) ⟨zPc_blind, va_recv hK hP hc he, fun U hU hW => ⟨rfl, by rw [hU], by rw [hU]; exact hPc, va_K.moved hW.alike hK, hDc.weaken (fun _ _ _ _ => trivial), zNs.warm hW hN, trivial⟩⟩ rfl hnA hl.1 hst (lv_room hcat) d hf
theorem z_runS (hC : ZC E cc own Ts rm nL D g l) (hN : ZNst E) (hM : ∀ sz, Met l y wsY rmY (zPc D g (As) w0 zTr sz) (Qa sz) mc ms (va_A w0 sz)) (isC : List Nat) (hCp : isC.map (fun i => ws[i]?) = w0.map some) (hCn : va_nd isC = true) (hT : GoodIn Ts (va_wsS own index y wsY)) (hd : y.cls ≠ "java/lang/invoke/MethodHandle" ∧ y.cls ≠ "java/lang/invoke/VarHandle" ∧ (parseMethodDescriptor y.desc).map (fun d => d.parameters.length) = some nA) (hw : wsY = Cond.code y bytes maxL ret :: wsY') (hrc : rmY.cells = mc) (hrs : rmY.slots = ms) (hR : rmY.frames + 1 ≤ rm.frames ∧ 8 + (maxL + 11) + rmY.locals ≤ rm.locals) (hnA : As.length = nA) (hst : st = As.reverse ++ rest) (hcat : (rest.map fun v => v.category).sum ≤ 8) (d : decode cc pc = .ok (.invokestatic index, 3)) (hf : k + mc ≤ rm.cells ∧ n + ms ≤ rm.slots)  : ZRun E ws lv k n pc st rest mc ms (fun sz => Qa sz ((As) : List Value).toArray) w0 := by
  obtain ⟨p, l', e, R, s, m, args, below, meth, c, Q, A, D', g', nL'⟩ := E
  obtain ⟨hx, hb, hml, rfl, rfl, rfl, rfl, rfl, hown, hts, hK, hA⟩ := hC
  intro H locs ls hP hD hS hl
  have hPc := hP.sub isC (zfm hCp)
  have hDc := hD.sub isC hCn hCp
  exact va_runS ⟨hx, hb, hml, hown, hts⟩ (hM H.size) (va_cwS nA hts hT hw hrc hrs hd hR) ⟨zPc_blind, fun U hU hW => ⟨rfl, by rw [hU], by rw [hU]; exact hPc, va_K.moved hW.alike hK, hDc.weaken (fun _ _ _ _ => trivial), zNs.warm hW hN, trivial⟩⟩ rfl hnA hl.1 hst (lv_room hcat) d hf
theorem z_runSN (hC : ZC E cc own Ts rm nL D g l) (hN : ZNst E) (hM : ∀ sz, Met l y wsY rmY (zPc D g (As) w0 zTr sz) (Qa sz) mc ms (va_A w0 sz)) (isC : List Nat) (hCp : isC.map (fun i => ws[i]?) = w0.map some) (hCn : va_nd isC = true) {host : String} (hT : GoodIn Ts wsY) (hlk : Cond.methodLinkNest own index y host ∈ zNest) (hini : Cond.initialized y.cls ∈ Ts) (hst9 : Cond.static y ∈ Ts) (hd : y.cls ≠ "java/lang/invoke/MethodHandle" ∧ y.cls ≠ "java/lang/invoke/VarHandle" ∧ (parseMethodDescriptor y.desc).map (fun d => d.parameters.length) = some nA) (hw : wsY = Cond.code y bytes maxL ret :: wsY') (hrc : rmY.cells = mc) (hrs : rmY.slots = ms) (hR : rmY.frames + 1 ≤ rm.frames ∧ 8 + (maxL + 11) + rmY.locals ≤ rm.locals) (hnA : As.length = nA) (hst : st = As.reverse ++ rest) (hcat : (rest.map fun v => v.category).sum ≤ 8) (d : decode cc pc = .ok (.invokestatic index, 3)) (hf : k + mc ≤ rm.cells ∧ n + ms ≤ rm.slots)  : ZRun E ws lv k n pc st rest mc ms (fun sz => Qa sz ((As) : List Value).toArray) w0 := by
  obtain ⟨p, l', e, R, s, m, args, below, meth, c, Q, A, D', g', nL'⟩ := E
  obtain ⟨hx, hb, hml, rfl, rfl, rfl, rfl, rfl, hown, hts, hK, hA⟩ := hC
  intro H locs ls hP hD hS hl
  have hPc := hP.sub isC (zfm hCp)
  have hDc := hD.sub isC hCn hCp
  exact va_runSN ⟨hx, hb, hml, hown, hts⟩ (hM H.size) (⟨va_cnB nA hts hT hw hrc hrs (hN.1 _ hlk) (hts _ hini) hd hR, hts _ hst9, trivial⟩) ⟨zPc_blind, fun U hU hW => ⟨rfl, by rw [hU], by rw [hU]; exact hPc, va_K.moved hW.alike hK, hDc.weaken (fun _ _ _ _ => trivial), zNs.warm hW hN, trivial⟩⟩ rfl hnA hl.1 hst (lv_room hcat) d hf
theorem z_calli (q : Nat) (hC : ZC E cc own Ts rm nL D g l) {S : Type} {a : Array Value} {post : Int → S → Prop} {w1 w2 : S → va_W} (isC isR isO : List Nat) (hr : ZRun E ws lv k n pc st rest mc ms (fun sz => va_Qi (fun r u => ∃ z, r = iI z ∧ post z u) (zB D g w0 sz w1) (va_A w0 sz) a) w0) (hCp : isC.map (fun i => ws[i]?) = w0.map some) (hRp : isR.map (fun i => ws[i]?) = wr.map some) (hnd : va_nd isR = true) (hdis : ∀ i ∈ isR, i ∉ isC) (hO : ∀ u, isO.map (fun i => (wr ++ w1 u)[i]?) = (w2 u).map some) (hndO : va_nd isO = true) (hq : pc + 3 = q) (hk2 : k + mc = k2) (hn2 : n + ms = n2) (kk : ∀ (z : Int) (u : S), post z u → Z E (w2 u) lv k2 n2 q (.int (iI z) :: rest)) : Z E ws lv k n pc st := by
  subst hq; subst hk2; subst hn2
  obtain ⟨p, l', e, R, s, m, args, below, meth, c, Q, A, D', g', nL'⟩ := E
  obtain ⟨hx, hb, hml, rfl, rfl, rfl, rfl, rfl, hown, hts, hK, hA⟩ := hC
  intro H locs ls hP hD hS hl
  have hFc := va_free (wc := w0) hD hS hA isC hCp
  refine va_calli (hr H locs ls hP hD hS hl) hS (fun q _ h => hFc q h) hFc (fun r u t H1 locs ht hvm hw hB hz1 hk1 hS => ?_)
  obtain ⟨hP1, hK1, hD1⟩ := hB
  rw [ht] at hP1
  obtain ⟨z, rfl, hz⟩ := hw
  obtain ⟨hP2, hD2⟩ := va_join (wr := wr) (w1 := w1 u) hP hD isC isR hCp hRp hnd hdis hk1 hFc hP1 hD1
  exact kk z u hz H1 locs ls (hP2.sub isO (zfm (hO u))) (hD2.sub isO hndO (hO u)) hS hl
theorem z_callv (q : Nat) (hC : ZC E cc own Ts rm nL D g l) {S : Type} {a : Array Value} {post : S → Prop} {w1 w2 : S → va_W} (isC isR isO : List Nat) (hr : ZRun E ws lv k n pc st rest mc ms (fun sz => va_Qv post (zB D g w0 sz w1) (va_A w0 sz) a) w0) (hCp : isC.map (fun i => ws[i]?) = w0.map some) (hRp : isR.map (fun i => ws[i]?) = wr.map some) (hnd : va_nd isR = true) (hdis : ∀ i ∈ isR, i ∉ isC) (hO : ∀ u, isO.map (fun i => (wr ++ w1 u)[i]?) = (w2 u).map some) (hndO : va_nd isO = true) (hq : pc + 3 = q) (hk2 : k + mc = k2) (hn2 : n + ms = n2) (kk : ∀ (u : S), post u → Z E (w2 u) lv k2 n2 q rest) : Z E ws lv k n pc st := by
  subst hq; subst hk2; subst hn2
  obtain ⟨p, l', e, R, s, m, args, below, meth, c, Q, A, D', g', nL'⟩ := E
  obtain ⟨hx, hb, hml, rfl, rfl, rfl, rfl, rfl, hown, hts, hK, hA⟩ := hC
  intro H locs ls hP hD hS hl
  have hFc := va_free (wc := w0) hD hS hA isC hCp
  refine va_callv (hr H locs ls hP hD hS hl) hS (fun q _ h => hFc q h) hFc (fun u t H1 locs ht hvm hw hB hz1 hk1 hS => ?_)
  obtain ⟨hP1, hK1, hD1⟩ := hB
  rw [ht] at hP1
  obtain ⟨hP2, hD2⟩ := va_join (wr := wr) (w1 := w1 u) hP hD isC isR hCp hRp hnd hdis hk1 hFc hP1 hD1
  exact kk u hw H1 locs ls (hP2.sub isO (zfm (hO u))) (hD2.sub isO hndO (hO u)) hS hl
theorem z_calll (q : Nat) (hC : ZC E cc own Ts rm nL D g l) {S : Type} {a : Array Value} {post : Int64 → S → Prop} {w1 w2 : S → va_W} (isC isR isO : List Nat) (hr : ZRun E ws lv k n pc st rest mc ms (fun sz => va_Ql post (zB D g w0 sz w1) (va_A w0 sz) a) w0) (hCp : isC.map (fun i => ws[i]?) = w0.map some) (hRp : isR.map (fun i => ws[i]?) = wr.map some) (hnd : va_nd isR = true) (hdis : ∀ i ∈ isR, i ∉ isC) (hO : ∀ u, isO.map (fun i => (wr ++ w1 u)[i]?) = (w2 u).map some) (hndO : va_nd isO = true) (hq : pc + 3 = q) (hk2 : k + mc = k2) (hn2 : n + ms = n2) (kk : ∀ (z : Int64) (u : S), post z u → Z E (w2 u) lv k2 n2 q (.long z :: rest)) : Z E ws lv k n pc st := by
  subst hq; subst hk2; subst hn2
  obtain ⟨p, l', e, R, s, m, args, below, meth, c, Q, A, D', g', nL'⟩ := E
  obtain ⟨hx, hb, hml, rfl, rfl, rfl, rfl, rfl, hown, hts, hK, hA⟩ := hC
  intro H locs ls hP hD hS hl
  have hFc := va_free (wc := w0) hD hS hA isC hCp
  refine va_calll (hr H locs ls hP hD hS hl) hS (fun q _ h => hFc q h) hFc (fun r u t H1 locs ht hvm hw hB hz1 hk1 hS => ?_)
  obtain ⟨hP1, hK1, hD1⟩ := hB
  rw [ht] at hP1
  obtain ⟨hP2, hD2⟩ := va_join (wr := wr) (w1 := w1 u) hP hD isC isR hCp hRp hnd hdis hk1 hFc hP1 hD1
  exact kk r u hw H1 locs ls (hP2.sub isO (zfm (hO u))) (hD2.sub isO hndO (hO u)) hS hl
theorem z_calld (q : Nat) (hC : ZC E cc own Ts rm nL D g l) {S : Type} {a : Array Value} {post : UInt64 → S → Prop} {w1 w2 : S → va_W} (isC isR isO : List Nat) (hr : ZRun E ws lv k n pc st rest mc ms (fun sz => va_Qd post (zB D g w0 sz w1) (va_A w0 sz) a) w0) (hCp : isC.map (fun i => ws[i]?) = w0.map some) (hRp : isR.map (fun i => ws[i]?) = wr.map some) (hnd : va_nd isR = true) (hdis : ∀ i ∈ isR, i ∉ isC) (hO : ∀ u, isO.map (fun i => (wr ++ w1 u)[i]?) = (w2 u).map some) (hndO : va_nd isO = true) (hq : pc + 3 = q) (hk2 : k + mc = k2) (hn2 : n + ms = n2) (kk : ∀ (z : UInt64) (u : S), post z u → Z E (w2 u) lv k2 n2 q (.double z :: rest)) : Z E ws lv k n pc st := by
  subst hq; subst hk2; subst hn2
  obtain ⟨p, l', e, R, s, m, args, below, meth, c, Q, A, D', g', nL'⟩ := E
  obtain ⟨hx, hb, hml, rfl, rfl, rfl, rfl, rfl, hown, hts, hK, hA⟩ := hC
  intro H locs ls hP hD hS hl
  have hFc := va_free (wc := w0) hD hS hA isC hCp
  refine va_calld (hr H locs ls hP hD hS hl) hS (fun q _ h => hFc q h) hFc (fun r u t H1 locs ht hvm hw hB hz1 hk1 hS => ?_)
  obtain ⟨hP1, hK1, hD1⟩ := hB
  rw [ht] at hP1
  obtain ⟨hP2, hD2⟩ := va_join (wr := wr) (w1 := w1 u) hP hD isC isR hCp hRp hnd hdis hk1 hFc hP1 hD1
  exact kk r u hw H1 locs ls (hP2.sub isO (zfm (hO u))) (hD2.sub isO hndO (hO u)) hS hl
theorem z_callr (q : Nat) (hC : ZC E cc own Ts rm nL D g l) {S : Type} {a : Array Value} {post : S → Prop} {w1 w2 : S → Nat → va_W} (isC isR isO : List Nat) (hr : ZRun E ws lv k n pc st rest mc ms (fun sz => va_Qr post (fun u a t => zB D g w0 sz (fun u => w1 u a) u t) (va_A w0 sz) a) w0) (hCp : isC.map (fun i => ws[i]?) = w0.map some) (hRp : isR.map (fun i => ws[i]?) = wr.map some) (hnd : va_nd isR = true) (hdis : ∀ i ∈ isR, i ∉ isC) (hO : ∀ u a, isO.map (fun i => (wr ++ w1 u a)[i]?) = (w2 u a).map some) (hndO : va_nd isO = true) (hq : pc + 3 = q) (hk2 : k + mc = k2) (hn2 : n + ms = n2) (kk : ∀ (u : S) (a : Nat), post u → Z E (w2 u a) lv k2 n2 q (.ref a :: rest)) : Z E ws lv k n pc st := by
  subst hq; subst hk2; subst hn2
  obtain ⟨p, l', e, R, s, m, args, below, meth, c, Q, A, D', g', nL'⟩ := E
  obtain ⟨hx, hb, hml, rfl, rfl, rfl, rfl, rfl, hown, hts, hK, hA⟩ := hC
  intro H locs ls hP hD hS hl
  have hFc := va_free (wc := w0) hD hS hA isC hCp
  refine va_callr (hr H locs ls hP hD hS hl) hS (fun q _ h => hFc q h) hFc (fun u a t H1 locs ht hvm hw hB hz1 hk1 hS => ?_)
  obtain ⟨hP1, hK1, hD1⟩ := hB
  rw [ht] at hP1
  obtain ⟨hP2, hD2⟩ := va_join (wr := wr) (w1 := w1 u a) hP hD isC isR hCp hRp hnd hdis hk1 hFc hP1 hD1
  exact kk u a hw H1 locs ls (hP2.sub isO (zfm (hO u a))) (hD2.sub isO hndO (hO u a)) hS hl
end ZCALL
