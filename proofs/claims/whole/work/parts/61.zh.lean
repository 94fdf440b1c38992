/-! methods of the law: with a table of their own; the rows that the law's walk needs -/
theorem Met_ofWH {y : MethodName} {l : Launch} {ws ws' : List Cond} {rm : Room} {Pc : Array Value → State → Prop} {Qc : Array Value → State → Outcome → State → Prop} {mc ms : Nat} {free : Addr → Prop} {cc : ByteArray} {maxL : Nat} {ret : Option FieldType} {hh : List (Nat × Nat × Nat × Nat)}
    (hy : plainName y.cls = true) (hw : ws = Cond.codeWith y cc maxL ret hh :: ws')
    (body : ∀ p e s m args below meth c s₁, BodyLoose p l y (headSpec ws rm) cc maxL ret e s m args below meth c s₁ → c.maxLocals = maxL → c.exceptionTable.toList = tableOf hh → Pc args s →
      W p l e (headSpec ws rm).room s m args below meth c s.heap [] 0 0 (MQ below Qc args s mc ms free) (entryFrame m args maxL)) : Met l y ws rm Pc Qc mc ms free := by
  refine MetFree.of_bodyS (code := cc) (maxLocals := maxL) (ret := ret) hy ?_ ?_
  · intro args s m h hn
    obtain ⟨m9, meth, c, hn9, h1, h2, h3, h4, -, h5, h6, -⟩ := Cond.codeWith_spec (atoms_spec (ws := ws) h _ (by rw [hw]; exact List.mem_cons_self))
    cases hn.symm.trans hn9
    exact ⟨meth, c, h1, h2, h3, h4, h5, h6⟩
  · intro p e s m args below meth c s₁ B hml hP _
    have hh0 : s₁.heap = s.heap := by rw [B.state]; rfl
    have ht := vx_table (x := y) B (atoms_spec (ws := ws) B.pre _ (by rw [hw]; exact List.mem_cons_self))
    obtain ⟨t, a1, o, b1, b2, b3⟩ := body p e s m args below meth c s₁ B hml ht hP s₁ hh0 (Stand.of_body B)
    exact ⟨t, o, a1, b1, b2, b3.1, b3.2⟩
/-- the frame's table -/
def ZHt (E : ZE) (hh : List (Nat × Nat × Nat × Nat)) : Prop := match E with
  | (_, _, _, _, _, _, _, _, _, c, _, _, _, _, _) => c.exceptionTable.toList = tableOf hh
/-- the script -/
def ZSc (E : ZE) (b L : Nat) (xs : Nat → Int32) : Prop := match E with
  | (_, _, _, _, s, _, _, _, _, _, _, A, _, _, _) => va_X b L xs s s.heap ∧ b < s.heap.size ∧ ¬ A b
def scI (xs : Nat → Int32) (i : Int) : Int := (xs i.toNat).toInt
theorem scI_rg (xs : Nat → Int32) (i : Int) : -2147483648 ≤ scI xs i ∧ scI xs i ≤ 2147483647 := iI_rg _
def ZHi {S : Type} (l : Launch) (y : MethodName) (wsY : List Cond) (rm : Room) (D : va_G) (g : Nat → ClassId) (av : List Value) (w0 : va_W) (post : Int → S → Prop) (w1 : S → va_W) (mc ms : Nat) : Prop :=
  ∀ sz : Nat, Met l y wsY rm (zPc D g av w0 (zXU w0 sz) sz) (va_Qi (fun r u => ∃ z, r = iI z ∧ post z u) (zB D g w0 sz w1) (va_A w0 sz)) mc ms (va_A w0 sz)
theorem ZHi.of {S : Type} {l : Launch} {y : MethodName} {wsY ws' : List Cond} {rm : Room} {D : va_G} {g : Nat → ClassId} {av : List Value} {w0 : va_W} {post : Int → S → Prop} {w1 : S → va_W} {mc ms : Nat} {own : String} (cc : ByteArray) (maxL : Nat) {hh : List (Nat × Nat × Nat × Nat)} (lv0 : List (Nat × Value)) (hy : plainName y.cls = true) (hw : wsY = Cond.codeWith y cc maxL (some .int) hh :: ws') (hlen : (lg_sl av).length ≤ maxL) (hlv : lv_args 0 av = lv0) (hown : y.cls = own)
    (body : ∀ E : ZE, ZC E cc own wsY rm maxL D g l → ZNst E → ZXt E → ZHt E hh → (∀ {pc : Nat} {lv : List (Nat × Value)} {z : Int} (u : S), decode cc pc = .ok (.ireturn, 1) → post z u → Z E (w1 u) lv mc ms pc [.int (iI z)]) → Z E w0 lv0 0 0 0 []) : ZHi l y wsY rm D g av w0 post w1 mc ms := by
  intro sz
  refine Met_ofWH (cc := cc) (maxL := maxL) (ret := some .int) hy hw ?_
  intro p e s m args below meth c s₁ B hml ht hv
  obtain ⟨rfl, hsz, hP, hK, hD0, hN, hX⟩ := hv
  subst hsz
  have hE := body (p, l, e, (headSpec wsY rm).room, s, m, av.toArray, below, meth, c, MQ below (va_Qi (fun r u => ∃ z, r = iI z ∧ post z u) (zB D g w0 s.heap.size w1) (va_A w0 s.heap.size)) av.toArray s mc ms (va_A w0 s.heap.size), va_A w0 s.heap.size, D, g, maxL) ⟨B.exec, B.bytes, hml, rfl, rfl, rfl, rfl, rfl, by rw [← hown]; exact findClass_of_methodNamed B.named, atoms_spec B.pre, hK, fun q h => Or.inr h⟩ hN hX ht ?_
  · have hl := lv_entry av (n := maxL) hlen
    rw [lg_entry_eq]
    exact hE s.heap [] _ hP hD0.self va_S.rf (by rw [← hlv]; exact hl)
  · intro pc lv z u hd hp
    intro H locs ls hP hD hS hl
    exact W.zret (v := iI z) B.exec B.bytes B.returns rfl (fun t ht hW => ⟨⟨iI z, u, rfl, ⟨z, rfl, hp⟩, ⟨by rw [ht]; exact hP, va_K.moved hW.alike hK, hD⟩⟩, hS.F ht⟩) hS.2.2 hd B.notSynchronized
theorem ZThr.by {E : ZE} {ws : va_W} {lv : List (Nat × Value)} {k n pc : Nat} {rest : List Value} {px : String → Prop} (h : ∀ Ex, px Ex → ZThr E ws lv k n pc rest (fun e => e = Ex)) : ZThr E ws lv k n pc rest px := by
  have h2 := h
  obtain ⟨p, l', e, R, s, m, args, below, meth, c, Q, A, D', g', nL'⟩ := E
  intro Ex ce q9 H locs ls hpx
  exact h2 Ex hpx Ex ce q9 H locs ls rfl
def zO {α : Type} (o : Option α) (a : va_W) (f : α → va_W) : va_W := match o with
  | none => a
  | some q => f q
section ZH
variable {E : ZE} {cc : ByteArray} {own : String} {Ts : List Cond} {rm : Room} {nL : Nat} {D : va_G} {g : Nat → ClassId} {l : Launch} {ws ws' w0 wr : va_W} {lv lv' : List (Nat × Value)} {k n k2 n2 pc mc ms index maxL nA b : Nat} {st As rest : List Value} {y : MethodName} {wsY wsY' : List Cond} {rmY : Room} {bytes : ByteArray} {ret : Option FieldType} {Qa : Nat → Array Value → State → Outcome → State → Prop}
theorem z_catch {hh : List (Nat × Nat × Nat × Nat)} (hC : ZC E cc own Ts rm nL D g l) (hN : ZNst E) (hH : ZHt E hh) {Ex : String} (pre : List (Nat × Nat × Nat × Nat)) (x : Nat × Nat × Nat × Nat) (suf : List (Nat × Nat × Nat × Nat)) (hsplit : hh = pre ++ x :: suf) (hpass : ∀ z ∈ pre, z.2.2.2 ≠ 0 ∧ ∃ nm : String, Cond.classLink own z.2.2.2 nm ∈ Ts ∧ (Ex, nm) ∈ zNcs) (hx9 : covers ⟨x.1, x.2.1, x.2.2.1, x.2.2.2⟩ pc = true) (h0 : x.2.2.2 ≠ 0) (hl9 : Cond.classLink own x.2.2.2 Ex ∈ Ts) (hc9 : Cond.castable Ex Ex ∈ zNest) (kk : ∀ q : Nat, Z E ws lv k n x.2.2.1 [.ref q]) : ZThr E ws lv k n pc rest (fun e => e = Ex) := by
  obtain ⟨p, l', e, R, s, m, args, below, meth, c, Q, A, D', g', nL'⟩ := E
  obtain ⟨hx, hb, hml, rfl, rfl, rfl, rfl, rfl, hown, hts, hK, hA⟩ := hC
  intro Ex' ce q9 H locs ls hpx hP hD hS hl hce hcv hcl
  subst hpx
  refine vx_catch hown (tableOf pre) ⟨x.1, x.2.1, x.2.2.1, x.2.2.2⟩ (tableOf suf) (by have h9 : c.exceptionTable.toList = tableOf hh := hH
                                                                                      rw [h9, hsplit]; simp [tableOf]) (fun z hz => ?_) hx9 h0 (hts _ hl9) (va_Nw.use (by rfl) (hN.1 _ hc9)) hce hcv hcl (kk q9 H locs ls hP hD hS hl)
  obtain ⟨q, hq, rfl⟩ := List.mem_map.mp hz
  obtain ⟨a1, nm, a2, a3⟩ := hpass q hq
  exact Or.inr ⟨a1, nm, hts _ a2, hN.2.1 _ a3⟩
theorem z_runSH {hh : List (Nat × Nat × Nat × Nat)} (hC : ZC E cc own Ts rm nL D g l) (hN : ZNst E) (hX : ZXt E) (hM : ∀ sz, Met l y wsY rmY (zPc D g As w0 (zXU w0 sz) sz) (Qa sz) mc ms (va_A w0 sz)) (isC : List Nat) (hCp : isC.map (fun i => ws[i]?) = w0.map some) (hCn : va_nd isC = true) (hT : GoodIn Ts (va_wsS own index y wsY)) (hd : y.cls ≠ "java/lang/invoke/MethodHandle" ∧ y.cls ≠ "java/lang/invoke/VarHandle" ∧ (parseMethodDescriptor y.desc).map (fun d => d.parameters.length) = some nA) (hw : wsY = Cond.codeWith y bytes maxL ret hh :: wsY') (hrc : rmY.cells = mc) (hrs : rmY.slots = ms) (hR : rmY.frames + 1 ≤ rm.frames ∧ 8 + (maxL + 11) + rmY.locals ≤ rm.locals) (hnA : As.length = nA) (hst : st = As.reverse ++ rest) (hcat : (rest.map fun v => v.category).sum ≤ 8) (d : decode cc pc = .ok (.invokestatic index, 3)) (hf : k + mc ≤ rm.cells ∧ n + ms ≤ rm.slots) : ZRun E ws lv k n pc st rest mc ms (fun sz => Qa sz (As : List Value).toArray) w0 := by
  obtain ⟨p, l', e, R, s, m, args, below, meth, c, Q, A, D', g', nL'⟩ := E
  obtain ⟨hx, hb, hml, rfl, rfl, rfl, rfl, rfl, hown, hts, hK, hA⟩ := hC
  intro H locs ls hP hD hS hl
  have hPc := hP.sub isC (zfm hCp)
  have hDc := hD.sub isC hCn hCp
  have hFc := va_free (wc := w0) hD hS hA isC hCp
  exact vx_runSW ⟨hx, hb, hml, hown, hts⟩ (hM H.size) (vx_cwSW nA hts hT hw hrc hrs hd hR) ⟨zPc_blindX, fun U hU hW => ⟨rfl, by rw [hU], by rw [hU]; exact hPc, va_K.moved hW.alike hK, hDc.weaken (fun _ _ _ _ => trivial), zNs.warm hW hN, by show zXT _ U U.heap; rw [hU]; exact zXT.call hW hS hFc hX⟩⟩ rfl hnA hl.1 hst (lv_room hcat) d hf
theorem z_runIT (hC : ZC E cc own Ts rm nL D g l) (hN : ZNst E) (hX : ZTdt E) (hM : ∀ sz, Met l y wsY rmY (zPc D g (.ref b :: As) w0 (zTdU w0 sz) sz) (Qa sz) mc ms (va_A w0 sz)) (isC : List Nat) (hCp : isC.map (fun i => ws[i]?) = w0.map some) (hCn : va_nd isC = true) (hT : GoodIn Ts wsY) (hini : Cond.initialized y.cls ∈ Ts) (hlk : Cond.methodLink own index y ∈ Ts) (hin : Cond.instanceMethod y ∈ Ts) (hyn : y.name = "<init>") (hd : y.cls ≠ "java/lang/invoke/MethodHandle" ∧ y.cls ≠ "java/lang/invoke/VarHandle" ∧ (parseMethodDescriptor y.desc).map (fun d => d.parameters.length) = some nA) (hw : wsY = Cond.code y bytes maxL none :: wsY') (hrc : rmY.cells = mc) (hrs : rmY.slots = ms) (hR : rmY.frames + 1 ≤ rm.frames ∧ 8 + (maxL + 11) + rmY.locals ≤ rm.locals) (hnA : As.length = nA) (hst : st = As.reverse ++ .ref b :: rest) (hcat : (rest.map fun v => v.category).sum ≤ 8) (d : decode cc pc = .ok (.invokespecial index, 3)) (hf : k + mc ≤ rm.cells ∧ n + ms ≤ rm.slots) : ZRun E ws lv k n pc st rest mc ms (fun sz => Qa sz ((.ref b :: As) : List Value).toArray) w0 := by
  obtain ⟨p, l', e, R, s, m, args, below, meth, c, Q, A, D', g', nL'⟩ := E
  obtain ⟨hx, hb, hml, rfl, rfl, rfl, rfl, rfl, hown, hts, hK, hA⟩ := hC
  intro H locs ls hP hD hS hl
  have hPc := hP.sub isC (zfm hCp)
  have hDc := hD.sub isC hCn hCp
  have hFc := va_free (wc := w0) hD hS hA isC hCp
  exact va_runI ⟨hx, hb, hml, hown, hts⟩ (hM H.size) (cwI nA hts hT hw hrc hrs (hts _ hini) (hts _ hlk) (hts _ hin) hyn hd hR) ⟨zPc_blindT, fun U hU hW => ⟨rfl, by rw [hU], by rw [hU]; exact hPc, va_K.moved hW.alike hK, hDc.weaken (fun _ _ _ _ => trivial), zNs.warm hW hN, by show zTd _ U U.heap; rw [hU]; exact zTd.call hW hS hFc hX⟩⟩ rfl hnA hl.1 hst (lv_room hcat) d hf
theorem z_sld (q : Nat) (hC : ZC E cc own Ts rm nL D g l) {a L : Nat} {xs : Nat → Int32} (hS9 : ZSc E a L xs) (hL : L < 2147483648) {i : Int} (d : decode cc pc = .ok (.iaload, 1)) (hq : pc + 1 = q) (hi : 0 ≤ i ∧ i < (L : Int)) (kk : Z E ws lv k n q (.int (iI (scI xs i)) :: st)) : Z E ws lv k n pc (.int (iI i) :: .ref a :: st) := by
  subst hq
  obtain ⟨p, l', e, R, s, m, args, below, meth, c, Q, A, D', g', nL'⟩ := E
  obtain ⟨hx, hb, hml, rfl, rfl, rfl, rfl, rfl, hown, hts, hK, hA⟩ := hC
  intro H locs ls hP hD hS hl
  refine va_sld hx hb hS9.1 hS9.2.1 hS9.2.2 hS (iI_in hi.1 hi.2 hL) d ?_
  rw [iI_cl hi.1 (by omega), iI_of (xs i.toNat)]
  exact kk H locs ls hP hD hS hl
theorem z_slen (q : Nat) (hC : ZC E cc own Ts rm nL D g l) {a L : Nat} {xs : Nat → Int32} (hS9 : ZSc E a L xs) (d : decode cc pc = .ok (.arraylength, 1)) (hq : pc + 1 = q) (kk : Z E ws lv k n q (.int (iI (L : Int)) :: st)) : Z E ws lv k n pc (.ref a :: st) := by
  subst hq
  obtain ⟨p, l', e, R, s, m, args, below, meth, c, Q, A, D', g', nL'⟩ := E
  obtain ⟨hx, hb, hml, rfl, rfl, rfl, rfl, rfl, hown, hts, hK, hA⟩ := hC
  intro H locs ls hP hD hS hl
  refine va_slen hx hb hS9.1 hS9.2.1 hS9.2.2 hS d ?_
  rw [show Int32.ofNat L = iI (L : Int) from (Int32.ofInt_eq_ofNat).symm]
  exact kk H locs ls hP hD hS hl
theorem z_lald (q q0 : Nat) (hC : ZC E cc own Ts rm nL D g l) {a N : Nat} {f : Nat → Int64} {i : Int} {v : Int64} (d : decode cc pc = .ok (.laload, 1)) (hq : pc + 1 = q) (he : ws[q0]? = some (a, .inl (g 1, N, .inr (.inl f)))) (hN : N < 2147483648) (hi : 0 ≤ i ∧ i < (N : Int)) (hv : f i.toNat = v) (kk : Z E ws lv k n q (.long v :: st)) : Z E ws lv k n pc (.int (iI i) :: .ref a :: st) := by
  subst hq; subst hv
  obtain ⟨p, l', e, R, s, m, args, below, meth, c, Q, A, D', g', nL'⟩ := E
  obtain ⟨hx, hb, hml, rfl, rfl, rfl, rfl, rfl, hown, hts, hK, hA⟩ := hC
  intro H locs ls hP hD hS hl
  refine va_lald hx hb hK hP q0 1 he rfl (iI_in hi.1 hi.2 hN) d ?_
  rw [iI_cl hi.1 (by omega)]
  exact kk H locs ls hP hD hS hl
theorem z_last (q q0 : Nat) (hC : ZC E cc own Ts rm nL D g l) {a N : Nat} {f : Nat → Int64} {i : Int} {v : Int64} (d : decode cc pc = .ok (.lastore, 1)) (hq : pc + 1 = q) (he : ws[q0]? = some (a, .inl (g 1, N, .inr (.inl f)))) (hN : N < 2147483648) (hi : 0 ≤ i ∧ i < (N : Int)) (hw : ws.set q0 (a, .inl (g 1, N, .inr (.inl (vp_updL f i.toNat v)))) = ws') (kk : Z E ws' lv k n q st) : Z E ws lv k n pc (.long v :: .int (iI i) :: .ref a :: st) := by
  subst hq; subst hw
  obtain ⟨p, l', e, R, s, m, args, below, meth, c, Q, A, D', g', nL'⟩ := E
  obtain ⟨hx, hb, hml, rfl, rfl, rfl, rfl, rfl, hown, hts, hK, hA⟩ := hC
  intro H locs ls hP hD hS hl
  refine va_last hx hb hK hP hD hS q0 1 he rfl (iI_in hi.1 hi.2 hN) d (fun H locs hP hD hS => ?_)
  rw [iI_cl hi.1 (by omega)] at hP hD
  exact kk H locs ls hP hD hS hl
theorem z_lcmpE (q : Nat) (hC : ZC E cc own Ts rm nL D g l) {x y : Int64} (d : decode cc pc = .ok (.lcmp, 1)) (hq : pc + 1 = q) (h : x = y) (kk : Z E ws lv k n q (.int (iI 0) :: st)) : Z E ws lv k n pc (.long y :: .long x :: st) := by
  subst hq; subst h
  obtain ⟨p, l', e, R, s, m, args, below, meth, c, Q, A, D', g', nL'⟩ := E
  obtain ⟨hx, hb, hml, rfl, rfl, rfl, rfl, rfl, hown, hts, hK, hA⟩ := hC
  intro H locs ls hP hD hS hl
  refine W.lcmp hx hb d ?_
  have e9 : lg_cmp x x = iI 0 := by
    unfold lg_cmp
    rw [if_neg (by simp [Int64.lt_iff_toInt_lt]), if_pos rfl]; rfl
  rw [e9]
  exact kk H locs ls hP hD hS hl
/-- what is answered when a double is compared with itself -/
def dcI (x : UInt64) : Int := (Op.cmpValue (FP.dcmp x x) .l).toInt
theorem z_dcmpE (q : Nat) (hC : ZC E cc own Ts rm nL D g l) {x : UInt64} (d : decode cc pc = .ok (.dcmp .l, 1)) (hq : pc + 1 = q) (kk : Z E ws lv k n q (.int (iI (dcI x)) :: st)) : Z E ws lv k n pc (.double x :: .double x :: st) := by
  subst hq
  obtain ⟨p, l', e, R, s, m, args, below, meth, c, Q, A, D', g', nL'⟩ := E
  obtain ⟨hx, hb, hml, rfl, rfl, rfl, rfl, rfl, hown, hts, hK, hA⟩ := hC
  intro H locs ls hP hD hS hl
  refine lv_dcmp hx hb d ?_
  rw [iI_of (Op.cmpValue (FP.dcmp x x) .l)]
  exact kk H locs ls hP hD hS hl
theorem z_dload (q : Nat) (hC : ZC E cc own Ts rm nL D g l) (t : Nat) {i : Nat} {x : UInt64} (d : decode cc pc = .ok (.dload i, 2)) (hq : pc + 2 = q) (hk : lv[t]? = some (i, .double x)) (kk : Z E ws lv k n q (.double x :: st)) : Z E ws lv k n pc (st) := by
  subst hq
  obtain ⟨p, l', e, R, s, m, args, below, meth, c, Q, A, D', g', nL'⟩ := E
  obtain ⟨hx, hb, hml, rfl, rfl, rfl, rfl, rfl, hown, hts, hK, hA⟩ := hC
  intro H locs ls hP hD hS hl
  exact lv_dload hx hb d (lv_at hl t hk) (kk H locs ls hP hD hS hl)
theorem z_dstore (q : Nat) (hC : ZC E cc own Ts rm nL D g l) {i : Nat} {x : UInt64} (d : decode cc pc = .ok (.dstore i, 2)) (hq : pc + 2 = q) (hn : i + 1 < nL) (hl9 : (i, Value.double x) :: lv.filter (fun q => !(q.1 == i) && (!(q.1 == i + 1) && !(q.1 + 1 == i && q.2.category == 2))) = lv') (kk : Z E ws lv' k n q st) : Z E ws lv k n pc (.double x :: st) := by
  subst hq
  obtain ⟨p, l', e, R, s, m, args, below, meth, c, Q, A, D', g', nL'⟩ := E
  obtain ⟨hx, hb, hml, rfl, rfl, rfl, rfl, rfl, hown, hts, hK, hA⟩ := hC
  intro H locs ls hP hD hS hl
  exact lv_dstore hx hb d hl hn hl9 (fun ls hl => kk H locs ls hP hD hS hl)
theorem and31 (a : Int) : iI a &&& iI 31 = iI (a % 32) := by
  rw [pk_and (iI a) 5 (by decide), iI_nI (by omega : 0 ≤ a % 32)]
  congr 1
  have h1 : (iI a).toBitVec.toNat = (a % 4294967296).toNat := by
    show (BitVec.ofInt 32 a).toNat = _
    rw [BitVec.toNat_ofInt]
    rfl
  rw [h1]
  omega
theorem z_and31 (q : Nat) (hC : ZC E cc own Ts rm nL D g l) {a : Int} (d : decode cc pc = .ok (.iand, 1)) (hq : pc + 1 = q) (kk : Z E ws lv k n q (.int (iI (a % 32)) :: st)) : Z E ws lv k n pc (.int (iI 31) :: .int (iI a) :: st) := by
  subst hq
  obtain ⟨p, l', e, R, s, m, args, below, meth, c, Q, A, D', g', nL'⟩ := E
  obtain ⟨hx, hb, hml, rfl, rfl, rfl, rfl, rfl, hown, hts, hK, hA⟩ := hC
  intro H locs ls hP hD hS hl
  exact lv_iand hx hb d (by rw [and31]; exact kk H locs ls hP hD hS hl)
end ZH
