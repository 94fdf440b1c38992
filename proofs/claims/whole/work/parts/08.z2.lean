/-! what is made: arrays, objects -/
section ZMK
variable {E : ZE} {cc : ByteArray} {own : String} {Ts : List Cond} {rm : Room} {nL : Nat} {D : va_G} {g : Nat → ClassId} {l : Launch} {ws : va_W} {lv lv' : List (Nat × Value)} {k n k2 n2 pc : Nat} {st : List Value}
theorem z_newi (q : Nat) (hC : ZC E cc own Ts rm nL D g l) {N : Nat} {ws' : Nat → va_W} (harr : Cond.arrayClass .int ∈ Ts) (hN : N < 2147483648) (hby : N * componentBytes .int ≤ 536870912) (hk : k + 1 ≤ rm.cells) (hn : n + N ≤ rm.slots) (d : decode cc pc = .ok (.newarray .int, 2)) (hq : pc + 2 = q) (hk2 : k + 1 = k2) (hn2 : n + N = n2) (hw : ∀ x, ws ++ [(x, .inl (g 0, N, .inl (ia (fun _ => 0))))] = ws' x) (kk : ∀ x : Nat, Z E (ws' x) lv k2 n2 q (.ref x :: st)) : Z E ws lv k n pc (.int (iI (N : Int)) :: st) := by
  subst hq; subst hk2; subst hn2
  obtain ⟨p, l', e, R, s, m, args, below, meth, c, Q, A, D', g', nL'⟩ := E
  obtain ⟨hx, hb, hml, rfl, rfl, rfl, rfl, rfl, hown, hts, hK, hA⟩ := hC
  intro H locs ls hP hD hS hl
  have eN : (iI (N : Int)).toNatClampNeg = N := by rw [iI_cl (by omega) (by omega)]; omega
  have n0 : ¬ iI (N : Int) < 0 := by rw [← iI_0, iI_lt (by omega) (by omega)]; omega
  refine va_newa (ty := .int) (atype := .int) (a0 := (N, .inl (ia (fun _ => 0)))) hx hb (hts _ harr) rfl hK hP hD hS hA (fun _ => rfl) n0 eN hby hk hn d (fun x cA H hK2 hP hD hS => ?_)
  have e1 : s.vm.findClass ("[" ++ (FieldType.toString .int)) = some cA := (hK2.2 4 _ rfl).2
  have e2 : s.vm.findClass ("[" ++ (FieldType.toString .int)) = some (g' 0) := (hK.2 0 _ rfl).2
  have e3 : cA = g' 0 := Option.some.inj (e1.symm.trans e2)
  subst e3
  rw [hw x] at hP hD
  exact kk x H locs ls hP hD hS hl
theorem z_newz (q : Nat) (hC : ZC E cc own Ts rm nL D g l) {N : Nat} {ws' : Nat → va_W} (harr : Cond.arrayClass .boolean ∈ Ts) (hN : N < 2147483648) (hby : N * componentBytes .boolean ≤ 536870912) (hk : k + 1 ≤ rm.cells) (hn : n + N ≤ rm.slots) (d : decode cc pc = .ok (.newarray .boolean, 2)) (hq : pc + 2 = q) (hk2 : k + 1 = k2) (hn2 : n + N = n2) (hw : ∀ x, ws ++ [(x, .inl (g 2, N, .inl (ia (fun _ => 0))))] = ws' x) (kk : ∀ x : Nat, Z E (ws' x) lv k2 n2 q (.ref x :: st)) : Z E ws lv k n pc (.int (iI (N : Int)) :: st) := by
  subst hq; subst hk2; subst hn2
  obtain ⟨p, l', e, R, s, m, args, below, meth, c, Q, A, D', g', nL'⟩ := E
  obtain ⟨hx, hb, hml, rfl, rfl, rfl, rfl, rfl, hown, hts, hK, hA⟩ := hC
  intro H locs ls hP hD hS hl
  have eN : (iI (N : Int)).toNatClampNeg = N := by rw [iI_cl (by omega) (by omega)]; omega
  have n0 : ¬ iI (N : Int) < 0 := by rw [← iI_0, iI_lt (by omega) (by omega)]; omega
  refine va_newa (ty := .boolean) (atype := .boolean) (a0 := (N, .inl (ia (fun _ => 0)))) hx hb (hts _ harr) rfl hK hP hD hS hA (fun _ => rfl) n0 eN hby hk hn d (fun x cA H hK2 hP hD hS => ?_)
  have e1 : s.vm.findClass ("[" ++ (FieldType.toString .boolean)) = some cA := (hK2.2 4 _ rfl).2
  have e2 : s.vm.findClass ("[" ++ (FieldType.toString .boolean)) = some (g' 2) := (hK.2 2 _ rfl).2
  have e3 : cA = g' 2 := Option.some.inj (e1.symm.trans e2)
  subst e3
  rw [hw x] at hP hD
  exact kk x H locs ls hP hD hS hl
theorem z_newl (q : Nat) (hC : ZC E cc own Ts rm nL D g l) {N : Nat} {ws' : Nat → va_W} (harr : Cond.arrayClass .long ∈ Ts) (hN : N < 2147483648) (hby : N * componentBytes .long ≤ 536870912) (hk : k + 1 ≤ rm.cells) (hn : n + N ≤ rm.slots) (d : decode cc pc = .ok (.newarray .long, 2)) (hq : pc + 2 = q) (hk2 : k + 1 = k2) (hn2 : n + N = n2) (hw : ∀ x, ws ++ [(x, .inl (g 1, N, .inr (.inl (fun _ => 0))))] = ws' x) (kk : ∀ x : Nat, Z E (ws' x) lv k2 n2 q (.ref x :: st)) : Z E ws lv k n pc (.int (iI (N : Int)) :: st) := by
  subst hq; subst hk2; subst hn2
  obtain ⟨p, l', e, R, s, m, args, below, meth, c, Q, A, D', g', nL'⟩ := E
  obtain ⟨hx, hb, hml, rfl, rfl, rfl, rfl, rfl, hown, hts, hK, hA⟩ := hC
  intro H locs ls hP hD hS hl
  have eN : (iI (N : Int)).toNatClampNeg = N := by rw [iI_cl (by omega) (by omega)]; omega
  have n0 : ¬ iI (N : Int) < 0 := by rw [← iI_0, iI_lt (by omega) (by omega)]; omega
  refine va_newa (ty := .long) (atype := .long) (a0 := (N, .inr (.inl (fun _ => 0)))) hx hb (hts _ harr) rfl hK hP hD hS hA (fun _ => rfl) n0 eN hby hk hn d (fun x cA H hK2 hP hD hS => ?_)
  have e1 : s.vm.findClass ("[" ++ (FieldType.toString .long)) = some cA := (hK2.2 4 _ rfl).2
  have e2 : s.vm.findClass ("[" ++ (FieldType.toString .long)) = some (g' 1) := (hK.2 1 _ rfl).2
  have e3 : cA = g' 1 := Option.some.inj (e1.symm.trans e2)
  subst e3
  rw [hw x] at hP hD
  exact kk x H locs ls hP hD hS hl
theorem z_objInit (q : Nat) (hC : ZC E cc own Ts rm nL D g l) {idx a : Nat} (h1 : Cond.methodLink own idx Lib.objectInit ∈ Ts) (h2 : Cond.instanceMethod Lib.objectInit ∈ Ts) (h3 : Cond.code Lib.objectInit ⟨#[0xb1]⟩ 1 none ∈ Ts) (hf : 1 ≤ rm.frames) (hlo : 0 + (st.map fun v => v.category).sum + 12 ≤ rm.locals) (d : decode cc pc = .ok (.invokespecial idx, 3)) (hq : pc + 3 = q) (kk : Z E ws lv k n q st) : Z E ws lv k n pc (.ref a :: st) := by
  subst hq
  obtain ⟨p, l', e, R, s, m, args, below, meth, c, Q, A, D', g', nL'⟩ := E
  obtain ⟨hx, hb, hml, rfl, rfl, rfl, rfl, rfl, hown, hts, hK, hA⟩ := hC
  intro H locs ls hP hD hS hl
  refine W.objInit hx hb hown (hts _ h1) (hts _ h2) (hts _ h3) rfl (by rw [hml]; exact hl.1) rfl d hf hlo ?_
  exact kk H locs ls hP hD hS hl
theorem z_new (q ci : Nat) (hC : ZC E cc own Ts rm nL D g l) {C : String} {T : u_T} {N index : Nat} {fs : List Value} {ws' : Nat → va_W} (hin : ∀ w ∈ u_ws C T N, w ∈ Ts) (ty : Nat → FieldType) (hty : ∀ k, k < N → parseFieldDescriptor (T k).2.2.1 = some (ty k)) (h1 : Cond.classLink own index C ∈ Ts) (h2 : Cond.instantiable C N ∈ Ts) (h3 : Cond.initialized C ∈ Ts) (hc : vwCl[ci]? = some (C, T, N)) (hfs : ∀ j, j < N → defaultValue (ty j) = vp_V fs j) (hk : k + 1 ≤ rm.cells) (hn : n + N ≤ rm.slots) (d : decode cc pc = .ok (.new index, 3)) (hq : pc + 3 = q) (hk2 : k + 1 = k2) (hn2 : n + N = n2) (hw : ∀ x, ws ++ [(x, .inr (ci, fs))] = ws' x) (kk : ∀ x : Nat, Z E (ws' x) lv k2 n2 q (.ref x :: st)) : Z E ws lv k n pc st := by
  subst hq; subst hk2; subst hn2
  obtain ⟨p, l', e, R, s, m, args, below, meth, c, Q, A, D', g', nL'⟩ := E
  obtain ⟨hx, hb, hml, rfl, rfl, rfl, rfl, rfl, hown, hts, hK, hA⟩ := hC
  intro H locs ls hP hD hS hl
  refine va_new (ci := ci) (fs := fs) (C := C) (T := T) (N := N) hx hb hts hin ty hty hown (hts _ h1) (hts _ h2) (hts _ h3) hK hP hD hS hA hc hfs hk hn d (fun x H hP hD hS => ?_)
  rw [hw x] at hP hD
  exact kk x H locs ls hP hD hS hl
theorem z_putF (q q0 kf : Nat) (hC : ZC E cc own Ts rm nL D g l) {C : String} {T : u_T} {N ci index a : Nat} {fs : List Value} {v : Value} {ty : FieldType} {ws' : va_W} (ty0 : Nat → FieldType) (hty : ∀ k, k < N → parseFieldDescriptor (T k).2.2.1 = some (ty0 k)) (hnm : ∀ a, a < N → ∀ b, b < N → a ≠ b → (T a).2.1 ≠ (T b).2.1) (hin : ∀ w ∈ u_ws C T N, w ∈ Ts) (hL : Cond.fieldLink own index (T kf).1 (T kf).2.1 (T kf).2.2.1 ∈ Ts) (d : decode cc pc = .ok (.putfield index, 3)) (hq : pc + 3 = q) (he : ws[q0]? = some (a, .inr (ci, fs))) (hc : vwCl[ci]? = some (C, T, N)) (hk : kf < N) (hfin : (T kf).2.2.2 = true) (hI : ZIn E) (hdecl : (T kf).1 = own) (hd : parseFieldDescriptor (T kf).2.2.1 = some ty) (hn : narrow ty v = v) (hfit : fits ty v = true) (hlen : kf < fs.length) (hw : ws.set q0 (a, .inr (ci, fs.set kf v)) = ws') (kk : Z E ws' lv k n q st) : Z E ws lv k n pc (v :: .ref a :: st) := by
  subst hq; subst hw
  obtain ⟨p, l', e, R, s, m, args, below, meth, c, Q, A, D', g', nL'⟩ := E
  obtain ⟨hx, hb, hml, rfl, rfl, rfl, rfl, rfl, hown, hts, hK, hA⟩ := hC
  intro H locs ls hP hD hS hl
  exact va_putF hx hb hts hin ty0 hty hnm hown hK hP hD hS q0 he hc kf hk (hts _ hL) (fun _ h9 => h9) hfin hI hdecl hd hn hfit hlen d (fun H locs hP hD hS => kk H locs ls hP hD hS hl)
theorem z_putR (q q0 kf : Nat) (hC : ZC E cc own Ts rm nL D g l) {C : String} {T : u_T} {N ci index a : Nat} {fs : List Value} {v : Value} {ty : FieldType} {ws' : va_W} (ty0 : Nat → FieldType) (hty : ∀ k, k < N → parseFieldDescriptor (T k).2.2.1 = some (ty0 k)) (hnm : ∀ a, a < N → ∀ b, b < N → a ≠ b → (T a).2.1 ≠ (T b).2.1) (hin : ∀ w ∈ u_ws C T N, w ∈ Ts) (hL : Cond.fieldLink own index (T kf).1 (T kf).2.1 (T kf).2.2.1 ∈ Ts) (d : decode cc pc = .ok (.putfield index, 3)) (hq : pc + 3 = q) (he : ws[q0]? = some (a, .inr (ci, fs))) (hc : vwCl[ci]? = some (C, T, N)) (hk : kf < N) (hfin : (T kf).2.2.2 = false) (hd : parseFieldDescriptor (T kf).2.2.1 = some ty) (hn : narrow ty v = v) (hfit : fits ty v = true) (hlen : kf < fs.length) (hw : ws.set q0 (a, .inr (ci, fs.set kf v)) = ws') (kk : Z E ws' lv k n q st) : Z E ws lv k n pc (v :: .ref a :: st) := by
  subst hq; subst hw
  obtain ⟨p, l', e, R, s, m, args, below, meth, c, Q, A, D', g', nL'⟩ := E
  obtain ⟨hx, hb, hml, rfl, rfl, rfl, rfl, rfl, hown, hts, hK, hA⟩ := hC
  intro H locs ls hP hD hS hl
  exact va_put hx hb hts hin ty0 hty hnm hown hK hP hD hS q0 he hc kf hk (hts _ hL) (fun _ h9 => h9) hfin hd hn hfit hlen d (fun H locs hP hD hS => kk H locs ls hP hD hS hl)
end ZMK
section ZRI
variable {E : ZE} {cc : ByteArray} {own : String} {Ts : List Cond} {rm : Room} {nL : Nat} {D : va_G} {g : Nat → ClassId} {l : Launch} {ws ws' w0 wr : va_W} {lv lv' : List (Nat × Value)} {k n k2 n2 pc mc ms index maxL nA b : Nat} {st As rest : List Value} {y : MethodName} {wsY wsY' : List Cond} {rmY : Room} {bytes : ByteArray} {Qa : Nat → Array Value → State → Outcome → State → Prop}
theorem z_runI (hC : ZC E cc own Ts rm nL D g l) (hN : ZNst E) (hM : ∀ sz, Met l y wsY rmY (zPc D g (.ref b :: As) w0 zTr sz) (Qa sz) mc ms (va_A w0 sz)) (isC : List Nat) (hCp : isC.map (fun i => ws[i]?) = w0.map some) (hCn : va_nd isC = true) (hT : GoodIn Ts wsY) (hini : Cond.initialized y.cls ∈ Ts) (hlk : Cond.methodLink own index y ∈ Ts) (hin : Cond.instanceMethod y ∈ Ts) (hyn : y.name = "<init>") (hd : y.cls ≠ "java/lang/invoke/MethodHandle" ∧ y.cls ≠ "java/lang/invoke/VarHandle" ∧ (parseMethodDescriptor y.desc).map (fun d => d.parameters.length) = some nA) (hw : wsY = Cond.code y bytes maxL none :: wsY') (hrc : rmY.cells = mc) (hrs : rmY.slots = ms) (hR : rmY.frames + 1 ≤ rm.frames ∧ 8 + (maxL + 11) + rmY.locals ≤ rm.locals) (hnA : As.length = nA) (hst : st = As.reverse ++ .ref b :: rest) (hcat : (rest.map fun v => v.category).sum ≤ 8) (d : decode cc pc = .ok (.invokespecial index, 3)) (hf : k + mc ≤ rm.cells ∧ n + ms ≤ rm.slots) : ZRun E ws lv k n pc st rest mc ms (fun sz => Qa sz ((.ref b :: As) : List Value).toArray) w0 := by
  obtain ⟨p, l', e, R, s, m, args, below, meth, c, Q, A, D', g', nL'⟩ := E
  obtain ⟨hx, hb, hml, rfl, rfl, rfl, rfl, rfl, hown, hts, hK, hA⟩ := hC
  intro H locs ls hP hD hS hl
  have hPc := hP.sub isC (zfm hCp)
  have hDc := hD.sub isC hCn hCp
  exact va_runI ⟨hx, hb, hml, hown, hts⟩ (hM H.size) (cwI nA hts hT hw hrc hrs (hts _ hini) (hts _ hlk) (hts _ hin) hyn hd hR) ⟨zPc_blind, fun U hU hW => ⟨rfl, by rw [hU], by rw [hU]; exact hPc, va_K.moved hW.alike hK, hDc.weaken (fun _ _ _ _ => trivial), zNs.warm hW hN, trivial⟩⟩ rfl hnA hl.1 hst (lv_room hcat) d hf
theorem z_runIN (hC : ZC E cc own Ts rm nL D g l) (hN : ZNst E) (hM : ∀ sz, Met l y wsY rmY (zPc D g (.ref b :: As) w0 zTr sz) (Qa sz) mc ms (va_A w0 sz)) (isC : List Nat) (hCp : isC.map (fun i => ws[i]?) = w0.map some) (hCn : va_nd isC = true) {host : String} (hT : GoodIn Ts wsY) (hini : Cond.initialized y.cls ∈ Ts) (hlk : Cond.methodLinkNest own index y host ∈ zNest) (hin : Cond.instanceMethod y ∈ Ts) (hyn : y.name = "<init>") (hd : y.cls ≠ "java/lang/invoke/MethodHandle" ∧ y.cls ≠ "java/lang/invoke/VarHandle" ∧ (parseMethodDescriptor y.desc).map (fun d => d.parameters.length) = some nA) (hw : wsY = Cond.code y bytes maxL none :: wsY') (hrc : rmY.cells = mc) (hrs : rmY.slots = ms) (hR : rmY.frames + 1 ≤ rm.frames ∧ 8 + (maxL + 11) + rmY.locals ≤ rm.locals) (hnA : As.length = nA) (hst : st = As.reverse ++ .ref b :: rest) (hcat : (rest.map fun v => v.category).sum ≤ 8) (d : decode cc pc = .ok (.invokespecial index, 3)) (hf : k + mc ≤ rm.cells ∧ n + ms ≤ rm.slots) : ZRun E ws lv k n pc st rest mc ms (fun sz => Qa sz ((.ref b :: As) : List Value).toArray) w0 := by
  obtain ⟨p, l', e, R, s, m, args, below, meth, c, Q, A, D', g', nL'⟩ := E
  obtain ⟨hx, hb, hml, rfl, rfl, rfl, rfl, rfl, hown, hts, hK, hA⟩ := hC
  intro H locs ls hP hD hS hl
  have hPc := hP.sub isC (zfm hCp)
  have hDc := hD.sub isC hCn hCp
  exact va_runIN ⟨hx, hb, hml, hown, hts⟩ (hM H.size) (⟨va_cnB nA hts hT hw hrc hrs (hN.1 _ hlk) (hts _ hini) hd hR, hyn, hts _ hin⟩) ⟨zPc_blind, fun U hU hW => ⟨rfl, by rw [hU], by rw [hU]; exact hPc, va_K.moved hW.alike hK, hDc.weaken (fun _ _ _ _ => trivial), zNs.warm hW hN, trivial⟩⟩ rfl hnA hl.1 hst (lv_room hcat) d hf
end ZRI
