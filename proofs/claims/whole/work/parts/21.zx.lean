/-! methods that may throw -/
def zEx : List String := ["java/lang/RuntimeException", "java/lang/Exception"]
def zStr : List (Nat × String) := [(49, "there are 4 teams"), (56, "the hour is not 0 to 11"), (98, "3 sticks of the team stand"), (104, "there is a stick on the cell, or it is under water"), (172, "there are not so many teams"), (221, "there is no such team"), (226, "there is no such cell"), (228, "there is no such number to tell"), (232, "the cell is not in the area of the team"), (235, "n is not 1 to 5"), (237, "the level is not 0 to 30"), (239, "so many hours are not allowed"), (241, "the team has no strength left")]
/-- what a throw needs of the start -/
def zXT (A : Nat → Prop) (U : State) (H : Heap) : Prop := (∀ q ∈ zStr, ∃ a, vk_R RX1 q.1 q.2 a U) ∧ vx_Zq Bundle.tN "UNASSIGNED_STACK" Bundle.steD A U H ∧ vx_Zq Bundle.tN "SUPPRESSED_SENTINEL" Bundle.listD A U H
def zXU (w0 : va_W) (sz : Nat) : State → Prop := fun U => zXT (va_A w0 sz) U U.heap
theorem zXT.same {A : Nat → Prop} {u U : State} {H : Heap} (h : u.vm = U.vm) (hX : zXT A u H) : zXT A U H := ⟨fun q hq => by obtain ⟨a, ha⟩ := hX.1 q hq; exact ⟨a, vk_R.same h.symm ha⟩, vx_Zq.moved (by rw [h]; exact Vm.Alike.refl _) hX.2.1, vx_Zq.moved (by rw [h]; exact Vm.Alike.refl _) hX.2.2⟩
theorem zXT.call {A B : Nat → Prop} {s U : State} {H : Heap} {locs : List Loc} (hW : s.WarmedH U.vm) (hS : va_S A s.heap H locs) (hAB : ∀ q, B q → A q) (hX : zXT A s s.heap) : zXT B U H :=
  ⟨fun q hq => by obtain ⟨a, ha⟩ := hX.1 q hq; exact ⟨a, vk_R.warm hW ha⟩, vx_Zq.moved hW.alike ((hX.2.1.kept (fun a h1 h2 => hS.2.1 a h1 h2)).narrow hAB), vx_Zq.moved hW.alike ((hX.2.2.kept (fun a h1 h2 => hS.2.1 a h1 h2)).narrow hAB)⟩
def zBX (D : va_G) (g : Nat → ClassId) (w0 : va_W) (sz : Nat) (postx : String → Prop) : String → Unit → State → Prop := fun Ex _ t => postx Ex ∧ va_P D vwCl w0 t.heap ∧ va_K D vwCl (zT g) t ∧ va_D (va_A w0 sz) w0
def zXC (D : va_G) (g : Nat → ClassId) (w0 : va_W) (postx : String → Prop) (sz : Nat) : String → State → State → Prop := vx_X (fun _ : Unit => True) (zBX D g w0 sz postx) (va_A w0 sz)
def ZXi {S : Type} (l : Launch) (y : MethodName) (wsY : List Cond) (rm : Room) (D : va_G) (g : Nat → ClassId) (av : List Value) (w0 : va_W) (post : Int → S → Prop) (w1 : S → va_W) (postx : String → Prop) (mc ms : Nat) : Prop :=
  ∀ sz : Nat, vx_Met l y wsY rm (zPc D g av w0 (zXU w0 sz) sz) (va_Qi (fun r u => ∃ z, r = iI z ∧ post z u) (zB D g w0 sz w1) (va_A w0 sz)) (zXC D g w0 postx sz) mc ms (va_A w0 sz)
def ZXv {S : Type} (l : Launch) (y : MethodName) (wsY : List Cond) (rm : Room) (D : va_G) (g : Nat → ClassId) (av : List Value) (w0 : va_W) (post : S → Prop) (w1 : S → va_W) (postx : String → Prop) (mc ms : Nat) : Prop :=
  ∀ sz : Nat, vx_Met l y wsY rm (zPc D g av w0 (zXU w0 sz) sz) (va_Qv post (zB D g w0 sz w1) (va_A w0 sz)) (zXC D g w0 postx sz) mc ms (va_A w0 sz)
def ZXl {S : Type} (l : Launch) (y : MethodName) (wsY : List Cond) (rm : Room) (D : va_G) (g : Nat → ClassId) (av : List Value) (w0 : va_W) (post : Int64 → S → Prop) (w1 : S → va_W) (postx : String → Prop) (mc ms : Nat) : Prop :=
  ∀ sz : Nat, vx_Met l y wsY rm (zPc D g av w0 (zXU w0 sz) sz) (va_Ql post (zB D g w0 sz w1) (va_A w0 sz)) (zXC D g w0 postx sz) mc ms (va_A w0 sz)
theorem zPc_blindX {D : va_G} {g : Nat → ClassId} {av : List Value} {w0 : va_W} {sz : Nat} : FrameBlind (zPc D g av w0 (zXU w0 sz) sz) := fun a U g9 mk q => by
  obtain ⟨q0, q1, qP, qK, qD, qN, qX⟩ := q
  exact ⟨q0, q1, qP, va_K.moved (u := U) (U := U.calling g9 mk a) (Vm.Alike.refl U.vm) qK, qD, zNs.same (u := U) (U := U.calling g9 mk a) rfl qN, zXT.same (u := U) (U := U.calling g9 mk a) rfl qX⟩
/-- the start's facts for throws -/
def ZXt (E : ZE) : Prop := match E with
  | (_, _, _, _, s, _, _, _, _, _, _, A, _, _, _) => zXT A s s.heap
/-- an exception of such a class goes its way from here -/
def ZThr (E : ZE) (ws : va_W) (lv : List (Nat × Value)) (k n pc : Nat) (rest : List Value) (px : String → Prop) : Prop := match E with
  | (p, l, e, R, s, m, args, below, meth, c, Q, A, D, _, nL) => ∀ (Ex : String) (ce : Cell) (q9 : Addr) (H : Heap) (locs : List Loc) (ls : Array Slot), px Ex → va_P D vwCl ws H → va_D A ws → va_S A s.heap H locs → lv_has ls nL lv → H[q9]? = some ce → ce.vm = .none → s.vm.findClass Ex = some ce.cls → vx_W p l e R s m args below meth c H locs k n Q (F0 m pc ls rest) q9
/-- a throw of 'new Ex("text")' from here -/
def ZNew (E : ZE) (cc : ByteArray) (wsY : List Cond) (w0 : va_W) (rm : Room) (postx : String → Prop) (mc ms : Nat) : Prop := ∀ {pc k n ik is ic : Nat} {lv : List (Nat × Value)} {st : List Value} {cls text : String},
  Bundle.fit cls = true → Cond.classLink RX1 ik cls ∈ wsY → Cond.initialized cls ∈ wsY → (is, text) ∈ zStr → (∀ w ∈ (vx_atS RX1 ic cls zEx).filter goodWord, w ∈ wsY) → (∀ w ∈ (vx_atS RX1 ic cls zEx).filter (fun w => !goodWord w), w ∈ zNest) → (∀ w ∈ Cond.classLink RX1 ik cls :: Cond.initialized cls :: vx_atS RX1 ic cls zEx, vx_ot w = true) →
  decode cc pc = .ok (.new ik, 3) → decode cc (pc + 3) = .ok (.dup, 1) → decode cc (pc + 4) = .ok (.ldc is, 2) → decode cc (pc + 6) = .ok (.invokespecial ic, 3) → decode cc (pc + 9) = .ok (.athrow, 1) →
  5 < rm.frames → (st.map fun v => v.category).sum + 82 ≤ rm.locals → k + 1 ≤ rm.cells → n + 6 ≤ rm.slots → k + 1 ≤ mc → n + 6 ≤ ms → postx cls → Z E w0 lv k n pc st
/-- a cell that stands in a heap stands in one that keeps it -/
theorem va_at_keep {D : va_G} {cl : List vw_C} {q : Nat × va_E} {H H1 : Heap} (h : va_at D cl q H) (hk : ∀ a : Nat, a < H.size → H1[a]? = H[a]?) : va_at D cl q H1 := h.kept (hk q.1 h.lt)
theorem ZXi.of {S : Type} {l : Launch} (hlf : l.stackTraces = false) {y : MethodName} {wsY ws' : List Cond} {rm : Room} {D : va_G} {g : Nat → ClassId} {av : List Value} {w0 : va_W} {post : Int → S → Prop} {w1 : S → va_W} {postx : String → Prop} {mc ms : Nat} (cc : ByteArray) (maxL : Nat) {ty : FieldType} (lv0 : List (Nat × Value)) (hy : plainName y.cls = true) (hw : wsY = Cond.code y cc maxL (some ty) :: ws') (hlen : (lg_sl av).length ≤ maxL) (hlv : lv_args 0 av = lv0) (hown : y.cls = RX1)
    (body : ∀ E : ZE, ZC E cc RX1 wsY rm maxL D g l → ZNst E → ZXt E → (∀ {pc : Nat} {lv : List (Nat × Value)} {z : Int} (u : S), decode cc pc = .ok (.ireturn, 1) → narrow ty (.int (iI z)) = .int (iI z) → post z u → Z E (w1 u) lv mc ms pc [.int (iI z)]) → ZNew E cc wsY w0 rm postx mc ms → (∀ {pc k n : Nat} {lv : List (Nat × Value)} {rest : List Value} {px : String → Prop}, k ≤ mc → n ≤ ms → (∀ Ex, px Ex → postx Ex) → ZThr E w0 lv k n pc rest px) → Z E w0 lv0 0 0 0 []) : ZXi l y wsY rm D g av w0 post w1 postx mc ms := by
  intro sz
  refine vx_ofW (cc := cc) (maxL := maxL) (ret := some ty) hy hw ?_
  intro p e s m args below meth c s₁ B hml hnoh hv
  obtain ⟨rfl, hsz, hP, hK, hD0, hN, hX⟩ := hv
  subst hsz
  have hE := body (p, l, e, (headSpec wsY rm).room, s, m, av.toArray, below, meth, c, vx_MQ below (va_Qi (fun r u => ∃ z, r = iI z ∧ post z u) (zB D g w0 s.heap.size w1) (va_A w0 s.heap.size)) (zXC D g w0 postx s.heap.size) av.toArray s mc ms (va_A w0 s.heap.size), va_A w0 s.heap.size, D, g, maxL) ⟨B.exec, B.bytes, hml, rfl, rfl, rfl, rfl, rfl, by rw [← hown]; exact findClass_of_methodNamed B.named, atoms_spec B.pre, hK, fun q h => Or.inr h⟩ hN hX ?_ ?_ ?_
  · have hl := lv_entry av (n := maxL) hlen
    rw [lg_entry_eq]
    exact hE s.heap [] _ hP hD0.self va_S.rf (by rw [← hlv]; exact hl)
  · intro pc lv z u hd hn hp
    intro H locs ls hP hD hS hl
    refine vx_ret ?_
    exact W.zret (v := iI z) B.exec B.bytes B.returns hn (fun t ht hW => ⟨⟨iI z, u, rfl, ⟨z, rfl, hp⟩, ⟨by rw [ht]; exact hP, va_K.moved hW.alike hK, hD⟩⟩, hS.F ht⟩) hS.2.2 hd B.notSynchronized
  · intro pc k n ik is ic lv st cls text hfit hk hini hstr hat1 hat2 hgood d0 d3 d4 d6 d9 hfr hlo hkc hns hkm hnm hpx
    intro H locs ls hP hD hS hl
    have hts := atoms_spec (ws := wsY) B.pre
    obtain ⟨sa, hsa⟩ := hX.1 _ hstr
    have h3 : ∀ w ∈ zNest, w.before av.toArray s = true := fun w hw => va_Nw.use (by revert w; decide +kernel) (hN.1 w hw)
    exact vx_throwS (own := RX1) (cls := cls) (text := text) (names := zEx) (sa := sa) B.exec B.bytes hlf (by rw [← hown]; exact findClass_of_methodNamed B.named) hfit (by decide +kernel) (hts _ hk) (hts _ hini) hsa (vx_hat (fun w hw => hts w (hat1 w hw)) hat2 h3) hgood hX.2.1 hX.2.2 hS (hl.1.trans hml.symm) d0 d3 d4 d6 d9 (fun x hx => (hnoh x hx).elim) hfr hlo hkc hns B.notSynchronized
      (fun t hal hsz hk9 => ⟨(), trivial, ⟨hpx, fun i q hq => by
        have h9 := hP i q hq
        exact va_at_keep h9 (fun a ha => hk9 a ha), va_K.moved hal hK, hD⟩, ⟨Nat.le_trans hS.1 hsz, fun q h1 h2 => by rw [hk9 q (Nat.lt_of_lt_of_le h1 hS.1)]; exact hS.2.1 q h1 h2⟩⟩) hS.2.2 hkm hnm
  · intro pc k n lv rest px hkm hnm hpx
    intro Ex ce q9 H locs ls hpe hP hD hS hl hce hcv hcl
    exact vx_out (fun x hx => (hnoh x hx).elim) B.notSynchronized hce hcv hcl (fun t ht hal => ⟨(), trivial, ⟨hpx Ex hpe, by rw [ht]; exact hP, va_K.moved hal hK, hD⟩, hS.F ht⟩) hS.2.2 hkm hnm
theorem ZXv.of {S : Type} {l : Launch} (hlf : l.stackTraces = false) {y : MethodName} {wsY ws' : List Cond} {rm : Room} {D : va_G} {g : Nat → ClassId} {av : List Value} {w0 : va_W} {post : S → Prop} {w1 : S → va_W} {postx : String → Prop} {mc ms : Nat} (cc : ByteArray) (maxL : Nat) {ty : FieldType} (lv0 : List (Nat × Value)) (hy : plainName y.cls = true) (hw : wsY = Cond.code y cc maxL (none) :: ws') (hlen : (lg_sl av).length ≤ maxL) (hlv : lv_args 0 av = lv0) (hown : y.cls = RX1)
    (body : ∀ E : ZE, ZC E cc RX1 wsY rm maxL D g l → ZNst E → ZXt E → (∀ {pc : Nat} {lv : List (Nat × Value)}  (u : S), decode cc pc = .ok (.return_, 1) → post u → Z E (w1 u) lv mc ms pc []) → ZNew E cc wsY w0 rm postx mc ms → (∀ {pc k n : Nat} {lv : List (Nat × Value)} {rest : List Value} {px : String → Prop}, k ≤ mc → n ≤ ms → (∀ Ex, px Ex → postx Ex) → ZThr E w0 lv k n pc rest px) → Z E w0 lv0 0 0 0 []) : ZXv l y wsY rm D g av w0 post w1 postx mc ms := by
  intro sz
  refine vx_ofW (cc := cc) (maxL := maxL) (ret := none) hy hw ?_
  intro p e s m args below meth c s₁ B hml hnoh hv
  obtain ⟨rfl, hsz, hP, hK, hD0, hN, hX⟩ := hv
  subst hsz
  have hE := body (p, l, e, (headSpec wsY rm).room, s, m, av.toArray, below, meth, c, vx_MQ below (va_Qv post (zB D g w0 s.heap.size w1) (va_A w0 s.heap.size)) (zXC D g w0 postx s.heap.size) av.toArray s mc ms (va_A w0 s.heap.size), va_A w0 s.heap.size, D, g, maxL) ⟨B.exec, B.bytes, hml, rfl, rfl, rfl, rfl, rfl, by rw [← hown]; exact findClass_of_methodNamed B.named, atoms_spec B.pre, hK, fun q h => Or.inr h⟩ hN hX ?_ ?_ ?_
  · have hl := lv_entry av (n := maxL) hlen
    rw [lg_entry_eq]
    exact hE s.heap [] _ hP hD0.self va_S.rf (by rw [← hlv]; exact hl)
  · intro pc lv u hd hp
    intro H locs ls hP hD hS hl
    refine vx_ret ?_
    exact W.vret B.exec B.bytes B.returns (fun t ht hW => ⟨⟨u, rfl, hp, ⟨by rw [ht]; exact hP, va_K.moved hW.alike hK, hD⟩⟩, hS.F ht⟩) hS.2.2 hd B.notSynchronized
  · intro pc k n ik is ic lv st cls text hfit hk hini hstr hat1 hat2 hgood d0 d3 d4 d6 d9 hfr hlo hkc hns hkm hnm hpx
    intro H locs ls hP hD hS hl
    have hts := atoms_spec (ws := wsY) B.pre
    obtain ⟨sa, hsa⟩ := hX.1 _ hstr
    have h3 : ∀ w ∈ zNest, w.before av.toArray s = true := fun w hw => va_Nw.use (by revert w; decide +kernel) (hN.1 w hw)
    exact vx_throwS (own := RX1) (cls := cls) (text := text) (names := zEx) (sa := sa) B.exec B.bytes hlf (by rw [← hown]; exact findClass_of_methodNamed B.named) hfit (by decide +kernel) (hts _ hk) (hts _ hini) hsa (vx_hat (fun w hw => hts w (hat1 w hw)) hat2 h3) hgood hX.2.1 hX.2.2 hS (hl.1.trans hml.symm) d0 d3 d4 d6 d9 (fun x hx => (hnoh x hx).elim) hfr hlo hkc hns B.notSynchronized
      (fun t hal hsz hk9 => ⟨(), trivial, ⟨hpx, fun i q hq => by
        have h9 := hP i q hq
        exact va_at_keep h9 (fun a ha => hk9 a ha), va_K.moved hal hK, hD⟩, ⟨Nat.le_trans hS.1 hsz, fun q h1 h2 => by rw [hk9 q (Nat.lt_of_lt_of_le h1 hS.1)]; exact hS.2.1 q h1 h2⟩⟩) hS.2.2 hkm hnm
  · intro pc k n lv rest px hkm hnm hpx
    intro Ex ce q9 H locs ls hpe hP hD hS hl hce hcv hcl
    exact vx_out (fun x hx => (hnoh x hx).elim) B.notSynchronized hce hcv hcl (fun t ht hal => ⟨(), trivial, ⟨hpx Ex hpe, by rw [ht]; exact hP, va_K.moved hal hK, hD⟩, hS.F ht⟩) hS.2.2 hkm hnm
theorem ZXl.of {S : Type} {l : Launch} (hlf : l.stackTraces = false) {y : MethodName} {wsY ws' : List Cond} {rm : Room} {D : va_G} {g : Nat → ClassId} {av : List Value} {w0 : va_W} {post : Int64 → S → Prop} {w1 : S → va_W} {postx : String → Prop} {mc ms : Nat} (cc : ByteArray) (maxL : Nat) {ty : FieldType} (lv0 : List (Nat × Value)) (hy : plainName y.cls = true) (hw : wsY = Cond.code y cc maxL (some .long) :: ws') (hlen : (lg_sl av).length ≤ maxL) (hlv : lv_args 0 av = lv0) (hown : y.cls = RX1)
    (body : ∀ E : ZE, ZC E cc RX1 wsY rm maxL D g l → ZNst E → ZXt E → (∀ {pc : Nat} {lv : List (Nat × Value)} {z : Int64} (u : S), decode cc pc = .ok (.lreturn, 1) → post z u → Z E (w1 u) lv mc ms pc [.long z]) → ZNew E cc wsY w0 rm postx mc ms → (∀ {pc k n : Nat} {lv : List (Nat × Value)} {rest : List Value} {px : String → Prop}, k ≤ mc → n ≤ ms → (∀ Ex, px Ex → postx Ex) → ZThr E w0 lv k n pc rest px) → Z E w0 lv0 0 0 0 []) : ZXl l y wsY rm D g av w0 post w1 postx mc ms := by
  intro sz
  refine vx_ofW (cc := cc) (maxL := maxL) (ret := some .long) hy hw ?_
  intro p e s m args below meth c s₁ B hml hnoh hv
  obtain ⟨rfl, hsz, hP, hK, hD0, hN, hX⟩ := hv
  subst hsz
  have hE := body (p, l, e, (headSpec wsY rm).room, s, m, av.toArray, below, meth, c, vx_MQ below (va_Ql post (zB D g w0 s.heap.size w1) (va_A w0 s.heap.size)) (zXC D g w0 postx s.heap.size) av.toArray s mc ms (va_A w0 s.heap.size), va_A w0 s.heap.size, D, g, maxL) ⟨B.exec, B.bytes, hml, rfl, rfl, rfl, rfl, rfl, by rw [← hown]; exact findClass_of_methodNamed B.named, atoms_spec B.pre, hK, fun q h => Or.inr h⟩ hN hX ?_ ?_ ?_
  · have hl := lv_entry av (n := maxL) hlen
    rw [lg_entry_eq]
    exact hE s.heap [] _ hP hD0.self va_S.rf (by rw [← hlv]; exact hl)
  · intro pc lv z u hd hp
    intro H locs ls hP hD hS hl
    refine vx_ret ?_
    exact W.lret (v := z) B.exec B.bytes B.returns (fun t ht hW => ⟨⟨z, u, rfl, hp, ⟨by rw [ht]; exact hP, va_K.moved hW.alike hK, hD⟩⟩, hS.F ht⟩) hS.2.2 hd B.notSynchronized
  · intro pc k n ik is ic lv st cls text hfit hk hini hstr hat1 hat2 hgood d0 d3 d4 d6 d9 hfr hlo hkc hns hkm hnm hpx
    intro H locs ls hP hD hS hl
    have hts := atoms_spec (ws := wsY) B.pre
    obtain ⟨sa, hsa⟩ := hX.1 _ hstr
    have h3 : ∀ w ∈ zNest, w.before av.toArray s = true := fun w hw => va_Nw.use (by revert w; decide +kernel) (hN.1 w hw)
    exact vx_throwS (own := RX1) (cls := cls) (text := text) (names := zEx) (sa := sa) B.exec B.bytes hlf (by rw [← hown]; exact findClass_of_methodNamed B.named) hfit (by decide +kernel) (hts _ hk) (hts _ hini) hsa (vx_hat (fun w hw => hts w (hat1 w hw)) hat2 h3) hgood hX.2.1 hX.2.2 hS (hl.1.trans hml.symm) d0 d3 d4 d6 d9 (fun x hx => (hnoh x hx).elim) hfr hlo hkc hns B.notSynchronized
      (fun t hal hsz hk9 => ⟨(), trivial, ⟨hpx, fun i q hq => by
        have h9 := hP i q hq
        exact va_at_keep h9 (fun a ha => hk9 a ha), va_K.moved hal hK, hD⟩, ⟨Nat.le_trans hS.1 hsz, fun q h1 h2 => by rw [hk9 q (Nat.lt_of_lt_of_le h1 hS.1)]; exact hS.2.1 q h1 h2⟩⟩) hS.2.2 hkm hnm
  · intro pc k n lv rest px hkm hnm hpx
    intro Ex ce q9 H locs ls hpe hP hD hS hl hce hcv hcl
    exact vx_out (fun x hx => (hnoh x hx).elim) B.notSynchronized hce hcv hcl (fun t ht hal => ⟨(), trivial, ⟨hpx Ex hpe, by rw [ht]; exact hP, va_K.moved hal hK, hD⟩, hS.F ht⟩) hS.2.2 hkm hnm
def ZRunX (E : ZE) (ws : va_W) (lv : List (Nat × Value)) (k n pc : Nat) (st rest : List Value) (mc ms : Nat) (Qa : Nat → State → Outcome → State → Prop) (XC : Nat → String → State → State → Prop) (w0 : va_W) : Prop := match E with
  | (p, l, e, R, s, m, args, below, meth, c, _, A, D, _, nL) => ∀ (H : Heap) (locs : List Loc) (ls : Array Slot), va_P D vwCl ws H → va_D A ws → va_S A s.heap H locs → lv_has ls nL lv → vx_Run p l e R s m args below meth c H locs k n mc ms (F0 m pc ls st) rest (Qa H.size) (XC H.size) (va_A w0 H.size)
section ZXCALL
variable {E : ZE} {cc : ByteArray} {own : String} {Ts : List Cond} {rm : Room} {nL : Nat} {D : va_G} {g : Nat → ClassId} {l : Launch} {ws ws' w0 wr : va_W} {lv lv' : List (Nat × Value)} {k n k2 n2 pc mc ms index maxL nA b : Nat} {st As rest : List Value} {y : MethodName} {wsY wsY' : List Cond} {rmY : Room} {bytes : ByteArray} {ret : Option FieldType} {Qa : Nat → Array Value → State → Outcome → State → Prop} {XC : Nat → String → State → State → Prop}
theorem z_runXV (hC : ZC E cc own Ts rm nL D g l) (hN : ZNst E) (hX : ZXt E) (hM : ∀ sz, vx_Met l y wsY rmY (zPc D g (.ref b :: As) w0 (zXU w0 sz) sz) (Qa sz) (XC sz) mc ms (va_A w0 sz)) (isC : List Nat) (hCp : isC.map (fun i => ws[i]?) = w0.map some) (hCn : va_nd isC = true) {C : String} {T : u_T} {N ci : Nat} {fs : List Value} (hT : GoodIn Ts (wsV own index C y wsY)) (hd : y.cls = C ∧ y.cls ≠ "java/lang/invoke/MethodHandle" ∧ y.cls ≠ "java/lang/invoke/VarHandle" ∧ (parseMethodDescriptor y.desc).map (fun d => d.parameters.length) = some nA) (hw : wsY = Cond.code y bytes maxL ret :: wsY') (hrc : rmY.cells = mc) (hrs : rmY.slots = ms) (hR : rmY.frames + 1 ≤ rm.frames ∧ 8 + (maxL + 11) + rmY.locals ≤ rm.locals) (hnA : As.length = nA) (hst : st = As.reverse ++ .ref b :: rest) (hcat : (rest.map fun v => v.category).sum ≤ 8) (d : decode cc pc = .ok (.invokevirtual index, 3)) (hf : k + mc ≤ rm.cells ∧ n + ms ≤ rm.slots) (q0 : Nat) (he : ws[q0]? = some (b, .inr (ci, fs))) (hc : vwCl[ci]? = some (C, T, N)) : ZRunX E ws lv k n pc st rest mc ms (fun sz => Qa sz ((.ref b :: As) : List Value).toArray) XC w0 := by
  obtain ⟨p, l', e, R, s, m, args, below, meth, c, Q, A, D', g', nL'⟩ := E
  obtain ⟨hx, hb, hml, rfl, rfl, rfl, rfl, rfl, hown, hts, hK, hA⟩ := hC
  intro H locs ls hP hD hS hl
  have hPc := hP.sub isC (zfm hCp)
  have hDc := hD.sub isC hCn hCp
  have hFc := va_free (wc := w0) hD hS hA isC hCp
  exact vx_runV ⟨hx, hb, hml, hown, hts⟩ (hM H.size) (cwV nA hts hT hw hrc hrs hd hR) ⟨zPc_blindX, va_recv hK hP hc he, fun U hU hW => ⟨rfl, by rw [hU], by rw [hU]; exact hPc, va_K.moved hW.alike hK, hDc.weaken (fun _ _ _ _ => trivial), zNs.warm hW hN, by show zXT _ U U.heap; rw [hU]; exact zXT.call hW hS hFc hX⟩⟩ rfl hnA hl.1 hst (lv_room hcat) d hf
theorem z_runXS (hC : ZC E cc own Ts rm nL D g l) (hN : ZNst E) (hX : ZXt E) (hM : ∀ sz, vx_Met l y wsY rmY (zPc D g (As) w0 (zXU w0 sz) sz) (Qa sz) (XC sz) mc ms (va_A w0 sz)) (isC : List Nat) (hCp : isC.map (fun i => ws[i]?) = w0.map some) (hCn : va_nd isC = true) (hT : GoodIn Ts (va_wsS own index y wsY)) (hd : y.cls ≠ "java/lang/invoke/MethodHandle" ∧ y.cls ≠ "java/lang/invoke/VarHandle" ∧ (parseMethodDescriptor y.desc).map (fun d => d.parameters.length) = some nA) (hw : wsY = Cond.code y bytes maxL ret :: wsY') (hrc : rmY.cells = mc) (hrs : rmY.slots = ms) (hR : rmY.frames + 1 ≤ rm.frames ∧ 8 + (maxL + 11) + rmY.locals ≤ rm.locals) (hnA : As.length = nA) (hst : st = As.reverse ++ rest) (hcat : (rest.map fun v => v.category).sum ≤ 8) (d : decode cc pc = .ok (.invokestatic index, 3)) (hf : k + mc ≤ rm.cells ∧ n + ms ≤ rm.slots)  : ZRunX E ws lv k n pc st rest mc ms (fun sz => Qa sz ((As) : List Value).toArray) XC w0 := by
  obtain ⟨p, l', e, R, s, m, args, below, meth, c, Q, A, D', g', nL'⟩ := E
  obtain ⟨hx, hb, hml, rfl, rfl, rfl, rfl, rfl, hown, hts, hK, hA⟩ := hC
  intro H locs ls hP hD hS hl
  have hPc := hP.sub isC (zfm hCp)
  have hDc := hD.sub isC hCn hCp
  have hFc := va_free (wc := w0) hD hS hA isC hCp
  exact vx_runS ⟨hx, hb, hml, hown, hts⟩ (hM H.size) (va_cwS nA hts hT hw hrc hrs hd hR) ⟨zPc_blindX, fun U hU hW => ⟨rfl, by rw [hU], by rw [hU]; exact hPc, va_K.moved hW.alike hK, hDc.weaken (fun _ _ _ _ => trivial), zNs.warm hW hN, by show zXT _ U U.heap; rw [hU]; exact zXT.call hW hS hFc hX⟩⟩ rfl hnA hl.1 hst (lv_room hcat) d hf
theorem z_callXi (q : Nat) (hC : ZC E cc own Ts rm nL D g l) {S : Type} {a : Array Value} {post : Int → S → Prop} {w1 w2 : S → va_W} {px : String → Prop} (isC isR isO isO2 : List Nat) (hr : ZRunX E ws lv k n pc st rest mc ms (fun sz => va_Qi (fun r u => ∃ z, r = iI z ∧ post z u) (zB D g w0 sz w1) (va_A w0 sz) a) (zXC D g w0 px) w0) (hCp : isC.map (fun i => ws[i]?) = w0.map some) (hRp : isR.map (fun i => ws[i]?) = wr.map some) (hnd : va_nd isR = true) (hdis : ∀ i ∈ isR, i ∉ isC) (hO0 : isO.map (fun i => (wr ++ w0)[i]?) = ws.map some) (hndO : va_nd isO = true) (hO : ∀ u, isO2.map (fun i => (wr ++ w1 u)[i]?) = (w2 u).map some) (hndO2 : va_nd isO2 = true) (hq : pc + 3 = q) (hk2 : k + mc = k2) (hn2 : n + ms = n2) (kx : ZThr E ws lv k2 n2 pc rest px) (kk : ∀ (z : Int) (u : S), post z u → Z E (w2 u) lv k2 n2 q (.int (iI z) :: rest)) : Z E ws lv k n pc st := by
  subst hq; subst hk2; subst hn2
  obtain ⟨p, l', e, R, s, m, args, below, meth, c, Q, A, D', g', nL'⟩ := E
  obtain ⟨hx, hb, hml, rfl, rfl, rfl, rfl, rfl, hown, hts, hK, hA⟩ := hC
  intro H locs ls hP hD hS hl
  have hFc := va_free (wc := w0) hD hS hA isC hCp
  refine vx_calli (hr H locs ls hP hD hS hl) hS (fun q _ h => hFc q h) hFc (fun q _ h => hFc q h) (fun Ex ce q9 u t H1 locs1 ht hvm hw hB hz1 hk1 hS1 hce hcv hcl => ?_) (fun r u t H1 locs ht hvm hw hB hz1 hk1 hS => ?_)
  · obtain ⟨hpx, hP1, hK1, hD1⟩ := hB
    rw [ht] at hP1
    obtain ⟨hP2, hD2⟩ := va_join (wr := wr) (w1 := w0) hP hD isC isR hCp hRp hnd hdis hk1 hFc hP1 hD1
    exact kx Ex ce q9 H1 locs1 ls hpx (hP2.sub isO (zfm hO0)) (hD2.sub isO hndO hO0) hS1 hl hce hcv hcl
  · obtain ⟨hP1, hK1, hD1⟩ := hB
    rw [ht] at hP1
    obtain ⟨z, rfl, hz⟩ := hw
    obtain ⟨hP2, hD2⟩ := va_join (wr := wr) (w1 := w1 u) hP hD isC isR hCp hRp hnd hdis hk1 hFc hP1 hD1
    exact kk z u hz H1 locs ls (hP2.sub isO2 (zfm (hO u))) (hD2.sub isO2 hndO2 (hO u)) hS hl
theorem z_callXv (q : Nat) (hC : ZC E cc own Ts rm nL D g l) {S : Type} {a : Array Value} {post : S → Prop} {w1 w2 : S → va_W} {px : String → Prop} (isC isR isO isO2 : List Nat) (hr : ZRunX E ws lv k n pc st rest mc ms (fun sz => va_Qv post (zB D g w0 sz w1) (va_A w0 sz) a) (zXC D g w0 px) w0) (hCp : isC.map (fun i => ws[i]?) = w0.map some) (hRp : isR.map (fun i => ws[i]?) = wr.map some) (hnd : va_nd isR = true) (hdis : ∀ i ∈ isR, i ∉ isC) (hO0 : isO.map (fun i => (wr ++ w0)[i]?) = ws.map some) (hndO : va_nd isO = true) (hO : ∀ u, isO2.map (fun i => (wr ++ w1 u)[i]?) = (w2 u).map some) (hndO2 : va_nd isO2 = true) (hq : pc + 3 = q) (hk2 : k + mc = k2) (hn2 : n + ms = n2) (kx : ZThr E ws lv k2 n2 pc rest px) (kk : ∀ (u : S), post u → Z E (w2 u) lv k2 n2 q rest) : Z E ws lv k n pc st := by
  subst hq; subst hk2; subst hn2
  obtain ⟨p, l', e, R, s, m, args, below, meth, c, Q, A, D', g', nL'⟩ := E
  obtain ⟨hx, hb, hml, rfl, rfl, rfl, rfl, rfl, hown, hts, hK, hA⟩ := hC
  intro H locs ls hP hD hS hl
  have hFc := va_free (wc := w0) hD hS hA isC hCp
  refine vx_callv (hr H locs ls hP hD hS hl) hS (fun q _ h => hFc q h) hFc (fun q _ h => hFc q h) (fun Ex ce q9 u t H1 locs1 ht hvm hw hB hz1 hk1 hS1 hce hcv hcl => ?_) (fun u t H1 locs ht hvm hw hB hz1 hk1 hS => ?_)
  · obtain ⟨hpx, hP1, hK1, hD1⟩ := hB
    rw [ht] at hP1
    obtain ⟨hP2, hD2⟩ := va_join (wr := wr) (w1 := w0) hP hD isC isR hCp hRp hnd hdis hk1 hFc hP1 hD1
    exact kx Ex ce q9 H1 locs1 ls hpx (hP2.sub isO (zfm hO0)) (hD2.sub isO hndO hO0) hS1 hl hce hcv hcl
  · obtain ⟨hP1, hK1, hD1⟩ := hB
    rw [ht] at hP1
    obtain ⟨hP2, hD2⟩ := va_join (wr := wr) (w1 := w1 u) hP hD isC isR hCp hRp hnd hdis hk1 hFc hP1 hD1
    exact kk u hw H1 locs ls (hP2.sub isO2 (zfm (hO u))) (hD2.sub isO2 hndO2 (hO u)) hS hl
theorem z_callXl (q : Nat) (hC : ZC E cc own Ts rm nL D g l) {S : Type} {a : Array Value} {post : Int64 → S → Prop} {w1 w2 : S → va_W} {px : String → Prop} (isC isR isO isO2 : List Nat) (hr : ZRunX E ws lv k n pc st rest mc ms (fun sz => va_Ql post (zB D g w0 sz w1) (va_A w0 sz) a) (zXC D g w0 px) w0) (hCp : isC.map (fun i => ws[i]?) = w0.map some) (hRp : isR.map (fun i => ws[i]?) = wr.map some) (hnd : va_nd isR = true) (hdis : ∀ i ∈ isR, i ∉ isC) (hO0 : isO.map (fun i => (wr ++ w0)[i]?) = ws.map some) (hndO : va_nd isO = true) (hO : ∀ u, isO2.map (fun i => (wr ++ w1 u)[i]?) = (w2 u).map some) (hndO2 : va_nd isO2 = true) (hq : pc + 3 = q) (hk2 : k + mc = k2) (hn2 : n + ms = n2) (kx : ZThr E ws lv k2 n2 pc rest px) (kk : ∀ (z : Int64) (u : S), post z u → Z E (w2 u) lv k2 n2 q (.long z :: rest)) : Z E ws lv k n pc st := by
  subst hq; subst hk2; subst hn2
  obtain ⟨p, l', e, R, s, m, args, below, meth, c, Q, A, D', g', nL'⟩ := E
  obtain ⟨hx, hb, hml, rfl, rfl, rfl, rfl, rfl, hown, hts, hK, hA⟩ := hC
  intro H locs ls hP hD hS hl
  have hFc := va_free (wc := w0) hD hS hA isC hCp
  refine vx_calll (hr H locs ls hP hD hS hl) hS (fun q _ h => hFc q h) hFc (fun q _ h => hFc q h) (fun Ex ce q9 u t H1 locs1 ht hvm hw hB hz1 hk1 hS1 hce hcv hcl => ?_) (fun r u t H1 locs ht hvm hw hB hz1 hk1 hS => ?_)
  · obtain ⟨hpx, hP1, hK1, hD1⟩ := hB
    rw [ht] at hP1
    obtain ⟨hP2, hD2⟩ := va_join (wr := wr) (w1 := w0) hP hD isC isR hCp hRp hnd hdis hk1 hFc hP1 hD1
    exact kx Ex ce q9 H1 locs1 ls hpx (hP2.sub isO (zfm hO0)) (hD2.sub isO hndO hO0) hS1 hl hce hcv hcl
  · obtain ⟨hP1, hK1, hD1⟩ := hB
    rw [ht] at hP1
    obtain ⟨hP2, hD2⟩ := va_join (wr := wr) (w1 := w1 u) hP hD isC isR hCp hRp hnd hdis hk1 hFc hP1 hD1
    exact kk r u hw H1 locs ls (hP2.sub isO2 (zfm (hO u))) (hD2.sub isO2 hndO2 (hO u)) hS hl
end ZXCALL
theorem zg_i : ∀ w ∈ Cond.classLink RX1 54 zXi :: Cond.initialized zXi :: vx_atS RX1 58 zXi zEx, vx_ot w = true := by decide +kernel
theorem zg_a : ∀ w ∈ Cond.classLink RX1 230 zXa :: Cond.initialized zXa :: vx_atS RX1 234 zXa zEx, vx_ot w = true := by decide +kernel
theorem zg_s : ∀ w ∈ Cond.classLink RX1 47 zXs :: Cond.initialized zXs :: vx_atS RX1 51 zXs zEx, vx_ot w = true := by decide +kernel
theorem zn_i : ∀ w ∈ (vx_atS RX1 58 zXi zEx).filter (fun w => !goodWord w), w ∈ zNest := by decide +kernel
theorem zn_a : ∀ w ∈ (vx_atS RX1 234 zXa zEx).filter (fun w => !goodWord w), w ∈ zNest := by decide +kernel
theorem zn_s : ∀ w ∈ (vx_atS RX1 51 zXs zEx).filter (fun w => !goodWord w), w ∈ zNest := by decide +kernel
theorem ixor_nn {a b : Int} (ha : 0 ≤ a ∧ a ≤ 2147483647) (hb : 0 ≤ b ∧ b ≤ 2147483647) : ∃ c : Int, (0 ≤ c ∧ c ≤ 2147483647) ∧ iI a ^^^ iI b = iI c := by
  refine ⟨((a.toNat ^^^ b.toNat : Nat) : Int), ?_, ?_⟩
  · have : a.toNat ^^^ b.toNat < 2 ^ 31 := Nat.xor_lt_two_pow (by omega) (by omega)
    omega
  · rw [iI_nI ha.1, iI_nI hb.1, iI_nI (by omega)]
    apply Int32.toBitVec_inj.1
    show BitVec.ofNat 32 a.toNat ^^^ BitVec.ofNat 32 b.toNat = BitVec.ofNat 32 ((a.toNat ^^^ b.toNat : Nat) : Int).toNat
    rw [Int.toNat_natCast]
    apply BitVec.eq_of_getLsbD_eq
    intro i hi
    simp [Nat.testBit_xor]
section ZX2
variable {E : ZE} {cc : ByteArray} {own : String} {Ts : List Cond} {rm : Room} {nL : Nat} {D : va_G} {g : Nat → ClassId} {l : Launch} {ws : va_W} {lv : List (Nat × Value)} {k n pc : Nat} {st : List Value}
theorem z_ixor (q : Nat) (hC : ZC E cc own Ts rm nL D g l) {a b : Int} (d : decode cc pc = .ok (.ixor, 1)) (hq : pc + 1 = q) (ha : 0 ≤ a ∧ a ≤ 2147483647) (hb0 : 0 ≤ b ∧ b ≤ 2147483647) (kk : ∀ c : Int, (0 ≤ c ∧ c ≤ 2147483647) → Z E ws lv k n q (.int (iI c) :: st)) : Z E ws lv k n pc (.int (iI b) :: .int (iI a) :: st) := by
  subst hq
  obtain ⟨p, l', e, R, s, m, args, below, meth, c, Q, A, D', g', nL'⟩ := E
  obtain ⟨hx, hb, hml, rfl, rfl, rfl, rfl, rfl, hown, hts, hK, hA⟩ := hC
  intro H locs ls hP hD hS hl
  obtain ⟨c9, h9, e9⟩ := ixor_nn ha hb0
  exact lv_ixor hx hb d (by rw [e9]; exact kk c9 h9 H locs ls hP hD hS hl)
theorem z_lookup (t : Nat) (hC : ZC E cc own Ts rm nL D g l) {a dflt off v : Int} {ps : Array (Int × Int)} {len : Nat} (d : decode cc pc = .ok (.lookupswitch dflt ps, len)) (hv : a = v) (hr : -2147483648 ≤ v ∧ v ≤ 2147483647) (hp : (ps.toList.zip (ps.toList.drop 1)).all (fun (a, next) => a.1 < next.1) = true) (ho : Op.lookupswitch.offset ps.toList dflt v = off) (ht : (pc : Int) + off = (t : Int)) (kk : Z E ws lv k n t st) : Z E ws lv k n pc (.int (iI a) :: st) := by
  subst hv
  obtain ⟨p, l', e, R, s, m, args, below, meth, c, Q, A, D', g', nL'⟩ := E
  obtain ⟨hx, hb, hml, rfl, rfl, rfl, rfl, rfl, hown, hts, hK, hA⟩ := hC
  intro H locs ls hP hD hS hl
  exact lv_lookup hx hb d hp (by rw [iI_toInt hr]; exact ho) ht (kk H locs ls hP hD hS hl)
end ZX2
theorem ZThr.no {E : ZE} {ws : va_W} {lv : List (Nat × Value)} {k n pc : Nat} {rest : List Value} {px : String → Prop} (h : ∀ Ex, ¬ px Ex) : ZThr E ws lv k n pc rest px := by
  obtain ⟨p, l', e, R, s, m, args, below, meth, c, Q, A, D', g', nL'⟩ := E
  intro Ex ce q9 H locs ls hpx
  exact absurd hpx (h Ex)
theorem Met_ofWF {y : MethodName} {l : Launch} {ws ws' : List Cond} {rm : Room} {Pc : Array Value → State → Prop} {Qc : Array Value → State → Outcome → State → Prop} {mc ms : Nat} {free : Addr → Prop} {cc : ByteArray} {maxL : Nat} {ret : Option FieldType}
    (hy : plainFor y = true) (hw : ws = Cond.code y cc maxL ret :: ws')
    (body : ∀ p e s m args below meth c s₁, BodyLoose p l y (headSpec ws rm) cc maxL ret e s m args below meth c s₁ → c.maxLocals = maxL → Pc args s →
      W p l e (headSpec ws rm).room s m args below meth c s.heap [] 0 0 (MQ below Qc args s mc ms free) (entryFrame m args maxL)) : Met l y ws rm Pc Qc mc ms free := by
  refine MetFree.of_bodyRF (code := cc) (maxLocals := maxL) (ret := ret) hy ?_ ?_
  · intro args s m h hn
    obtain ⟨meth, c, h1, h2, h3, h4, h5, h6, -, -⟩ := Cond.code_spec hn (atoms_spec (ws := ws) h _ (by rw [hw]; exact List.mem_cons_self))
    exact ⟨meth, c, h1, h2, h3, h4, h5, h6⟩
  · intro p e s m args below meth c s₁ B hml hP _ hst
    have hh0 : s₁.heap = s.heap := by rw [B.state]; rfl
    obtain ⟨t, a1, o, b1, b2, b3⟩ := body p e s m args below meth c s₁ B hml hP s₁ hh0 (Stand.of_body B)
    exact ⟨t, o, hst.trans a1, b1, b2, ⟨b3.1, b3.2⟩⟩
theorem ZMi.ofF {S : Type} {l : Launch} {y : MethodName} {wsY ws' : List Cond} {rm : Room} {D : va_G} {g : Nat → ClassId} {av : List Value} {w0 : va_W} {post : Int → S → Prop} {w1 : S → va_W} {mc ms : Nat} {own : String} (cc : ByteArray) (maxL : Nat) {ty : FieldType} (lv0 : List (Nat × Value)) (hy : plainFor y = true) (hw : wsY = Cond.code y cc maxL (some ty) :: ws') (hlen : (lg_sl av).length ≤ maxL) (hlv : lv_args 0 av = lv0) (hown : y.cls = own)
    (body : ∀ E : ZE, ZC E cc own wsY rm maxL D g l → ZNst E → (∀ {pc : Nat} {lv : List (Nat × Value)} {z : Int} (u : S), decode cc pc = .ok (.ireturn, 1) → narrow ty (.int (iI z)) = .int (iI z) → post z u → Z E (w1 u) lv mc ms pc [.int (iI z)]) → Z E w0 lv0 0 0 0 []) : ZMi l y wsY rm D g av w0 post w1 mc ms := by
  intro sz
  refine Met_ofWF (cc := cc) (maxL := maxL) (ret := some ty) hy hw ?_
  intro p e s m args below meth c s₁ B hml hv
  obtain ⟨rfl, hsz, hP, hK, hD0, hN, -⟩ := hv
  subst hsz
  have hE := body (p, l, e, (headSpec wsY rm).room, s, m, av.toArray, below, meth, c, MQ below (va_Qi (fun r u => ∃ z, r = iI z ∧ post z u) (zB D g w0 s.heap.size w1) (va_A w0 s.heap.size)) av.toArray s mc ms (va_A w0 s.heap.size), va_A w0 s.heap.size, D, g, maxL) ⟨B.exec, B.bytes, hml, rfl, rfl, rfl, rfl, rfl, by rw [← hown]; exact findClass_of_methodNamed B.named, atoms_spec B.pre, hK, fun q h => Or.inr h⟩ hN ?_
  · have hl := lv_entry av (n := maxL) hlen
    rw [lg_entry_eq]
    exact hE s.heap [] _ hP hD0.self va_S.rf (by rw [← hlv]; exact hl)
  · intro pc lv z u hd hn hp
    intro H locs ls hP hD hS hl
    exact W.zret (v := iI z) B.exec B.bytes B.returns hn (fun t ht hW => ⟨⟨iI z, u, rfl, ⟨z, rfl, hp⟩, ⟨by rw [ht]; exact hP, va_K.moved hW.alike hK, hD⟩⟩, hS.F ht⟩) hS.2.2 hd B.notSynchronized
