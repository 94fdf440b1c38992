/-! what the tables and the start say -/
theorem st_eqi {args : Array Value} {s : State} {t : Term} {z : Int32} (h : (Cond.eq t (.int z)).before args s = true) : t.eval args s none [] s = some (.int z) := by
  cases hv : t.eval args s none [] s with
  | none => simp [Cond.before, Cond.holds, Cond.value, hv] at h
  | some w =>
    have hz : (Term.int z).eval args s none [] s = some (.int z) := rfl
    simp only [Cond.before, Cond.holds, Cond.value, hv, hz] at h
    cases w <;> simp_all
theorem st_len {args : Array Value} {s : State} {t : Term} {v : Value} {a : Addr} (ht : t.eval args s none [] s = some (.ref a)) (h : (Term.length t).eval args s none [] s = some v) : ∃ cell, s.arrayAt? a = some cell ∧ cell.slots.size < 2147483648 ∧ v = .int cell.slots.size.toInt32 := by
  simp only [Term.eval, Option.bind_eq_bind, ht] at h
  simp only [Option.bind_some] at h
  obtain ⟨cell, hcell, h⟩ := Option.bind_eq_some_iff.mp h
  by_cases hn : cell.slots.size < 2147483648
  · rw [if_pos hn] at h; cases h; exact ⟨cell, hcell, hn, rfl⟩
  · rw [if_neg hn] at h; cases h
theorem st_size {n : Nat} (h : n < 2147483648) (e : Value.int n.toInt32 = .int 12) : n = 12 := by
  have e1 : Int32.ofNat n = 12 := Value.int.inj e
  have e2 : iI (n : Int) = iI 12 := by
    have : Int32.ofNat n = iI (n : Int) := (Int32.ofInt_eq_ofNat).symm
    rw [← this, e1]; rfl
  have := (iI_inj (by omega) (by omega)).mp e2
  omega
def TDT : Term := .static RX1 "FIRST_TIDES" "[I"
def stNr : List Cond := flatC (Jvm.Cond.and given_1 narrow_1)
theorem st_elem {args : Array Value} {s : State} {a : Addr} {cell : Cell} {j v : Int32} (ht : TDT.eval args s none [] s = some (.ref a)) (hc : s.heap[a]? = some cell) (h : (Cond.eq (.elem TDT (.int j)) (.int v)).before args s = true) : cell.slots[j.toNatClampNeg]? = some (.int v) := by
  obtain ⟨a2, j2, c2, h1, h2, h3, -, h5⟩ := Term.elem_spec (st_eqi h)
  cases ht.symm.trans h1
  cases h2
  obtain ⟨h6, -⟩ := State.arrayAt?_spec h3
  cases hc.symm.trans h6
  exact h5
set_option maxRecDepth 100000 in
theorem st_td {args : Array Value} {s : State} (hts : ∀ w ∈ lw_tbl, w.before args s = true) (hnr : ∀ w ∈ stNr, w.before args s = true) : zTd (fun q : Nat => s.heap.size ≤ q) s s.heap := by
  obtain ⟨a, c, cell, k, h1, h2, h3, h4, h5, h6, -⟩ := Cond.exactly_spec (hnr (.exactly TDT "[I") (by decide +kernel))
  have hA : ∀ q : Nat, q < s.heap.size → ¬ (fun q : Nat => s.heap.size ≤ q) q := fun q h => Nat.not_le.mpr h
  have hal : a < s.heap.size := (Array.getElem?_eq_some_iff.mp h3).1
  have h7 := va_Zof (A := fun q : Nat => s.heap.size ≤ q) (hts (.laysStatic RX1 "FIRST_TIDES" "[I") (by decide +kernel)) (hts (.initialized RX1) (by decide +kernel)) h1 hA
  have h8 := Cond.arrayOf_spec (hnr (.arrayOf TDT .int) (by decide +kernel)) h1 h3
  obtain ⟨c2, h9, h10, h11⟩ := st_len h1 (st_eqi (hnr (.eq (.length TDT) (.int 12)) (by decide +kernel)))
  obtain ⟨h12, -⟩ := State.arrayAt?_spec h9
  cases h3.symm.trans h12
  have e0 := st_elem h1 h3 (hnr (.eq (.elem TDT (.int 0)) (.int 2)) (by decide +kernel))
  have e1 := st_elem h1 h3 (hnr (.eq (.elem TDT (.int 1)) (.int 4)) (by decide +kernel))
  have e2 := st_elem h1 h3 (hnr (.eq (.elem TDT (.int 2)) (.int 7)) (by decide +kernel))
  have e3 := st_elem h1 h3 (hnr (.eq (.elem TDT (.int 3)) (.int 9)) (by decide +kernel))
  have e4 := st_elem h1 h3 (hnr (.eq (.elem TDT (.int 4)) (.int 10)) (by decide +kernel))
  have e5 := st_elem h1 h3 (hnr (.eq (.elem TDT (.int 5)) (.int 10)) (by decide +kernel))
  have e6 := st_elem h1 h3 (hnr (.eq (.elem TDT (.int 6)) (.int 9)) (by decide +kernel))
  have e7 := st_elem h1 h3 (hnr (.eq (.elem TDT (.int 7)) (.int 7)) (by decide +kernel))
  have e8 := st_elem h1 h3 (hnr (.eq (.elem TDT (.int 8)) (.int 5)) (by decide +kernel))
  have e9 := st_elem h1 h3 (hnr (.eq (.elem TDT (.int 9)) (.int 3)) (by decide +kernel))
  have e10 := st_elem h1 h3 (hnr (.eq (.elem TDT (.int 10)) (.int 2)) (by decide +kernel))
  have e11 := st_elem h1 h3 (hnr (.eq (.elem TDT (.int 11)) (.int 1)) (by decide +kernel))
  refine ⟨a, cell, h7, h3, Nat.not_le.mpr hal, by rw [h6]; exact h2, h8.2, fun k hk => ?_, st_size h10 h11.symm, fun j hj => ?_⟩
  · rw [hk] at h5; cases h5
  · rcases (by omega : j = 0 ∨ j = 1 ∨ j = 2 ∨ j = 3 ∨ j = 4 ∨ j = 5 ∨ j = 6 ∨ j = 7 ∨ j = 8 ∨ j = 9 ∨ j = 10 ∨ j = 11) with e | e | e | e | e | e | e | e | e | e | e | e
    all_goals subst e
    · exact e0
    · exact e1
    · exact e2
    · exact e3
    · exact e4
    · exact e5
    · exact e6
    · exact e7
    · exact e8
    · exact e9
    · exact e10
    · exact e11
theorem st_nst {args : Array Value} {s : State} (hts : ∀ w ∈ lw_tbl, w.before args s = true) (hnr : ∀ w ∈ stNr, w.before args s = true) : zNs s := by
  refine ⟨fun w hw => va_Nw.of ?_ (hts w ?_), fun q hq => va_Nc.of (args := args) (hnr _ ?_), zAA.of (hts (.arrayOver (.array .int)) (by decide +kernel))⟩
  · revert w; decide +kernel
  · revert w; decide +kernel
  · revert q; decide +kernel
theorem st_xt {args : Array Value} {s : State} (hts : ∀ w ∈ lw_tbl, w.before args s = true) (hnr : ∀ w ∈ stNr, w.before args s = true) : zXT (fun q : Nat => s.heap.size ≤ q) s s.heap := by
  have hA : ∀ q : Nat, q < s.heap.size → ¬ (fun q : Nat => s.heap.size ≤ q) q := fun q h => Nat.not_le.mpr h
  refine ⟨fun q hq => ?_, vx_Zqof (hts (.laysStatic Bundle.tN "UNASSIGNED_STACK" Bundle.steD) (by decide +kernel)) (hts (.initialized Bundle.tN) (by decide +kernel)) (hnr (.isRef (.static Bundle.tN "UNASSIGNED_STACK" Bundle.steD)) (by decide +kernel)) hA, vx_Zqof (hts (.laysStatic Bundle.tN "SUPPRESSED_SENTINEL" Bundle.listD) (by decide +kernel)) (hts (.initialized Bundle.tN) (by decide +kernel)) (hnr (.isRef (.static Bundle.tN "SUPPRESSED_SENTINEL" Bundle.listD)) (by decide +kernel)) hA⟩
  have h1 : ∀ q ∈ zStr, Cond.stringRef RX1 q.1 q.2 ∈ lw_tbl := by decide +kernel
  have h2 : ∀ q ∈ zStr, Cond.exactly (.string RX1 q.1) "java/lang/String" ∈ stNr := by decide +kernel
  obtain ⟨a, -, -, -, h3, -⟩ := Cond.exactly_spec (hnr _ (h2 q hq))
  exact ⟨a, vk_R.of (hts _ (h1 q hq)) h3⟩
theorem st_arr {args : Array Value} {s : State} {ty : FieldType} (h : (Cond.arrayClass ty).before args s = true) : ∃ c : ClassId, ArrOfT s c ty ∧ s.vm.findClass ("[" ++ ty.toString) = some c := by
  obtain ⟨c, k, comp, h1, h2, h3⟩ := Cond.arrayClass_spec h
  exact ⟨c, fun n z => ⟨fun z hz => (by cases hz), k, h2, comp, h3⟩, h1⟩
theorem st_K {args : Array Value} {s : State} (hts : ∀ w ∈ lw_tbl, w.before args s = true) : ∃ (D : va_G) (g : Nat → ClassId), va_K D vwCl (zT g) s := by
  obtain ⟨c0, i0, k0⟩ := u_known (C := RX0) (T := TX0) (N := 9) (n := 9) hts inX0 (hts (.instantiable RX0 9) (by decide +kernel))
  obtain ⟨c1, i1, k1⟩ := u_known (C := RX1) (T := TX1) (N := 9) (n := 9) hts inX1 (hts (.instantiable RX1 9) (by decide +kernel))
  obtain ⟨c2, i2, k2⟩ := u_known (C := RX2) (T := TX2) (N := 14) (n := 14) hts inX2 (hts (.instantiable RX2 14) (by decide +kernel))
  obtain ⟨g0, a0, b0⟩ := st_arr (hts (.arrayClass .int) (by decide +kernel))
  obtain ⟨g1, a1, b1⟩ := st_arr (hts (.arrayClass .long) (by decide +kernel))
  obtain ⟨g2, a2, b2⟩ := st_arr (hts (.arrayClass .boolean) (by decide +kernel))
  obtain ⟨comp, g3, kA, f1, -, f2, f3, f4⟩ := arrayOverA_spec (hts (.arrayOver (.array .int)) (by decide +kernel))
  refine ⟨(fun k => if k = 0 then c0 else if k = 1 then c1 else c2, fun k => if k = 0 then i0 else if k = 1 then i1 else i2), fun k => if k = 0 then g0 else if k = 1 then g1 else if k = 2 then g2 else g3, fun k q hq => ?_, fun k q hq => ?_⟩
  · match k, hq with
    | 0, hq => cases hq; exact k0
    | 1, hq => cases hq; exact k1
    | 2, hq => cases hq; exact k2
    | k + 3, hq => simp [vwCl] at hq
  · match k, hq with
    | 0, hq => cases hq; exact ⟨a0, b0⟩
    | 1, hq => cases hq; exact ⟨a1, b1⟩
    | 2, hq => cases hq; exact ⟨a2, b2⟩
    | 3, hq => cases hq; exact ⟨fun n z => ⟨fun z hz => (by cases hz), kA, f2, comp, f3⟩, f4⟩
    | k + 4, hq => simp [zT] at hq
