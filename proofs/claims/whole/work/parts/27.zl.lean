/-! longs and doubles in the walk -/
def lI (a : Int) : Int64 := (iI a).toInt64
def dgs (d : Int64) (a : Int) : Int64 := d * 31 + lI a
/-- a checksum goes on over v 0 .. v (i - 1) -/
def dgN (v : Int → Int) (d : Int64) (i : Int) : Int64 := foI (fun j d => dgs d (v j)) d i
theorem dgN_s (v : Int → Int) (d : Int64) {i : Int} (h : 0 ≤ i) : dgs (dgN v d i) (v i) = dgN v d (i + 1) := (foI_s (fun j d => dgs d (v j)) d h).symm
theorem dgN_0 (v : Int → Int) (d : Int64) : dgN v d 0 = d := rfl
/-- rows of n numbers each, the first i of them -/
def dgM (v : Int → Int → Int) (n : Int) (d : Int64) (i : Int) : Int64 := foI (fun k d => dgN (v k) d n) d i
theorem dgM_s (v : Int → Int → Int) (n : Int) (d : Int64) {i : Int} (h : 0 ≤ i) : dgN (v i) (dgM v n d i) n = dgM v n d (i + 1) := (foI_s (fun k d => dgN (v k) d n) d h).symm
theorem dgM_0 (v : Int → Int → Int) (n : Int) (d : Int64) : dgM v n d 0 = d := rfl
theorem zll {i : Nat} {a b : Int64} {l l' : List (Nat × Value)} (h : a = b) (hl : l = l') : (i, Value.long a) :: l = (i, Value.long b) :: l' := by rw [h, hl]
section ZLL
variable {E : ZE} {cc : ByteArray} {own : String} {Ts : List Cond} {rm : Room} {nL : Nat} {D : va_G} {g : Nat → ClassId} {l : Launch} {ws : va_W} {lv lv' : List (Nat × Value)} {k n pc : Nat} {st : List Value}
theorem z_ldc2 (q : Nat) (hC : ZC E cc own Ts rm nL D g l) {index : Nat} {v : Int64} (h1 : Cond.constantLong own index v ∈ Ts) (d : decode cc pc = .ok (.ldc2_w index, 3)) (hq : pc + 3 = q) (kk : Z E ws lv k n q (.long v :: st)) : Z E ws lv k n pc (st) := by
  subst hq
  obtain ⟨p, l', e, R, s, m, args, below, meth, c, Q, A, D', g', nL'⟩ := E
  obtain ⟨hx, hb, hml, rfl, rfl, rfl, rfl, rfl, hown, hts, hK, hA⟩ := hC
  intro H locs ls hP hD hS hl
  exact lv_ldc2 hx hb hown (hts _ h1) d (kk H locs ls hP hD hS hl)
theorem z_ldc2d (q : Nat) (hC : ZC E cc own Ts rm nL D g l) {index : Nat} {v : UInt64} (h1 : Cond.constantDouble own index v ∈ Ts) (d : decode cc pc = .ok (.ldc2_w index, 3)) (hq : pc + 3 = q) (kk : Z E ws lv k n q (.double v :: st)) : Z E ws lv k n pc (st) := by
  subst hq
  obtain ⟨p, l', e, R, s, m, args, below, meth, c, Q, A, D', g', nL'⟩ := E
  obtain ⟨hx, hb, hml, rfl, rfl, rfl, rfl, rfl, hown, hts, hK, hA⟩ := hC
  intro H locs ls hP hD hS hl
  exact lv_ldc2d hx hb hown (hts _ h1) d (kk H locs ls hP hD hS hl)
theorem z_i2l (q : Nat) (hC : ZC E cc own Ts rm nL D g l) {a : Int} (d : decode cc pc = .ok (.i2l, 1)) (hq : pc + 1 = q) (kk : Z E ws lv k n q (.long (lI a) :: st)) : Z E ws lv k n pc (.int (iI a) :: st) := by
  subst hq
  obtain ⟨p, l', e, R, s, m, args, below, meth, c, Q, A, D', g', nL'⟩ := E
  obtain ⟨hx, hb, hml, rfl, rfl, rfl, rfl, rfl, hown, hts, hK, hA⟩ := hC
  intro H locs ls hP hD hS hl
  exact lv_i2l hx hb d rfl (kk H locs ls hP hD hS hl)
theorem z_i2d (q : Nat) (hC : ZC E cc own Ts rm nL D g l) {a : Int32} (d : decode cc pc = .ok (.i2d, 1)) (hq : pc + 1 = q) (kk : Z E ws lv k n q (.double (FP.i2d a) :: st)) : Z E ws lv k n pc (.int a :: st) := by
  subst hq
  obtain ⟨p, l', e, R, s, m, args, below, meth, c, Q, A, D', g', nL'⟩ := E
  obtain ⟨hx, hb, hml, rfl, rfl, rfl, rfl, rfl, hown, hts, hK, hA⟩ := hC
  intro H locs ls hP hD hS hl
  exact lv_i2d hx hb d (kk H locs ls hP hD hS hl)
theorem z_ladd (q : Nat) (hC : ZC E cc own Ts rm nL D g l) {a b : Int64} (d : decode cc pc = .ok (.ladd, 1)) (hq : pc + 1 = q) (kk : Z E ws lv k n q (.long (a + b) :: st)) : Z E ws lv k n pc (.long b :: .long a :: st) := by
  subst hq
  obtain ⟨p, l', e, R, s, m, args, below, meth, c, Q, A, D', g', nL'⟩ := E
  obtain ⟨hx, hb, hml, rfl, rfl, rfl, rfl, rfl, hown, hts, hK, hA⟩ := hC
  intro H locs ls hP hD hS hl
  exact lv_ladd hx hb d (kk H locs ls hP hD hS hl)
theorem z_lmul (q : Nat) (hC : ZC E cc own Ts rm nL D g l) {a b : Int64} (d : decode cc pc = .ok (.lmul, 1)) (hq : pc + 1 = q) (kk : Z E ws lv k n q (.long (a * b) :: st)) : Z E ws lv k n pc (.long b :: .long a :: st) := by
  subst hq
  obtain ⟨p, l', e, R, s, m, args, below, meth, c, Q, A, D', g', nL'⟩ := E
  obtain ⟨hx, hb, hml, rfl, rfl, rfl, rfl, rfl, hown, hts, hK, hA⟩ := hC
  intro H locs ls hP hD hS hl
  exact lv_lmul hx hb d (kk H locs ls hP hD hS hl)
theorem z_ddiv (q : Nat) (hC : ZC E cc own Ts rm nL D g l) {a b : UInt64} (hne : vf_n64 (FP.ddiv a b)) (d : decode cc pc = .ok (.ddiv, 1)) (hq : pc + 1 = q) (kk : Z E ws lv k n q (.double (FP.ddiv a b) :: st)) : Z E ws lv k n pc (.double b :: .double a :: st) := by
  subst hq
  obtain ⟨p, l', e, R, s, m, args, below, meth, c, Q, A, D', g', nL'⟩ := E
  obtain ⟨hx, hb, hml, rfl, rfl, rfl, rfl, rfl, hown, hts, hK, hA⟩ := hC
  intro H locs ls hP hD hS hl
  exact lv_ddiv hx hb d hne (kk H locs ls hP hD hS hl)
end ZLL
