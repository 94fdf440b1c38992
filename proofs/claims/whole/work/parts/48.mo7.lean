/-! a part of an array copied -/
def cpI (f f' : Int → Int) (sp dp n : Int) : Int → Int := fun j => if dp ≤ j ∧ j < dp + n then f (sp + (j - dp)) else f' j
section ZCP
variable {E : ZE} {cc : ByteArray} {own : String} {Ts : List Cond} {rm : Room} {nL : Nat} {D : va_G} {g : Nat → ClassId} {l : Launch} {ws ws' : va_W} {lv : List (Nat × Value)} {k n pc : Nat} {st : List Value}
theorem z_copyp (q q0 q1 : Nat) (hC : ZC E cc own Ts rm nL D g l) {index a0 a N M : Nat} {f f' : Int → Int} {sp dp m : Int} (h1 : Cond.methodLink own index arraycopyName ∈ Ts) (h2 : Cond.native arraycopyName ∈ Ts) (h3 : Cond.static arraycopyName ∈ Ts) (h4 : Cond.initialized "java/lang/System" ∈ Ts) (hf : 1 ≤ rm.frames) (hlo : (st.map fun v => v.category).sum + (nativeFrameWords "java/lang/System" "arraycopy" 5 + 11) ≤ rm.locals) (d : decode cc pc = .ok (.invokestatic index, 3)) (hq : pc + 3 = q) (he0 : ws[q0]? = some (a0, .inl (g 0, N, .inl (ia f)))) (he1 : ws[q1]? = some (a, .inl (g 0, M, .inl (ia f')))) (hN : N < 2147483648) (hM : M < 2147483648) (hsp : 0 ≤ sp ∧ sp + m ≤ (N : Int)) (hdp : 0 ≤ dp ∧ dp + m ≤ (M : Int)) (hm : 0 ≤ m) (hw : ws.set q1 (a, .inl (g 0, M, .inl (ia (cpI f f' sp dp m)))) = ws') (kk : Z E ws' lv k n q st) : Z E ws lv k n pc (.int (iI m) :: .int (iI dp) :: .ref a :: .int (iI sp) :: .ref a0 :: st) := by
  subst hq; subst hw
  obtain ⟨p, l', e, R, s, m9, args, below, meth, c, Q, A, D', g', nL'⟩ := E
  obtain ⟨hx, hb, hml, rfl, rfl, rfl, rfl, rfl, hown, hts, hK, hA⟩ := hC
  intro H locs ls hP hD hS hl
  have e1 : (iI sp).toNatClampNeg = sp.toNat := iI_cl hsp.1 (by omega)
  have e2 : (iI dp).toNatClampNeg = dp.toNat := iI_cl hdp.1 (by omega)
  have e3 : (iI m).toNatClampNeg = m.toNat := iI_cl hm (by omega)
  have n1 : ¬ iI sp < 0 := by rw [← iI_0, iI_lt (by omega) (by omega)]; omega
  have n2 : ¬ iI dp < 0 := by rw [← iI_0, iI_lt (by omega) (by omega)]; omega
  have n3 : ¬ iI m < 0 := by rw [← iI_0, iI_lt (by omega) (by omega)]; omega
  refine va_copyi hx hb (hml.trans hl.1.symm) hown (hts _ h1) (hts _ h2) (hts _ h3) (hts _ h4) hK hP hD hS q0 q1 0 0 he0 he1 rfl rfl rfl n1 n2 n3 (by rw [e1, e3]; omega) (by rw [e2, e3]; omega) (fun i hi => rfl) hf hlo d (fun H locs hP hD hS => ?_)
  rw [e1, e2, e3] at hP hD
  have hcell : zE1 (a, .inl (g' 0, M, .inl (va_cpy (ia f) (ia f') sp.toNat dp.toNat m.toNat))) (a, .inl (g' 0, M, .inl (ia (cpI f f' sp dp m)))) := zE1.arrR (fun j hj => by
    simp only [va_cpy, ia, cpI]
    by_cases c9 : dp.toNat ≤ j ∧ j < dp.toNat + m.toNat
    · rw [if_pos c9, if_pos (by omega)]
      congr 2
      omega
    · rw [if_neg c9, if_neg (by omega)])
  have hset := zEq.set (ws := ws) (q := q1) hcell
  exact kk H locs ls (hset.P hP) (hset.D hD) hS hl
end ZCP
/-- league points, on the way: teams before i counted, of i those before j -/
def lgF (lg t : Int → Int) (tm i j : Int) : Int → Int := fun q => if q < i then lg q + fwI' t q tm else if q = i then lg q + sumI (fun x => if t x < t i then 1 else 0) j else lg q
theorem lgF_at (lg t : Int → Int) (tm i j : Int) : lgF lg t tm i j i = lg i + sumI (fun x => if t x < t i then 1 else 0) j := by
  unfold lgF
  rw [if_neg (by omega), if_pos rfl]
theorem lgF_y {lg t : Int → Int} {tm i j : Int} (hj : 0 ≤ j) (h : t j < t i) (q : Int) : up (lgF lg t tm i j) i (lgF lg t tm i j i + 1) q = lgF lg t tm i (j + 1) q := by
  by_cases e : q = i
  · subst e
    rw [up_same, lgF_at, lgF_at, sumI_s _ hj, if_pos h]
    omega
  · rw [up_ne e]
    unfold lgF
    rw [if_neg e, if_neg e]
theorem lgF_n {lg t : Int → Int} {tm i j : Int} (hj : 0 ≤ j) (h : ¬ t j < t i) (q : Int) : lgF lg t tm i j q = lgF lg t tm i (j + 1) q := by
  unfold lgF
  rw [sumI_s _ hj, if_neg h, Int.add_zero]
theorem lgF_next (lg t : Int → Int) (tm i : Int) (q : Int) : lgF lg t tm i tm q = lgF lg t tm (i + 1) 0 q := by
  unfold lgF
  rcases (by omega : q < i ∨ q = i ∨ i < q) with c | c | c
  · rw [if_pos c, if_pos (by omega)]
  · subst c
    rw [if_neg (by omega), if_pos rfl, if_pos (by omega)]
    rfl
  · rw [if_neg (by omega), if_neg (by omega), if_neg (by omega)]
    by_cases e : q = i + 1
    · rw [if_pos e, sumI_0, Int.add_zero]
    · rw [if_neg e]
theorem lgF_0 (lg t : Int → Int) (tm q : Int) (h : 0 ≤ q) : lg q = lgF lg t tm 0 0 q := by
  unfold lgF
  rw [if_neg (by omega)]
  by_cases e : q = 0
  · rw [if_pos e, sumI_0, Int.add_zero]
  · rw [if_neg e]
theorem lgF_E (lg t : Int → Int) (tm : Int) {q : Int} (h : q < tm) : lgF lg t tm tm 0 q = lgE lg t tm tm q := by
  unfold lgF lgE
  rw [if_pos h, if_pos h]
/-- a team's first three numbers anew -/
theorem tbl_cp {tm : Int} {bu sr lg t : Int → Int} {x : Int → Int} {k : Int} (h : 0 ≤ k ∧ k < tm) (h0 : x 0 = 0) (h1 : x 1 = 20) (h2 : x 2 = 0) (j : Int) : cpI x (tbl tm bu sr lg t) 0 (4 * k) 3 j = tbl tm (up bu k 0) (up sr k 20) lg (up t k 0) j := by
  unfold cpI
  by_cases c : 4 * k ≤ j ∧ j < 4 * k + 3
  · rw [if_pos c]
    rcases (by omega : j = 4 * k + 0 ∨ j = 4 * k + 1 ∨ j = 4 * k + 2) with e | e | e
    · rw [e, tbl_0 h, up_same, show (0 : Int) + (4 * k + 0 - 4 * k) = 0 by omega, h0]
    · rw [e, tbl_1 h, up_same, show (0 : Int) + (4 * k + 1 - 4 * k) = 1 by omega, h1]
    · rw [e, tbl_2 h, up_same, show (0 : Int) + (4 * k + 2 - 4 * k) = 2 by omega, h2]
  · rw [if_neg c]
    unfold tbl
    by_cases e : j / 4 = k
    · have c0 : ¬ j % 4 = 0 := by omega
      have c1 : ¬ j % 4 = 1 := by omega
      have c2 : ¬ j % 4 = 2 := by omega
      simp only [c0, c1, c2, if_false]
    · rw [up_ne e, up_ne e, up_ne e]
set_option maxHeartbeats 4000000 in
set_option maxRecDepth 100000 in
theorem c_X2_endRound (l : Launch) (D : va_G) (g : Nat → ClassId) (m : Nat) (b : Nat → Nat) (th hr tm en : Int) (td bu sr lg ov : Int → Int) (S : SS)  (hI : LI td bu sr lg tm hr S) (hSI : SI tm S)  : ZMi (S := Unit) l yX2_endRound wsX2_endRound ({ frames := 2, cells := 4, slots := 12, locals := 120 }) D g [.ref m] (wMo g m b th hr tm en (ssLo S) (ssSl S) (ssFa S) (ssS S) (ssF S) (ssW S) (kOf (ssO S) (ssP S)) (tbl tm bu sr lg (ssT S)) td ov) (fun z _ => z = en + 1) (fun _ => wMo g m b 0 hr tm (en + 1) 0 0 0 (fun _ => 4) (fun _ => 0) (fun _ => 0) (fun _ => 0) (tbl tm (fun _ => 0) (fun _ => 20) (lgE lg (ssT S) tm tm) (fun _ => 0)) td ov) 4 12 := by
  have hinX2 : ∀ w ∈ u_ws RX2 TX2 14, w ∈ wsX2_endRound := by decide +kernel
  have L9 : Cond.fieldLink RX2 9 "SandcastleLeagueModel" "sand" "[I" ∈ wsX2_endRound := by decide +kernel
  have L13 : Cond.fieldLink RX2 13 "SandcastleLeagueModel" "firm" "[I" ∈ wsX2_endRound := by decide +kernel
  have L16 : Cond.fieldLink RX2 16 "SandcastleLeagueModel" "water" "[I" ∈ wsX2_endRound := by decide +kernel
  have L19 : Cond.fieldLink RX2 19 "SandcastleLeagueModel" "sticks" "[I" ∈ wsX2_endRound := by decide +kernel
  have L22 : Cond.fieldLink RX2 22 "SandcastleLeagueModel" "table" "[I" ∈ wsX2_endRound := by decide +kernel
  have L35 : Cond.fieldLink RX2 35 "SandcastleLeagueModel" "thrown" "I" ∈ wsX2_endRound := by decide +kernel
  have L39 : Cond.fieldLink RX2 39 "SandcastleLeagueModel" "teams" "I" ∈ wsX2_endRound := by decide +kernel
  have L95 : Cond.fieldLink RX2 95 "SandcastleLeagueModel" "lost" "I" ∈ wsX2_endRound := by decide +kernel
  have L98 : Cond.fieldLink RX2 98 "SandcastleLeagueModel" "slides" "I" ∈ wsX2_endRound := by decide +kernel
  have L101 : Cond.fieldLink RX2 101 "SandcastleLeagueModel" "fallen" "I" ∈ wsX2_endRound := by decide +kernel
  have L104 : Cond.fieldLink RX2 104 "SandcastleLeagueModel" "ended" "I" ∈ wsX2_endRound := by decide +kernel
  obtain ⟨htd, hbu, hsr, hlg, htm, hhr, hSB, hT⟩ := id hI
  obtain ⟨hs, hf, hw, ho, hp⟩ := id hSB
  refine ZMi.of (own := RX2) cX2_endRound 3 [(0, .ref m)] (by decide +kernel) rfl (nle rfl) rfl rfl ?_
  intro E hC hN hret
  refine z_aloadn 1 hC 0 dX2_endRound_0 rfl rfl rfl ?_
  refine z_iconst 2 hC dX2_endRound_1 rfl ?_
  refine z_put (ty := .int) (ws' := wMo g m b 0 hr tm en (ssLo S) (ssSl S) (ssFa S) (ssS S) (ssF S) (ssW S) (kOf (ssO S) (ssP S)) (tbl tm bu sr lg (ssT S)) td ov) 5 0 0 hC tyX2 tyX2_ok nmX2 hinX2 L35 dX2_endRound_2 rfl rfl rfl (by decide) rfl (by decide +kernel) rfl rfl (nle rfl) rfl ?_
  refine z_iconst 6 hC dX2_endRound_5 rfl ?_
  refine z_istoren (lv' := [(1, .int (iI 0)), (0, .ref m)]) 7 hC dX2_endRound_6 rfl rfl (by decide) rfl ?_
  have loop7 : ∀ (N7 : Nat) (i : Int), 0 ≤ i ∧ i ≤ tm → (tm - i : Int) < N7 → Z E (wMo g m b 0 hr tm en (ssLo S) (ssSl S) (ssFa S) (ssS S) (ssF S) (ssW S) (kOf (ssO S) (ssP S)) (tbl tm bu sr (lgF lg (ssT S) tm i 0) (ssT S)) td ov) [(0, .ref m), (1, .int (iI i))] 0 0 7 [] := by
    intro N7
    induction N7 with
    | zero => intro i hi hm7; exact absurd hm7 (by omega)
    | succ N7 ih7 =>
      intro i hi hm7
      refine z_iloadn 8 hC 1 dX2_endRound_7 rfl rfl rfl ?_
      refine z_aloadn 9 hC 0 dX2_endRound_8 rfl rfl rfl ?_
      refine z_get 12 0 2 hC hinX2 L39 dX2_endRound_9 rfl rfl rfl (by decide) rfl ?_
      refine z_icmp_ge 59 15 hC dX2_endRound_12 (by decide) rfl (by omega) (by omega) (fun c_1 => ?_) (fun c_1 => ?_)
      · skip
        obtain rfl : tm = i := by omega
        refine z_iconst 60 hC dX2_endRound_59 rfl ?_
        refine z_istoren (lv' := [(1, .int (iI 0)), (0, .ref m)]) 61 hC dX2_endRound_60 rfl rfl (by decide) rfl ?_
        refine z_iloadn 62 hC 0 dX2_endRound_61 rfl rfl rfl ?_
        refine z_aloadn 63 hC 1 dX2_endRound_62 rfl rfl rfl ?_
        refine z_get 66 0 2 hC hinX2 L39 dX2_endRound_63 rfl rfl rfl (by decide) rfl ?_
        refine z_icmp_ge 106 69 hC dX2_endRound_66 (by decide) rfl (by omega) (by omega) (fun c_2 => ?_) (fun c_2 => ?_)
        · skip
          refine z_aloadn 107 hC 1 dX2_endRound_106 rfl rfl rfl ?_
          refine z_get 110 0 7 hC hinX2 L9 dX2_endRound_107 rfl rfl rfl (by decide) rfl ?_
          refine z_iconst 111 hC dX2_endRound_110 rfl ?_
          refine z_callv (wr := [(m, .inr (2, [.int (iI 0), .int (iI hr), .int (iI tm), .int (iI en), .int (iI (ssLo S)), .int (iI (ssSl S)), .int (iI (ssFa S)), .ref (b 0), .ref (b 1), .ref (b 2), .ref (b 3), .ref (b 4), .ref (b 5), .ref (b 6)])), ((b 1), ar g 120 (ssF S)), ((b 2), ar g 120 (ssW S)), ((b 3), ar g 120 (kOf (ssO S) (ssP S))), ((b 4), ar g 16 (tbl tm bu sr (lgF lg (ssT S) tm tm 0) (ssT S))), ((b 5), ar g 12 td), ((b 6), ar g 120 ov)]) (w2 := fun _ => wMo g m b 0 hr tm en (ssLo S) (ssSl S) (ssFa S) (fun _ => 4) (ssF S) (ssW S) (kOf (ssO S) (ssP S)) (tbl tm bu sr (lgF lg (ssT S) tm tm 0) (ssT S)) td ov) 114 hC [1] [0, 2, 3, 4, 5, 6, 7] [0, 7, 1, 2, 3, 4, 5, 6] (z_runS (nA := 2) hC hN (c_X2_fill l D g (b 0) 120 (ssS S) 4 (by omega)) [1] rfl (by decide) gX2_endRound_X2_fill (by decide +kernel) rfl rfl rfl ⟨by decide, by decide⟩ rfl rfl (nle rfl) dX2_endRound_111 ⟨by decide, by decide⟩) rfl rfl (by decide) (by decide) (fun _ => rfl) (by decide) rfl (k2 := 0) (n2 := 0) rfl rfl (fun _ p_3 => ?_)
          refine z_aloadn 115 hC 1 dX2_endRound_114 rfl rfl rfl ?_
          refine z_get 118 0 8 hC hinX2 L13 dX2_endRound_115 rfl rfl rfl (by decide) rfl ?_
          refine z_iconst 119 hC dX2_endRound_118 rfl ?_
          refine z_callv (wr := [(m, .inr (2, [.int (iI 0), .int (iI hr), .int (iI tm), .int (iI en), .int (iI (ssLo S)), .int (iI (ssSl S)), .int (iI (ssFa S)), .ref (b 0), .ref (b 1), .ref (b 2), .ref (b 3), .ref (b 4), .ref (b 5), .ref (b 6)])), ((b 0), ar g 120 (fun _ => 4)), ((b 2), ar g 120 (ssW S)), ((b 3), ar g 120 (kOf (ssO S) (ssP S))), ((b 4), ar g 16 (tbl tm bu sr (lgF lg (ssT S) tm tm 0) (ssT S))), ((b 5), ar g 12 td), ((b 6), ar g 120 ov)]) (w2 := fun _ => wMo g m b 0 hr tm en (ssLo S) (ssSl S) (ssFa S) (fun _ => 4) (fun _ => 0) (ssW S) (kOf (ssO S) (ssP S)) (tbl tm bu sr (lgF lg (ssT S) tm tm 0) (ssT S)) td ov) 122 hC [2] [0, 1, 3, 4, 5, 6, 7] [0, 1, 7, 2, 3, 4, 5, 6] (z_runS (nA := 2) hC hN (c_X2_fill l D g (b 1) 120 (ssF S) 0 (by omega)) [2] rfl (by decide) gX2_endRound_X2_fill (by decide +kernel) rfl rfl rfl ⟨by decide, by decide⟩ rfl rfl (nle rfl) dX2_endRound_119 ⟨by decide, by decide⟩) rfl rfl (by decide) (by decide) (fun _ => rfl) (by decide) rfl (k2 := 0) (n2 := 0) rfl rfl (fun _ p_4 => ?_)
          refine z_aloadn 123 hC 1 dX2_endRound_122 rfl rfl rfl ?_
          refine z_get 126 0 9 hC hinX2 L16 dX2_endRound_123 rfl rfl rfl (by decide) rfl ?_
          refine z_iconst 127 hC dX2_endRound_126 rfl ?_
          refine z_callv (wr := [(m, .inr (2, [.int (iI 0), .int (iI hr), .int (iI tm), .int (iI en), .int (iI (ssLo S)), .int (iI (ssSl S)), .int (iI (ssFa S)), .ref (b 0), .ref (b 1), .ref (b 2), .ref (b 3), .ref (b 4), .ref (b 5), .ref (b 6)])), ((b 0), ar g 120 (fun _ => 4)), ((b 1), ar g 120 (fun _ => 0)), ((b 3), ar g 120 (kOf (ssO S) (ssP S))), ((b 4), ar g 16 (tbl tm bu sr (lgF lg (ssT S) tm tm 0) (ssT S))), ((b 5), ar g 12 td), ((b 6), ar g 120 ov)]) (w2 := fun _ => wMo g m b 0 hr tm en (ssLo S) (ssSl S) (ssFa S) (fun _ => 4) (fun _ => 0) (fun _ => 0) (kOf (ssO S) (ssP S)) (tbl tm bu sr (lgF lg (ssT S) tm tm 0) (ssT S)) td ov) 130 hC [3] [0, 1, 2, 4, 5, 6, 7] [0, 1, 2, 7, 3, 4, 5, 6] (z_runS (nA := 2) hC hN (c_X2_fill l D g (b 2) 120 (ssW S) 0 (by omega)) [3] rfl (by decide) gX2_endRound_X2_fill (by decide +kernel) rfl rfl rfl ⟨by decide, by decide⟩ rfl rfl (nle rfl) dX2_endRound_127 ⟨by decide, by decide⟩) rfl rfl (by decide) (by decide) (fun _ => rfl) (by decide) rfl (k2 := 0) (n2 := 0) rfl rfl (fun _ p_5 => ?_)
          refine z_aloadn 131 hC 1 dX2_endRound_130 rfl rfl rfl ?_
          refine z_get 134 0 10 hC hinX2 L19 dX2_endRound_131 rfl rfl rfl (by decide) rfl ?_
          refine z_iconst 135 hC dX2_endRound_134 rfl ?_
          refine z_callv (wr := [(m, .inr (2, [.int (iI 0), .int (iI hr), .int (iI tm), .int (iI en), .int (iI (ssLo S)), .int (iI (ssSl S)), .int (iI (ssFa S)), .ref (b 0), .ref (b 1), .ref (b 2), .ref (b 3), .ref (b 4), .ref (b 5), .ref (b 6)])), ((b 0), ar g 120 (fun _ => 4)), ((b 1), ar g 120 (fun _ => 0)), ((b 2), ar g 120 (fun _ => 0)), ((b 4), ar g 16 (tbl tm bu sr (lgF lg (ssT S) tm tm 0) (ssT S))), ((b 5), ar g 12 td), ((b 6), ar g 120 ov)]) (w2 := fun _ => wMo g m b 0 hr tm en (ssLo S) (ssSl S) (ssFa S) (fun _ => 4) (fun _ => 0) (fun _ => 0) (fun _ => 0) (tbl tm bu sr (lgF lg (ssT S) tm tm 0) (ssT S)) td ov) 138 hC [4] [0, 1, 2, 3, 5, 6, 7] [0, 1, 2, 3, 7, 4, 5, 6] (z_runS (nA := 2) hC hN (c_X2_fill l D g (b 3) 120 (kOf (ssO S) (ssP S)) 0 (by omega)) [4] rfl (by decide) gX2_endRound_X2_fill (by decide +kernel) rfl rfl rfl ⟨by decide, by decide⟩ rfl rfl (nle rfl) dX2_endRound_135 ⟨by decide, by decide⟩) rfl rfl (by decide) (by decide) (fun _ => rfl) (by decide) rfl (k2 := 0) (n2 := 0) rfl rfl (fun _ p_6 => ?_)
          refine z_aloadn 139 hC 1 dX2_endRound_138 rfl rfl rfl ?_
          refine z_iconst 140 hC dX2_endRound_139 rfl ?_
          refine z_put (ty := .int) (ws' := wMo g m b 0 hr tm en 0 (ssSl S) (ssFa S) (fun _ => 4) (fun _ => 0) (fun _ => 0) (fun _ => 0) (tbl tm bu sr (lgF lg (ssT S) tm tm 0) (ssT S)) td ov) 143 0 4 hC tyX2 tyX2_ok nmX2 hinX2 L95 dX2_endRound_140 rfl rfl rfl (by decide) rfl (by decide +kernel) rfl rfl (nle rfl) rfl ?_
          refine z_aloadn 144 hC 1 dX2_endRound_143 rfl rfl rfl ?_
          refine z_iconst 145 hC dX2_endRound_144 rfl ?_
          refine z_put (ty := .int) (ws' := wMo g m b 0 hr tm en 0 0 (ssFa S) (fun _ => 4) (fun _ => 0) (fun _ => 0) (fun _ => 0) (tbl tm bu sr (lgF lg (ssT S) tm tm 0) (ssT S)) td ov) 148 0 5 hC tyX2 tyX2_ok nmX2 hinX2 L98 dX2_endRound_145 rfl rfl rfl (by decide) rfl (by decide +kernel) rfl rfl (nle rfl) rfl ?_
          refine z_aloadn 149 hC 1 dX2_endRound_148 rfl rfl rfl ?_
          refine z_iconst 150 hC dX2_endRound_149 rfl ?_
          refine z_put (ty := .int) (ws' := wMo g m b 0 hr tm en 0 0 0 (fun _ => 4) (fun _ => 0) (fun _ => 0) (fun _ => 0) (tbl tm bu sr (lgF lg (ssT S) tm tm 0) (ssT S)) td ov) 153 0 6 hC tyX2 tyX2_ok nmX2 hinX2 L101 dX2_endRound_150 rfl rfl rfl (by decide) rfl (by decide +kernel) rfl rfl (nle rfl) rfl ?_
          refine z_aloadn 154 hC 1 dX2_endRound_153 rfl rfl rfl ?_
          refine z_dup 155 hC dX2_endRound_154 rfl rfl ?_
          refine z_get 158 0 3 hC hinX2 L104 dX2_endRound_155 rfl rfl rfl (by decide) rfl ?_
          refine z_iconst 159 hC dX2_endRound_158 rfl ?_
          refine z_iadd 160 hC dX2_endRound_159 rfl ?_
          refine z_put (ty := .int) (ws' := wMo g m b 0 hr tm (en + 1) 0 0 0 (fun _ => 4) (fun _ => 0) (fun _ => 0) (fun _ => 0) (tbl tm bu sr (lgF lg (ssT S) tm tm 0) (ssT S)) td ov) 163 0 3 hC tyX2 tyX2_ok nmX2 hinX2 L104 dX2_endRound_160 rfl rfl rfl (by decide) rfl (by decide +kernel) rfl rfl (nle rfl) rfl ?_
          refine z_aloadn 164 hC 1 dX2_endRound_163 rfl rfl rfl ?_
          refine z_get 167 0 3 hC hinX2 L104 dX2_endRound_164 rfl rfl rfl (by decide) rfl ?_
          refine z_widen (k2 := 4) (n2 := 12) (by omega) (by omega) ?_
          refine z_weq (ws' := wMo g m b 0 hr tm (en + 1) 0 0 0 (fun _ => 4) (fun _ => 0) (fun _ => 0) (fun _ => 0) (tbl tm (fun _ => 0) (fun _ => 20) (lgE lg (ssT S) tm tm) (fun _ => 0)) td ov) (zEq.cons zE1.rf (zEq.cons zE1.rf (zEq.cons zE1.rf (zEq.cons zE1.rf (zEq.cons zE1.rf (zEq.cons (zE1.arr (by intro j h0 h1; exact tbl_c (fun q _ _ => by first | omega | (unfold up; omega)) (fun q _ _ => by first | omega | (unfold up; omega)) (fun q _ h9 => lgF_E lg (ssT S) tm h9) (fun q _ _ => by first | omega | (unfold up; omega)) j h0)) (zEq.cons zE1.rf (zEq.cons zE1.rf zEq.nil)))))))) ?_
          exact hret () dX2_endRound_167 rfl (by rfl)
        · skip
          refine z_iconst 70 hC dX2_endRound_69 rfl ?_
          refine z_newi (ws' := fun x_7 => (wMo g m b 0 hr tm en (ssLo S) (ssSl S) (ssFa S) (ssS S) (ssF S) (ssW S) (kOf (ssO S) (ssP S)) (tbl tm bu sr (lgF lg (ssT S) tm tm 0) (ssT S)) td ov) ++ (([(x_7, ar g 3 (fun _ => 0))]))) (k2 := 1) (n2 := 3) 72 hC (by decide +kernel) (by decide) (nle rfl) (by decide) (by decide) dX2_endRound_70 rfl rfl rfl (fun _ => rfl) (fun x_7 => ?_)
          refine z_dup 73 hC dX2_endRound_72 rfl rfl ?_
          refine z_iconst 74 hC dX2_endRound_73 rfl ?_
          refine z_iconst 75 hC dX2_endRound_74 rfl ?_
          refine z_iast (ws' := (wMo g m b 0 hr tm en (ssLo S) (ssSl S) (ssFa S) (ssS S) (ssF S) (ssW S) (kOf (ssO S) (ssP S)) (tbl tm bu sr (lgF lg (ssT S) tm tm 0) (ssT S)) td ov) ++ (([(x_7, ar g 3 (up (fun _ => 0) 0 0))]))) 76 8 hC dX2_endRound_75 rfl rfl (by decide) (by omega) rfl ?_
          refine z_dup 77 hC dX2_endRound_76 rfl rfl ?_
          refine z_iconst 78 hC dX2_endRound_77 rfl ?_
          refine z_bipush 80 hC dX2_endRound_78 (by decide) rfl ?_
          refine z_iast (ws' := (wMo g m b 0 hr tm en (ssLo S) (ssSl S) (ssFa S) (ssS S) (ssF S) (ssW S) (kOf (ssO S) (ssP S)) (tbl tm bu sr (lgF lg (ssT S) tm tm 0) (ssT S)) td ov) ++ (([(x_7, ar g 3 (up (up (fun _ => 0) 0 0) 1 20))]))) 81 8 hC dX2_endRound_80 rfl rfl (by decide) (by omega) rfl ?_
          refine z_dup 82 hC dX2_endRound_81 rfl rfl ?_
          refine z_iconst 83 hC dX2_endRound_82 rfl ?_
          refine z_iconst 84 hC dX2_endRound_83 rfl ?_
          refine z_iast (ws' := (wMo g m b 0 hr tm en (ssLo S) (ssSl S) (ssFa S) (ssS S) (ssF S) (ssW S) (kOf (ssO S) (ssP S)) (tbl tm bu sr (lgF lg (ssT S) tm tm 0) (ssT S)) td ov) ++ (([(x_7, ar g 3 (up (up (up (fun _ => 0) 0 0) 1 20) 2 0))]))) 85 8 hC dX2_endRound_84 rfl rfl (by decide) (by omega) rfl ?_
          refine z_astoren (lv' := [(2, .ref x_7), (1, .int (iI 0)), (0, .ref m)]) 86 hC dX2_endRound_85 rfl rfl (by decide) rfl ?_
          refine z_aloadn 87 hC 0 dX2_endRound_86 rfl rfl rfl ?_
          refine z_iconst 88 hC dX2_endRound_87 rfl ?_
          refine z_aloadn 89 hC 2 dX2_endRound_88 rfl rfl rfl ?_
          refine z_get 92 0 11 hC hinX2 L22 dX2_endRound_89 rfl rfl rfl (by decide) rfl ?_
          refine z_iconst 93 hC dX2_endRound_92 rfl ?_
          refine z_iloadn 94 hC 1 dX2_endRound_93 rfl rfl rfl ?_
          refine z_imul 95 hC dX2_endRound_94 rfl ?_
          refine z_aloadn 96 hC 0 dX2_endRound_95 rfl rfl rfl ?_
          refine z_alen 97 8 hC dX2_endRound_96 rfl rfl rfl ?_
          refine z_copyp (ws' := (wMo g m b 0 hr tm en (ssLo S) (ssSl S) (ssFa S) (ssS S) (ssF S) (ssW S) (kOf (ssO S) (ssP S)) (cpI (up (up (up (fun _ => 0) 0 0) 1 20) 2 0) (tbl tm bu sr (lgF lg (ssT S) tm tm 0) (ssT S)) 0 (4 * 0) ((3 : Nat) : Int)) td ov) ++ (([(x_7, ar g 3 (up (up (up (fun _ => 0) 0 0) 1 20) 2 0))]))) 100 8 5 hC (by decide +kernel) (by decide +kernel) (by decide +kernel) (by decide +kernel) (by decide) (by decide) dX2_endRound_97 rfl rfl rfl (by decide) (by decide) (by omega) (by omega) (by omega) rfl ?_
          refine z_weq (ws' := (wMo g m b 0 hr tm en (ssLo S) (ssSl S) (ssFa S) (ssS S) (ssF S) (ssW S) (kOf (ssO S) (ssP S)) (tbl tm (up bu 0 0) (up sr 0 20) (lgF lg (ssT S) tm tm 0) (up (ssT S) 0 0)) td ov) ++ (([(x_7, ar g 3 (up (up (up (fun _ => 0) 0 0) 1 20) 2 0))]))) (zEq.cons zE1.rf (zEq.cons zE1.rf (zEq.cons zE1.rf (zEq.cons zE1.rf (zEq.cons zE1.rf (zEq.cons (zE1.arr (by intro j h0 h1; exact tbl_cp (by omega) rfl rfl rfl j)) (zEq.cons zE1.rf (zEq.cons zE1.rf (zEq.cons zE1.rf zEq.nil))))))))) ?_
          refine z_sub (ws' := wMo g m b 0 hr tm en (ssLo S) (ssSl S) (ssFa S) (ssS S) (ssF S) (ssW S) (kOf (ssO S) (ssP S)) (tbl tm (up bu 0 0) (up sr 0 20) (lgF lg (ssT S) tm tm 0) (up (ssT S) 0 0)) td ov) [0, 1, 2, 3, 4, 5, 6, 7] (by decide) rfl ?_
          refine z_iinc (lv' := [(1, .int (iI (0 + 1))), (2, .ref x_7), (0, .ref m)]) 103 1 hC dX2_endRound_100 rfl rfl (by decide) rfl ?_
          refine z_goto 61 hC dX2_endRound_103 (by decide) ?_
          refine z_iloadn 62 hC 0 dX2_endRound_61 rfl rfl rfl ?_
          refine z_aloadn 63 hC 2 dX2_endRound_62 rfl rfl rfl ?_
          refine z_get 66 0 2 hC hinX2 L39 dX2_endRound_63 rfl rfl rfl (by decide) rfl ?_
          refine z_icmp_ge 106 69 hC dX2_endRound_66 (by decide) rfl (by omega) (by omega) (fun c_8 => ?_) (fun c_8 => ?_)
          · skip
            refine z_aloadn 107 hC 2 dX2_endRound_106 rfl rfl rfl ?_
            refine z_get 110 0 7 hC hinX2 L9 dX2_endRound_107 rfl rfl rfl (by decide) rfl ?_
            refine z_iconst 111 hC dX2_endRound_110 rfl ?_
            refine z_callv (wr := [(m, .inr (2, [.int (iI 0), .int (iI hr), .int (iI tm), .int (iI en), .int (iI (ssLo S)), .int (iI (ssSl S)), .int (iI (ssFa S)), .ref (b 0), .ref (b 1), .ref (b 2), .ref (b 3), .ref (b 4), .ref (b 5), .ref (b 6)])), ((b 1), ar g 120 (ssF S)), ((b 2), ar g 120 (ssW S)), ((b 3), ar g 120 (kOf (ssO S) (ssP S))), ((b 4), ar g 16 (tbl tm (up bu 0 0) (up sr 0 20) (lgF lg (ssT S) tm tm 0) (up (ssT S) 0 0))), ((b 5), ar g 12 td), ((b 6), ar g 120 ov)]) (w2 := fun _ => wMo g m b 0 hr tm en (ssLo S) (ssSl S) (ssFa S) (fun _ => 4) (ssF S) (ssW S) (kOf (ssO S) (ssP S)) (tbl tm (up bu 0 0) (up sr 0 20) (lgF lg (ssT S) tm tm 0) (up (ssT S) 0 0)) td ov) 114 hC [1] [0, 2, 3, 4, 5, 6, 7] [0, 7, 1, 2, 3, 4, 5, 6] (z_runS (nA := 2) hC hN (c_X2_fill l D g (b 0) 120 (ssS S) 4 (by omega)) [1] rfl (by decide) gX2_endRound_X2_fill (by decide +kernel) rfl rfl rfl ⟨by decide, by decide⟩ rfl rfl (nle rfl) dX2_endRound_111 ⟨by decide, by decide⟩) rfl rfl (by decide) (by decide) (fun _ => rfl) (by decide) rfl (k2 := 1) (n2 := 3) rfl rfl (fun _ p_9 => ?_)
            refine z_aloadn 115 hC 2 dX2_endRound_114 rfl rfl rfl ?_
            refine z_get 118 0 8 hC hinX2 L13 dX2_endRound_115 rfl rfl rfl (by decide) rfl ?_
            refine z_iconst 119 hC dX2_endRound_118 rfl ?_
            refine z_callv (wr := [(m, .inr (2, [.int (iI 0), .int (iI hr), .int (iI tm), .int (iI en), .int (iI (ssLo S)), .int (iI (ssSl S)), .int (iI (ssFa S)), .ref (b 0), .ref (b 1), .ref (b 2), .ref (b 3), .ref (b 4), .ref (b 5), .ref (b 6)])), ((b 0), ar g 120 (fun _ => 4)), ((b 2), ar g 120 (ssW S)), ((b 3), ar g 120 (kOf (ssO S) (ssP S))), ((b 4), ar g 16 (tbl tm (up bu 0 0) (up sr 0 20) (lgF lg (ssT S) tm tm 0) (up (ssT S) 0 0))), ((b 5), ar g 12 td), ((b 6), ar g 120 ov)]) (w2 := fun _ => wMo g m b 0 hr tm en (ssLo S) (ssSl S) (ssFa S) (fun _ => 4) (fun _ => 0) (ssW S) (kOf (ssO S) (ssP S)) (tbl tm (up bu 0 0) (up sr 0 20) (lgF lg (ssT S) tm tm 0) (up (ssT S) 0 0)) td ov) 122 hC [2] [0, 1, 3, 4, 5, 6, 7] [0, 1, 7, 2, 3, 4, 5, 6] (z_runS (nA := 2) hC hN (c_X2_fill l D g (b 1) 120 (ssF S) 0 (by omega)) [2] rfl (by decide) gX2_endRound_X2_fill (by decide +kernel) rfl rfl rfl ⟨by decide, by decide⟩ rfl rfl (nle rfl) dX2_endRound_119 ⟨by decide, by decide⟩) rfl rfl (by decide) (by decide) (fun _ => rfl) (by decide) rfl (k2 := 1) (n2 := 3) rfl rfl (fun _ p_10 => ?_)
            refine z_aloadn 123 hC 2 dX2_endRound_122 rfl rfl rfl ?_
            refine z_get 126 0 9 hC hinX2 L16 dX2_endRound_123 rfl rfl rfl (by decide) rfl ?_
            refine z_iconst 127 hC dX2_endRound_126 rfl ?_
            refine z_callv (wr := [(m, .inr (2, [.int (iI 0), .int (iI hr), .int (iI tm), .int (iI en), .int (iI (ssLo S)), .int (iI (ssSl S)), .int (iI (ssFa S)), .ref (b 0), .ref (b 1), .ref (b 2), .ref (b 3), .ref (b 4), .ref (b 5), .ref (b 6)])), ((b 0), ar g 120 (fun _ => 4)), ((b 1), ar g 120 (fun _ => 0)), ((b 3), ar g 120 (kOf (ssO S) (ssP S))), ((b 4), ar g 16 (tbl tm (up bu 0 0) (up sr 0 20) (lgF lg (ssT S) tm tm 0) (up (ssT S) 0 0))), ((b 5), ar g 12 td), ((b 6), ar g 120 ov)]) (w2 := fun _ => wMo g m b 0 hr tm en (ssLo S) (ssSl S) (ssFa S) (fun _ => 4) (fun _ => 0) (fun _ => 0) (kOf (ssO S) (ssP S)) (tbl tm (up bu 0 0) (up sr 0 20) (lgF lg (ssT S) tm tm 0) (up (ssT S) 0 0)) td ov) 130 hC [3] [0, 1, 2, 4, 5, 6, 7] [0, 1, 2, 7, 3, 4, 5, 6] (z_runS (nA := 2) hC hN (c_X2_fill l D g (b 2) 120 (ssW S) 0 (by omega)) [3] rfl (by decide) gX2_endRound_X2_fill (by decide +kernel) rfl rfl rfl ⟨by decide, by decide⟩ rfl rfl (nle rfl) dX2_endRound_127 ⟨by decide, by decide⟩) rfl rfl (by decide) (by decide) (fun _ => rfl) (by decide) rfl (k2 := 1) (n2 := 3) rfl rfl (fun _ p_11 => ?_)
            refine z_aloadn 131 hC 2 dX2_endRound_130 rfl rfl rfl ?_
            refine z_get 134 0 10 hC hinX2 L19 dX2_endRound_131 rfl rfl rfl (by decide) rfl ?_
            refine z_iconst 135 hC dX2_endRound_134 rfl ?_
            refine z_callv (wr := [(m, .inr (2, [.int (iI 0), .int (iI hr), .int (iI tm), .int (iI en), .int (iI (ssLo S)), .int (iI (ssSl S)), .int (iI (ssFa S)), .ref (b 0), .ref (b 1), .ref (b 2), .ref (b 3), .ref (b 4), .ref (b 5), .ref (b 6)])), ((b 0), ar g 120 (fun _ => 4)), ((b 1), ar g 120 (fun _ => 0)), ((b 2), ar g 120 (fun _ => 0)), ((b 4), ar g 16 (tbl tm (up bu 0 0) (up sr 0 20) (lgF lg (ssT S) tm tm 0) (up (ssT S) 0 0))), ((b 5), ar g 12 td), ((b 6), ar g 120 ov)]) (w2 := fun _ => wMo g m b 0 hr tm en (ssLo S) (ssSl S) (ssFa S) (fun _ => 4) (fun _ => 0) (fun _ => 0) (fun _ => 0) (tbl tm (up bu 0 0) (up sr 0 20) (lgF lg (ssT S) tm tm 0) (up (ssT S) 0 0)) td ov) 138 hC [4] [0, 1, 2, 3, 5, 6, 7] [0, 1, 2, 3, 7, 4, 5, 6] (z_runS (nA := 2) hC hN (c_X2_fill l D g (b 3) 120 (kOf (ssO S) (ssP S)) 0 (by omega)) [4] rfl (by decide) gX2_endRound_X2_fill (by decide +kernel) rfl rfl rfl ⟨by decide, by decide⟩ rfl rfl (nle rfl) dX2_endRound_135 ⟨by decide, by decide⟩) rfl rfl (by decide) (by decide) (fun _ => rfl) (by decide) rfl (k2 := 1) (n2 := 3) rfl rfl (fun _ p_12 => ?_)
            refine z_aloadn 139 hC 2 dX2_endRound_138 rfl rfl rfl ?_
            refine z_iconst 140 hC dX2_endRound_139 rfl ?_
            refine z_put (ty := .int) (ws' := wMo g m b 0 hr tm en 0 (ssSl S) (ssFa S) (fun _ => 4) (fun _ => 0) (fun _ => 0) (fun _ => 0) (tbl tm (up bu 0 0) (up sr 0 20) (lgF lg (ssT S) tm tm 0) (up (ssT S) 0 0)) td ov) 143 0 4 hC tyX2 tyX2_ok nmX2 hinX2 L95 dX2_endRound_140 rfl rfl rfl (by decide) rfl (by decide +kernel) rfl rfl (nle rfl) rfl ?_
            refine z_aloadn 144 hC 2 dX2_endRound_143 rfl rfl rfl ?_
            refine z_iconst 145 hC dX2_endRound_144 rfl ?_
            refine z_put (ty := .int) (ws' := wMo g m b 0 hr tm en 0 0 (ssFa S) (fun _ => 4) (fun _ => 0) (fun _ => 0) (fun _ => 0) (tbl tm (up bu 0 0) (up sr 0 20) (lgF lg (ssT S) tm tm 0) (up (ssT S) 0 0)) td ov) 148 0 5 hC tyX2 tyX2_ok nmX2 hinX2 L98 dX2_endRound_145 rfl rfl rfl (by decide) rfl (by decide +kernel) rfl rfl (nle rfl) rfl ?_
            refine z_aloadn 149 hC 2 dX2_endRound_148 rfl rfl rfl ?_
            refine z_iconst 150 hC dX2_endRound_149 rfl ?_
            refine z_put (ty := .int) (ws' := wMo g m b 0 hr tm en 0 0 0 (fun _ => 4) (fun _ => 0) (fun _ => 0) (fun _ => 0) (tbl tm (up bu 0 0) (up sr 0 20) (lgF lg (ssT S) tm tm 0) (up (ssT S) 0 0)) td ov) 153 0 6 hC tyX2 tyX2_ok nmX2 hinX2 L101 dX2_endRound_150 rfl rfl rfl (by decide) rfl (by decide +kernel) rfl rfl (nle rfl) rfl ?_
            refine z_aloadn 154 hC 2 dX2_endRound_153 rfl rfl rfl ?_
            refine z_dup 155 hC dX2_endRound_154 rfl rfl ?_
            refine z_get 158 0 3 hC hinX2 L104 dX2_endRound_155 rfl rfl rfl (by decide) rfl ?_
            refine z_iconst 159 hC dX2_endRound_158 rfl ?_
            refine z_iadd 160 hC dX2_endRound_159 rfl ?_
            refine z_put (ty := .int) (ws' := wMo g m b 0 hr tm (en + 1) 0 0 0 (fun _ => 4) (fun _ => 0) (fun _ => 0) (fun _ => 0) (tbl tm (up bu 0 0) (up sr 0 20) (lgF lg (ssT S) tm tm 0) (up (ssT S) 0 0)) td ov) 163 0 3 hC tyX2 tyX2_ok nmX2 hinX2 L104 dX2_endRound_160 rfl rfl rfl (by decide) rfl (by decide +kernel) rfl rfl (nle rfl) rfl ?_
            refine z_aloadn 164 hC 2 dX2_endRound_163 rfl rfl rfl ?_
            refine z_get 167 0 3 hC hinX2 L104 dX2_endRound_164 rfl rfl rfl (by decide) rfl ?_
            refine z_widen (k2 := 4) (n2 := 12) (by omega) (by omega) ?_
            refine z_weq (ws' := wMo g m b 0 hr tm (en + 1) 0 0 0 (fun _ => 4) (fun _ => 0) (fun _ => 0) (fun _ => 0) (tbl tm (fun _ => 0) (fun _ => 20) (lgE lg (ssT S) tm tm) (fun _ => 0)) td ov) (zEq.cons zE1.rf (zEq.cons zE1.rf (zEq.cons zE1.rf (zEq.cons zE1.rf (zEq.cons zE1.rf (zEq.cons (zE1.arr (by intro j h0 h1; exact tbl_c (fun q _ _ => by first | omega | (unfold up; omega)) (fun q _ _ => by first | omega | (unfold up; omega)) (fun q _ h9 => lgF_E lg (ssT S) tm h9) (fun q _ _ => by first | omega | (unfold up; omega)) j h0)) (zEq.cons zE1.rf (zEq.cons zE1.rf zEq.nil)))))))) ?_
            exact hret () dX2_endRound_167 rfl (by rfl)
          · skip
            refine z_iconst 70 hC dX2_endRound_69 rfl ?_
            refine z_newi (ws' := fun x_13 => (wMo g m b 0 hr tm en (ssLo S) (ssSl S) (ssFa S) (ssS S) (ssF S) (ssW S) (kOf (ssO S) (ssP S)) (tbl tm (up bu 0 0) (up sr 0 20) (lgF lg (ssT S) tm tm 0) (up (ssT S) 0 0)) td ov) ++ (([(x_13, ar g 3 (fun _ => 0))]))) (k2 := 2) (n2 := 6) 72 hC (by decide +kernel) (by decide) (nle rfl) (by decide) (by decide) dX2_endRound_70 rfl rfl rfl (fun _ => rfl) (fun x_13 => ?_)
            refine z_dup 73 hC dX2_endRound_72 rfl rfl ?_
            refine z_iconst 74 hC dX2_endRound_73 rfl ?_
            refine z_iconst 75 hC dX2_endRound_74 rfl ?_
            refine z_iast (ws' := (wMo g m b 0 hr tm en (ssLo S) (ssSl S) (ssFa S) (ssS S) (ssF S) (ssW S) (kOf (ssO S) (ssP S)) (tbl tm (up bu 0 0) (up sr 0 20) (lgF lg (ssT S) tm tm 0) (up (ssT S) 0 0)) td ov) ++ (([(x_13, ar g 3 (up (fun _ => 0) 0 0))]))) 76 8 hC dX2_endRound_75 rfl rfl (by decide) (by omega) rfl ?_
            refine z_dup 77 hC dX2_endRound_76 rfl rfl ?_
            refine z_iconst 78 hC dX2_endRound_77 rfl ?_
            refine z_bipush 80 hC dX2_endRound_78 (by decide) rfl ?_
            refine z_iast (ws' := (wMo g m b 0 hr tm en (ssLo S) (ssSl S) (ssFa S) (ssS S) (ssF S) (ssW S) (kOf (ssO S) (ssP S)) (tbl tm (up bu 0 0) (up sr 0 20) (lgF lg (ssT S) tm tm 0) (up (ssT S) 0 0)) td ov) ++ (([(x_13, ar g 3 (up (up (fun _ => 0) 0 0) 1 20))]))) 81 8 hC dX2_endRound_80 rfl rfl (by decide) (by omega) rfl ?_
            refine z_dup 82 hC dX2_endRound_81 rfl rfl ?_
            refine z_iconst 83 hC dX2_endRound_82 rfl ?_
            refine z_iconst 84 hC dX2_endRound_83 rfl ?_
            refine z_iast (ws' := (wMo g m b 0 hr tm en (ssLo S) (ssSl S) (ssFa S) (ssS S) (ssF S) (ssW S) (kOf (ssO S) (ssP S)) (tbl tm (up bu 0 0) (up sr 0 20) (lgF lg (ssT S) tm tm 0) (up (ssT S) 0 0)) td ov) ++ (([(x_13, ar g 3 (up (up (up (fun _ => 0) 0 0) 1 20) 2 0))]))) 85 8 hC dX2_endRound_84 rfl rfl (by decide) (by omega) rfl ?_
            refine z_astoren (lv' := [(2, .ref x_13), (1, .int (iI (0 + 1))), (0, .ref m)]) 86 hC dX2_endRound_85 rfl rfl (by decide) rfl ?_
            refine z_aloadn 87 hC 0 dX2_endRound_86 rfl rfl rfl ?_
            refine z_iconst 88 hC dX2_endRound_87 rfl ?_
            refine z_aloadn 89 hC 2 dX2_endRound_88 rfl rfl rfl ?_
            refine z_get 92 0 11 hC hinX2 L22 dX2_endRound_89 rfl rfl rfl (by decide) rfl ?_
            refine z_iconst 93 hC dX2_endRound_92 rfl ?_
            refine z_iloadn 94 hC 1 dX2_endRound_93 rfl rfl rfl ?_
            refine z_imul 95 hC dX2_endRound_94 rfl ?_
            refine z_aloadn 96 hC 0 dX2_endRound_95 rfl rfl rfl ?_
            refine z_alen 97 8 hC dX2_endRound_96 rfl rfl rfl ?_
            refine z_copyp (ws' := (wMo g m b 0 hr tm en (ssLo S) (ssSl S) (ssFa S) (ssS S) (ssF S) (ssW S) (kOf (ssO S) (ssP S)) (cpI (up (up (up (fun _ => 0) 0 0) 1 20) 2 0) (tbl tm (up bu 0 0) (up sr 0 20) (lgF lg (ssT S) tm tm 0) (up (ssT S) 0 0)) 0 (4 * (0 + 1)) ((3 : Nat) : Int)) td ov) ++ (([(x_13, ar g 3 (up (up (up (fun _ => 0) 0 0) 1 20) 2 0))]))) 100 8 5 hC (by decide +kernel) (by decide +kernel) (by decide +kernel) (by decide +kernel) (by decide) (by decide) dX2_endRound_97 rfl rfl rfl (by decide) (by decide) (by omega) (by omega) (by omega) rfl ?_
            refine z_weq (ws' := (wMo g m b 0 hr tm en (ssLo S) (ssSl S) (ssFa S) (ssS S) (ssF S) (ssW S) (kOf (ssO S) (ssP S)) (tbl tm (up (up bu 0 0) (0 + 1) 0) (up (up sr 0 20) (0 + 1) 20) (lgF lg (ssT S) tm tm 0) (up (up (ssT S) 0 0) (0 + 1) 0)) td ov) ++ (([(x_13, ar g 3 (up (up (up (fun _ => 0) 0 0) 1 20) 2 0))]))) (zEq.cons zE1.rf (zEq.cons zE1.rf (zEq.cons zE1.rf (zEq.cons zE1.rf (zEq.cons zE1.rf (zEq.cons (zE1.arr (by intro j h0 h1; exact tbl_cp (by omega) rfl rfl rfl j)) (zEq.cons zE1.rf (zEq.cons zE1.rf (zEq.cons zE1.rf zEq.nil))))))))) ?_
            refine z_sub (ws' := wMo g m b 0 hr tm en (ssLo S) (ssSl S) (ssFa S) (ssS S) (ssF S) (ssW S) (kOf (ssO S) (ssP S)) (tbl tm (up (up bu 0 0) (0 + 1) 0) (up (up sr 0 20) (0 + 1) 20) (lgF lg (ssT S) tm tm 0) (up (up (ssT S) 0 0) (0 + 1) 0)) td ov) [0, 1, 2, 3, 4, 5, 6, 7] (by decide) rfl ?_
            refine z_iinc (lv' := [(1, .int (iI ((0 + 1) + 1))), (2, .ref x_13), (0, .ref m)]) 103 1 hC dX2_endRound_100 rfl rfl (by decide) rfl ?_
            refine z_goto 61 hC dX2_endRound_103 (by decide) ?_
            refine z_iloadn 62 hC 0 dX2_endRound_61 rfl rfl rfl ?_
            refine z_aloadn 63 hC 2 dX2_endRound_62 rfl rfl rfl ?_
            refine z_get 66 0 2 hC hinX2 L39 dX2_endRound_63 rfl rfl rfl (by decide) rfl ?_
            refine z_icmp_ge 106 69 hC dX2_endRound_66 (by decide) rfl (by omega) (by omega) (fun c_14 => ?_) (fun c_14 => ?_)
            · skip
              refine z_aloadn 107 hC 2 dX2_endRound_106 rfl rfl rfl ?_
              refine z_get 110 0 7 hC hinX2 L9 dX2_endRound_107 rfl rfl rfl (by decide) rfl ?_
              refine z_iconst 111 hC dX2_endRound_110 rfl ?_
              refine z_callv (wr := [(m, .inr (2, [.int (iI 0), .int (iI hr), .int (iI tm), .int (iI en), .int (iI (ssLo S)), .int (iI (ssSl S)), .int (iI (ssFa S)), .ref (b 0), .ref (b 1), .ref (b 2), .ref (b 3), .ref (b 4), .ref (b 5), .ref (b 6)])), ((b 1), ar g 120 (ssF S)), ((b 2), ar g 120 (ssW S)), ((b 3), ar g 120 (kOf (ssO S) (ssP S))), ((b 4), ar g 16 (tbl tm (up (up bu 0 0) (0 + 1) 0) (up (up sr 0 20) (0 + 1) 20) (lgF lg (ssT S) tm tm 0) (up (up (ssT S) 0 0) (0 + 1) 0))), ((b 5), ar g 12 td), ((b 6), ar g 120 ov)]) (w2 := fun _ => wMo g m b 0 hr tm en (ssLo S) (ssSl S) (ssFa S) (fun _ => 4) (ssF S) (ssW S) (kOf (ssO S) (ssP S)) (tbl tm (up (up bu 0 0) (0 + 1) 0) (up (up sr 0 20) (0 + 1) 20) (lgF lg (ssT S) tm tm 0) (up (up (ssT S) 0 0) (0 + 1) 0)) td ov) 114 hC [1] [0, 2, 3, 4, 5, 6, 7] [0, 7, 1, 2, 3, 4, 5, 6] (z_runS (nA := 2) hC hN (c_X2_fill l D g (b 0) 120 (ssS S) 4 (by omega)) [1] rfl (by decide) gX2_endRound_X2_fill (by decide +kernel) rfl rfl rfl ⟨by decide, by decide⟩ rfl rfl (nle rfl) dX2_endRound_111 ⟨by decide, by decide⟩) rfl rfl (by decide) (by decide) (fun _ => rfl) (by decide) rfl (k2 := 2) (n2 := 6) rfl rfl (fun _ p_15 => ?_)
              refine z_aloadn 115 hC 2 dX2_endRound_114 rfl rfl rfl ?_
              refine z_get 118 0 8 hC hinX2 L13 dX2_endRound_115 rfl rfl rfl (by decide) rfl ?_
              refine z_iconst 119 hC dX2_endRound_118 rfl ?_
              refine z_callv (wr := [(m, .inr (2, [.int (iI 0), .int (iI hr), .int (iI tm), .int (iI en), .int (iI (ssLo S)), .int (iI (ssSl S)), .int (iI (ssFa S)), .ref (b 0), .ref (b 1), .ref (b 2), .ref (b 3), .ref (b 4), .ref (b 5), .ref (b 6)])), ((b 0), ar g 120 (fun _ => 4)), ((b 2), ar g 120 (ssW S)), ((b 3), ar g 120 (kOf (ssO S) (ssP S))), ((b 4), ar g 16 (tbl tm (up (up bu 0 0) (0 + 1) 0) (up (up sr 0 20) (0 + 1) 20) (lgF lg (ssT S) tm tm 0) (up (up (ssT S) 0 0) (0 + 1) 0))), ((b 5), ar g 12 td), ((b 6), ar g 120 ov)]) (w2 := fun _ => wMo g m b 0 hr tm en (ssLo S) (ssSl S) (ssFa S) (fun _ => 4) (fun _ => 0) (ssW S) (kOf (ssO S) (ssP S)) (tbl tm (up (up bu 0 0) (0 + 1) 0) (up (up sr 0 20) (0 + 1) 20) (lgF lg (ssT S) tm tm 0) (up (up (ssT S) 0 0) (0 + 1) 0)) td ov) 122 hC [2] [0, 1, 3, 4, 5, 6, 7] [0, 1, 7, 2, 3, 4, 5, 6] (z_runS (nA := 2) hC hN (c_X2_fill l D g (b 1) 120 (ssF S) 0 (by omega)) [2] rfl (by decide) gX2_endRound_X2_fill (by decide +kernel) rfl rfl rfl ⟨by decide, by decide⟩ rfl rfl (nle rfl) dX2_endRound_119 ⟨by decide, by decide⟩) rfl rfl (by decide) (by decide) (fun _ => rfl) (by decide) rfl (k2 := 2) (n2 := 6) rfl rfl (fun _ p_16 => ?_)
              refine z_aloadn 123 hC 2 dX2_endRound_122 rfl rfl rfl ?_
              refine z_get 126 0 9 hC hinX2 L16 dX2_endRound_123 rfl rfl rfl (by decide) rfl ?_
              refine z_iconst 127 hC dX2_endRound_126 rfl ?_
              refine z_callv (wr := [(m, .inr (2, [.int (iI 0), .int (iI hr), .int (iI tm), .int (iI en), .int (iI (ssLo S)), .int (iI (ssSl S)), .int (iI (ssFa S)), .ref (b 0), .ref (b 1), .ref (b 2), .ref (b 3), .ref (b 4), .ref (b 5), .ref (b 6)])), ((b 0), ar g 120 (fun _ => 4)), ((b 1), ar g 120 (fun _ => 0)), ((b 3), ar g 120 (kOf (ssO S) (ssP S))), ((b 4), ar g 16 (tbl tm (up (up bu 0 0) (0 + 1) 0) (up (up sr 0 20) (0 + 1) 20) (lgF lg (ssT S) tm tm 0) (up (up (ssT S) 0 0) (0 + 1) 0))), ((b 5), ar g 12 td), ((b 6), ar g 120 ov)]) (w2 := fun _ => wMo g m b 0 hr tm en (ssLo S) (ssSl S) (ssFa S) (fun _ => 4) (fun _ => 0) (fun _ => 0) (kOf (ssO S) (ssP S)) (tbl tm (up (up bu 0 0) (0 + 1) 0) (up (up sr 0 20) (0 + 1) 20) (lgF lg (ssT S) tm tm 0) (up (up (ssT S) 0 0) (0 + 1) 0)) td ov) 130 hC [3] [0, 1, 2, 4, 5, 6, 7] [0, 1, 2, 7, 3, 4, 5, 6] (z_runS (nA := 2) hC hN (c_X2_fill l D g (b 2) 120 (ssW S) 0 (by omega)) [3] rfl (by decide) gX2_endRound_X2_fill (by decide +kernel) rfl rfl rfl ⟨by decide, by decide⟩ rfl rfl (nle rfl) dX2_endRound_127 ⟨by decide, by decide⟩) rfl rfl (by decide) (by decide) (fun _ => rfl) (by decide) rfl (k2 := 2) (n2 := 6) rfl rfl (fun _ p_17 => ?_)
              refine z_aloadn 131 hC 2 dX2_endRound_130 rfl rfl rfl ?_
              refine z_get 134 0 10 hC hinX2 L19 dX2_endRound_131 rfl rfl rfl (by decide) rfl ?_
              refine z_iconst 135 hC dX2_endRound_134 rfl ?_
              refine z_callv (wr := [(m, .inr (2, [.int (iI 0), .int (iI hr), .int (iI tm), .int (iI en), .int (iI (ssLo S)), .int (iI (ssSl S)), .int (iI (ssFa S)), .ref (b 0), .ref (b 1), .ref (b 2), .ref (b 3), .ref (b 4), .ref (b 5), .ref (b 6)])), ((b 0), ar g 120 (fun _ => 4)), ((b 1), ar g 120 (fun _ => 0)), ((b 2), ar g 120 (fun _ => 0)), ((b 4), ar g 16 (tbl tm (up (up bu 0 0) (0 + 1) 0) (up (up sr 0 20) (0 + 1) 20) (lgF lg (ssT S) tm tm 0) (up (up (ssT S) 0 0) (0 + 1) 0))), ((b 5), ar g 12 td), ((b 6), ar g 120 ov)]) (w2 := fun _ => wMo g m b 0 hr tm en (ssLo S) (ssSl S) (ssFa S) (fun _ => 4) (fun _ => 0) (fun _ => 0) (fun _ => 0) (tbl tm (up (up bu 0 0) (0 + 1) 0) (up (up sr 0 20) (0 + 1) 20) (lgF lg (ssT S) tm tm 0) (up (up (ssT S) 0 0) (0 + 1) 0)) td ov) 138 hC [4] [0, 1, 2, 3, 5, 6, 7] [0, 1, 2, 3, 7, 4, 5, 6] (z_runS (nA := 2) hC hN (c_X2_fill l D g (b 3) 120 (kOf (ssO S) (ssP S)) 0 (by omega)) [4] rfl (by decide) gX2_endRound_X2_fill (by decide +kernel) rfl rfl rfl ⟨by decide, by decide⟩ rfl rfl (nle rfl) dX2_endRound_135 ⟨by decide, by decide⟩) rfl rfl (by decide) (by decide) (fun _ => rfl) (by decide) rfl (k2 := 2) (n2 := 6) rfl rfl (fun _ p_18 => ?_)
              refine z_aloadn 139 hC 2 dX2_endRound_138 rfl rfl rfl ?_
              refine z_iconst 140 hC dX2_endRound_139 rfl ?_
              refine z_put (ty := .int) (ws' := wMo g m b 0 hr tm en 0 (ssSl S) (ssFa S) (fun _ => 4) (fun _ => 0) (fun _ => 0) (fun _ => 0) (tbl tm (up (up bu 0 0) (0 + 1) 0) (up (up sr 0 20) (0 + 1) 20) (lgF lg (ssT S) tm tm 0) (up (up (ssT S) 0 0) (0 + 1) 0)) td ov) 143 0 4 hC tyX2 tyX2_ok nmX2 hinX2 L95 dX2_endRound_140 rfl rfl rfl (by decide) rfl (by decide +kernel) rfl rfl (nle rfl) rfl ?_
              refine z_aloadn 144 hC 2 dX2_endRound_143 rfl rfl rfl ?_
              refine z_iconst 145 hC dX2_endRound_144 rfl ?_
              refine z_put (ty := .int) (ws' := wMo g m b 0 hr tm en 0 0 (ssFa S) (fun _ => 4) (fun _ => 0) (fun _ => 0) (fun _ => 0) (tbl tm (up (up bu 0 0) (0 + 1) 0) (up (up sr 0 20) (0 + 1) 20) (lgF lg (ssT S) tm tm 0) (up (up (ssT S) 0 0) (0 + 1) 0)) td ov) 148 0 5 hC tyX2 tyX2_ok nmX2 hinX2 L98 dX2_endRound_145 rfl rfl rfl (by decide) rfl (by decide +kernel) rfl rfl (nle rfl) rfl ?_
              refine z_aloadn 149 hC 2 dX2_endRound_148 rfl rfl rfl ?_
              refine z_iconst 150 hC dX2_endRound_149 rfl ?_
              refine z_put (ty := .int) (ws' := wMo g m b 0 hr tm en 0 0 0 (fun _ => 4) (fun _ => 0) (fun _ => 0) (fun _ => 0) (tbl tm (up (up bu 0 0) (0 + 1) 0) (up (up sr 0 20) (0 + 1) 20) (lgF lg (ssT S) tm tm 0) (up (up (ssT S) 0 0) (0 + 1) 0)) td ov) 153 0 6 hC tyX2 tyX2_ok nmX2 hinX2 L101 dX2_endRound_150 rfl rfl rfl (by decide) rfl (by decide +kernel) rfl rfl (nle rfl) rfl ?_
              refine z_aloadn 154 hC 2 dX2_endRound_153 rfl rfl rfl ?_
              refine z_dup 155 hC dX2_endRound_154 rfl rfl ?_
              refine z_get 158 0 3 hC hinX2 L104 dX2_endRound_155 rfl rfl rfl (by decide) rfl ?_
              refine z_iconst 159 hC dX2_endRound_158 rfl ?_
              refine z_iadd 160 hC dX2_endRound_159 rfl ?_
              refine z_put (ty := .int) (ws' := wMo g m b 0 hr tm (en + 1) 0 0 0 (fun _ => 4) (fun _ => 0) (fun _ => 0) (fun _ => 0) (tbl tm (up (up bu 0 0) (0 + 1) 0) (up (up sr 0 20) (0 + 1) 20) (lgF lg (ssT S) tm tm 0) (up (up (ssT S) 0 0) (0 + 1) 0)) td ov) 163 0 3 hC tyX2 tyX2_ok nmX2 hinX2 L104 dX2_endRound_160 rfl rfl rfl (by decide) rfl (by decide +kernel) rfl rfl (nle rfl) rfl ?_
              refine z_aloadn 164 hC 2 dX2_endRound_163 rfl rfl rfl ?_
              refine z_get 167 0 3 hC hinX2 L104 dX2_endRound_164 rfl rfl rfl (by decide) rfl ?_
              refine z_widen (k2 := 4) (n2 := 12) (by omega) (by omega) ?_
              refine z_weq (ws' := wMo g m b 0 hr tm (en + 1) 0 0 0 (fun _ => 4) (fun _ => 0) (fun _ => 0) (fun _ => 0) (tbl tm (fun _ => 0) (fun _ => 20) (lgE lg (ssT S) tm tm) (fun _ => 0)) td ov) (zEq.cons zE1.rf (zEq.cons zE1.rf (zEq.cons zE1.rf (zEq.cons zE1.rf (zEq.cons zE1.rf (zEq.cons (zE1.arr (by intro j h0 h1; exact tbl_c (fun q _ _ => by first | omega | (unfold up; omega)) (fun q _ _ => by first | omega | (unfold up; omega)) (fun q _ h9 => lgF_E lg (ssT S) tm h9) (fun q _ _ => by first | omega | (unfold up; omega)) j h0)) (zEq.cons zE1.rf (zEq.cons zE1.rf zEq.nil)))))))) ?_
              exact hret () dX2_endRound_167 rfl (by rfl)
            · skip
              refine z_iconst 70 hC dX2_endRound_69 rfl ?_
              refine z_newi (ws' := fun x_19 => (wMo g m b 0 hr tm en (ssLo S) (ssSl S) (ssFa S) (ssS S) (ssF S) (ssW S) (kOf (ssO S) (ssP S)) (tbl tm (up (up bu 0 0) (0 + 1) 0) (up (up sr 0 20) (0 + 1) 20) (lgF lg (ssT S) tm tm 0) (up (up (ssT S) 0 0) (0 + 1) 0)) td ov) ++ (([(x_19, ar g 3 (fun _ => 0))]))) (k2 := 3) (n2 := 9) 72 hC (by decide +kernel) (by decide) (nle rfl) (by decide) (by decide) dX2_endRound_70 rfl rfl rfl (fun _ => rfl) (fun x_19 => ?_)
              refine z_dup 73 hC dX2_endRound_72 rfl rfl ?_
              refine z_iconst 74 hC dX2_endRound_73 rfl ?_
              refine z_iconst 75 hC dX2_endRound_74 rfl ?_
              refine z_iast (ws' := (wMo g m b 0 hr tm en (ssLo S) (ssSl S) (ssFa S) (ssS S) (ssF S) (ssW S) (kOf (ssO S) (ssP S)) (tbl tm (up (up bu 0 0) (0 + 1) 0) (up (up sr 0 20) (0 + 1) 20) (lgF lg (ssT S) tm tm 0) (up (up (ssT S) 0 0) (0 + 1) 0)) td ov) ++ (([(x_19, ar g 3 (up (fun _ => 0) 0 0))]))) 76 8 hC dX2_endRound_75 rfl rfl (by decide) (by omega) rfl ?_
              refine z_dup 77 hC dX2_endRound_76 rfl rfl ?_
              refine z_iconst 78 hC dX2_endRound_77 rfl ?_
              refine z_bipush 80 hC dX2_endRound_78 (by decide) rfl ?_
              refine z_iast (ws' := (wMo g m b 0 hr tm en (ssLo S) (ssSl S) (ssFa S) (ssS S) (ssF S) (ssW S) (kOf (ssO S) (ssP S)) (tbl tm (up (up bu 0 0) (0 + 1) 0) (up (up sr 0 20) (0 + 1) 20) (lgF lg (ssT S) tm tm 0) (up (up (ssT S) 0 0) (0 + 1) 0)) td ov) ++ (([(x_19, ar g 3 (up (up (fun _ => 0) 0 0) 1 20))]))) 81 8 hC dX2_endRound_80 rfl rfl (by decide) (by omega) rfl ?_
              refine z_dup 82 hC dX2_endRound_81 rfl rfl ?_
              refine z_iconst 83 hC dX2_endRound_82 rfl ?_
              refine z_iconst 84 hC dX2_endRound_83 rfl ?_
              refine z_iast (ws' := (wMo g m b 0 hr tm en (ssLo S) (ssSl S) (ssFa S) (ssS S) (ssF S) (ssW S) (kOf (ssO S) (ssP S)) (tbl tm (up (up bu 0 0) (0 + 1) 0) (up (up sr 0 20) (0 + 1) 20) (lgF lg (ssT S) tm tm 0) (up (up (ssT S) 0 0) (0 + 1) 0)) td ov) ++ (([(x_19, ar g 3 (up (up (up (fun _ => 0) 0 0) 1 20) 2 0))]))) 85 8 hC dX2_endRound_84 rfl rfl (by decide) (by omega) rfl ?_
              refine z_astoren (lv' := [(2, .ref x_19), (1, .int (iI ((0 + 1) + 1))), (0, .ref m)]) 86 hC dX2_endRound_85 rfl rfl (by decide) rfl ?_
              refine z_aloadn 87 hC 0 dX2_endRound_86 rfl rfl rfl ?_
              refine z_iconst 88 hC dX2_endRound_87 rfl ?_
              refine z_aloadn 89 hC 2 dX2_endRound_88 rfl rfl rfl ?_
              refine z_get 92 0 11 hC hinX2 L22 dX2_endRound_89 rfl rfl rfl (by decide) rfl ?_
              refine z_iconst 93 hC dX2_endRound_92 rfl ?_
              refine z_iloadn 94 hC 1 dX2_endRound_93 rfl rfl rfl ?_
              refine z_imul 95 hC dX2_endRound_94 rfl ?_
              refine z_aloadn 96 hC 0 dX2_endRound_95 rfl rfl rfl ?_
              refine z_alen 97 8 hC dX2_endRound_96 rfl rfl rfl ?_
              refine z_copyp (ws' := (wMo g m b 0 hr tm en (ssLo S) (ssSl S) (ssFa S) (ssS S) (ssF S) (ssW S) (kOf (ssO S) (ssP S)) (cpI (up (up (up (fun _ => 0) 0 0) 1 20) 2 0) (tbl tm (up (up bu 0 0) (0 + 1) 0) (up (up sr 0 20) (0 + 1) 20) (lgF lg (ssT S) tm tm 0) (up (up (ssT S) 0 0) (0 + 1) 0)) 0 (4 * ((0 + 1) + 1)) ((3 : Nat) : Int)) td ov) ++ (([(x_19, ar g 3 (up (up (up (fun _ => 0) 0 0) 1 20) 2 0))]))) 100 8 5 hC (by decide +kernel) (by decide +kernel) (by decide +kernel) (by decide +kernel) (by decide) (by decide) dX2_endRound_97 rfl rfl rfl (by decide) (by decide) (by omega) (by omega) (by omega) rfl ?_
              refine z_weq (ws' := (wMo g m b 0 hr tm en (ssLo S) (ssSl S) (ssFa S) (ssS S) (ssF S) (ssW S) (kOf (ssO S) (ssP S)) (tbl tm (up (up (up bu 0 0) (0 + 1) 0) ((0 + 1) + 1) 0) (up (up (up sr 0 20) (0 + 1) 20) ((0 + 1) + 1) 20) (lgF lg (ssT S) tm tm 0) (up (up (up (ssT S) 0 0) (0 + 1) 0) ((0 + 1) + 1) 0)) td ov) ++ (([(x_19, ar g 3 (up (up (up (fun _ => 0) 0 0) 1 20) 2 0))]))) (zEq.cons zE1.rf (zEq.cons zE1.rf (zEq.cons zE1.rf (zEq.cons zE1.rf (zEq.cons zE1.rf (zEq.cons (zE1.arr (by intro j h0 h1; exact tbl_cp (by omega) rfl rfl rfl j)) (zEq.cons zE1.rf (zEq.cons zE1.rf (zEq.cons zE1.rf zEq.nil))))))))) ?_
              refine z_sub (ws' := wMo g m b 0 hr tm en (ssLo S) (ssSl S) (ssFa S) (ssS S) (ssF S) (ssW S) (kOf (ssO S) (ssP S)) (tbl tm (up (up (up bu 0 0) (0 + 1) 0) ((0 + 1) + 1) 0) (up (up (up sr 0 20) (0 + 1) 20) ((0 + 1) + 1) 20) (lgF lg (ssT S) tm tm 0) (up (up (up (ssT S) 0 0) (0 + 1) 0) ((0 + 1) + 1) 0)) td ov) [0, 1, 2, 3, 4, 5, 6, 7] (by decide) rfl ?_
              refine z_iinc (lv' := [(1, .int (iI (((0 + 1) + 1) + 1))), (2, .ref x_19), (0, .ref m)]) 103 1 hC dX2_endRound_100 rfl rfl (by decide) rfl ?_
              refine z_goto 61 hC dX2_endRound_103 (by decide) ?_
              refine z_iloadn 62 hC 0 dX2_endRound_61 rfl rfl rfl ?_
              refine z_aloadn 63 hC 2 dX2_endRound_62 rfl rfl rfl ?_
              refine z_get 66 0 2 hC hinX2 L39 dX2_endRound_63 rfl rfl rfl (by decide) rfl ?_
              refine z_icmp_ge 106 69 hC dX2_endRound_66 (by decide) rfl (by omega) (by omega) (fun c_20 => ?_) (fun c_20 => ?_)
              · skip
                refine z_aloadn 107 hC 2 dX2_endRound_106 rfl rfl rfl ?_
                refine z_get 110 0 7 hC hinX2 L9 dX2_endRound_107 rfl rfl rfl (by decide) rfl ?_
                refine z_iconst 111 hC dX2_endRound_110 rfl ?_
                refine z_callv (wr := [(m, .inr (2, [.int (iI 0), .int (iI hr), .int (iI tm), .int (iI en), .int (iI (ssLo S)), .int (iI (ssSl S)), .int (iI (ssFa S)), .ref (b 0), .ref (b 1), .ref (b 2), .ref (b 3), .ref (b 4), .ref (b 5), .ref (b 6)])), ((b 1), ar g 120 (ssF S)), ((b 2), ar g 120 (ssW S)), ((b 3), ar g 120 (kOf (ssO S) (ssP S))), ((b 4), ar g 16 (tbl tm (up (up (up bu 0 0) (0 + 1) 0) ((0 + 1) + 1) 0) (up (up (up sr 0 20) (0 + 1) 20) ((0 + 1) + 1) 20) (lgF lg (ssT S) tm tm 0) (up (up (up (ssT S) 0 0) (0 + 1) 0) ((0 + 1) + 1) 0))), ((b 5), ar g 12 td), ((b 6), ar g 120 ov)]) (w2 := fun _ => wMo g m b 0 hr tm en (ssLo S) (ssSl S) (ssFa S) (fun _ => 4) (ssF S) (ssW S) (kOf (ssO S) (ssP S)) (tbl tm (up (up (up bu 0 0) (0 + 1) 0) ((0 + 1) + 1) 0) (up (up (up sr 0 20) (0 + 1) 20) ((0 + 1) + 1) 20) (lgF lg (ssT S) tm tm 0) (up (up (up (ssT S) 0 0) (0 + 1) 0) ((0 + 1) + 1) 0)) td ov) 114 hC [1] [0, 2, 3, 4, 5, 6, 7] [0, 7, 1, 2, 3, 4, 5, 6] (z_runS (nA := 2) hC hN (c_X2_fill l D g (b 0) 120 (ssS S) 4 (by omega)) [1] rfl (by decide) gX2_endRound_X2_fill (by decide +kernel) rfl rfl rfl ⟨by decide, by decide⟩ rfl rfl (nle rfl) dX2_endRound_111 ⟨by decide, by decide⟩) rfl rfl (by decide) (by decide) (fun _ => rfl) (by decide) rfl (k2 := 3) (n2 := 9) rfl rfl (fun _ p_21 => ?_)
                refine z_aloadn 115 hC 2 dX2_endRound_114 rfl rfl rfl ?_
                refine z_get 118 0 8 hC hinX2 L13 dX2_endRound_115 rfl rfl rfl (by decide) rfl ?_
                refine z_iconst 119 hC dX2_endRound_118 rfl ?_
                refine z_callv (wr := [(m, .inr (2, [.int (iI 0), .int (iI hr), .int (iI tm), .int (iI en), .int (iI (ssLo S)), .int (iI (ssSl S)), .int (iI (ssFa S)), .ref (b 0), .ref (b 1), .ref (b 2), .ref (b 3), .ref (b 4), .ref (b 5), .ref (b 6)])), ((b 0), ar g 120 (fun _ => 4)), ((b 2), ar g 120 (ssW S)), ((b 3), ar g 120 (kOf (ssO S) (ssP S))), ((b 4), ar g 16 (tbl tm (up (up (up bu 0 0) (0 + 1) 0) ((0 + 1) + 1) 0) (up (up (up sr 0 20) (0 + 1) 20) ((0 + 1) + 1) 20) (lgF lg (ssT S) tm tm 0) (up (up (up (ssT S) 0 0) (0 + 1) 0) ((0 + 1) + 1) 0))), ((b 5), ar g 12 td), ((b 6), ar g 120 ov)]) (w2 := fun _ => wMo g m b 0 hr tm en (ssLo S) (ssSl S) (ssFa S) (fun _ => 4) (fun _ => 0) (ssW S) (kOf (ssO S) (ssP S)) (tbl tm (up (up (up bu 0 0) (0 + 1) 0) ((0 + 1) + 1) 0) (up (up (up sr 0 20) (0 + 1) 20) ((0 + 1) + 1) 20) (lgF lg (ssT S) tm tm 0) (up (up (up (ssT S) 0 0) (0 + 1) 0) ((0 + 1) + 1) 0)) td ov) 122 hC [2] [0, 1, 3, 4, 5, 6, 7] [0, 1, 7, 2, 3, 4, 5, 6] (z_runS (nA := 2) hC hN (c_X2_fill l D g (b 1) 120 (ssF S) 0 (by omega)) [2] rfl (by decide) gX2_endRound_X2_fill (by decide +kernel) rfl rfl rfl ⟨by decide, by decide⟩ rfl rfl (nle rfl) dX2_endRound_119 ⟨by decide, by decide⟩) rfl rfl (by decide) (by decide) (fun _ => rfl) (by decide) rfl (k2 := 3) (n2 := 9) rfl rfl (fun _ p_22 => ?_)
                refine z_aloadn 123 hC 2 dX2_endRound_122 rfl rfl rfl ?_
                refine z_get 126 0 9 hC hinX2 L16 dX2_endRound_123 rfl rfl rfl (by decide) rfl ?_
                refine z_iconst 127 hC dX2_endRound_126 rfl ?_
                refine z_callv (wr := [(m, .inr (2, [.int (iI 0), .int (iI hr), .int (iI tm), .int (iI en), .int (iI (ssLo S)), .int (iI (ssSl S)), .int (iI (ssFa S)), .ref (b 0), .ref (b 1), .ref (b 2), .ref (b 3), .ref (b 4), .ref (b 5), .ref (b 6)])), ((b 0), ar g 120 (fun _ => 4)), ((b 1), ar g 120 (fun _ => 0)), ((b 3), ar g 120 (kOf (ssO S) (ssP S))), ((b 4), ar g 16 (tbl tm (up (up (up bu 0 0) (0 + 1) 0) ((0 + 1) + 1) 0) (up (up (up sr 0 20) (0 + 1) 20) ((0 + 1) + 1) 20) (lgF lg (ssT S) tm tm 0) (up (up (up (ssT S) 0 0) (0 + 1) 0) ((0 + 1) + 1) 0))), ((b 5), ar g 12 td), ((b 6), ar g 120 ov)]) (w2 := fun _ => wMo g m b 0 hr tm en (ssLo S) (ssSl S) (ssFa S) (fun _ => 4) (fun _ => 0) (fun _ => 0) (kOf (ssO S) (ssP S)) (tbl tm (up (up (up bu 0 0) (0 + 1) 0) ((0 + 1) + 1) 0) (up (up (up sr 0 20) (0 + 1) 20) ((0 + 1) + 1) 20) (lgF lg (ssT S) tm tm 0) (up (up (up (ssT S) 0 0) (0 + 1) 0) ((0 + 1) + 1) 0)) td ov) 130 hC [3] [0, 1, 2, 4, 5, 6, 7] [0, 1, 2, 7, 3, 4, 5, 6] (z_runS (nA := 2) hC hN (c_X2_fill l D g (b 2) 120 (ssW S) 0 (by omega)) [3] rfl (by decide) gX2_endRound_X2_fill (by decide +kernel) rfl rfl rfl ⟨by decide, by decide⟩ rfl rfl (nle rfl) dX2_endRound_127 ⟨by decide, by decide⟩) rfl rfl (by decide) (by decide) (fun _ => rfl) (by decide) rfl (k2 := 3) (n2 := 9) rfl rfl (fun _ p_23 => ?_)
                refine z_aloadn 131 hC 2 dX2_endRound_130 rfl rfl rfl ?_
                refine z_get 134 0 10 hC hinX2 L19 dX2_endRound_131 rfl rfl rfl (by decide) rfl ?_
                refine z_iconst 135 hC dX2_endRound_134 rfl ?_
                refine z_callv (wr := [(m, .inr (2, [.int (iI 0), .int (iI hr), .int (iI tm), .int (iI en), .int (iI (ssLo S)), .int (iI (ssSl S)), .int (iI (ssFa S)), .ref (b 0), .ref (b 1), .ref (b 2), .ref (b 3), .ref (b 4), .ref (b 5), .ref (b 6)])), ((b 0), ar g 120 (fun _ => 4)), ((b 1), ar g 120 (fun _ => 0)), ((b 2), ar g 120 (fun _ => 0)), ((b 4), ar g 16 (tbl tm (up (up (up bu 0 0) (0 + 1) 0) ((0 + 1) + 1) 0) (up (up (up sr 0 20) (0 + 1) 20) ((0 + 1) + 1) 20) (lgF lg (ssT S) tm tm 0) (up (up (up (ssT S) 0 0) (0 + 1) 0) ((0 + 1) + 1) 0))), ((b 5), ar g 12 td), ((b 6), ar g 120 ov)]) (w2 := fun _ => wMo g m b 0 hr tm en (ssLo S) (ssSl S) (ssFa S) (fun _ => 4) (fun _ => 0) (fun _ => 0) (fun _ => 0) (tbl tm (up (up (up bu 0 0) (0 + 1) 0) ((0 + 1) + 1) 0) (up (up (up sr 0 20) (0 + 1) 20) ((0 + 1) + 1) 20) (lgF lg (ssT S) tm tm 0) (up (up (up (ssT S) 0 0) (0 + 1) 0) ((0 + 1) + 1) 0)) td ov) 138 hC [4] [0, 1, 2, 3, 5, 6, 7] [0, 1, 2, 3, 7, 4, 5, 6] (z_runS (nA := 2) hC hN (c_X2_fill l D g (b 3) 120 (kOf (ssO S) (ssP S)) 0 (by omega)) [4] rfl (by decide) gX2_endRound_X2_fill (by decide +kernel) rfl rfl rfl ⟨by decide, by decide⟩ rfl rfl (nle rfl) dX2_endRound_135 ⟨by decide, by decide⟩) rfl rfl (by decide) (by decide) (fun _ => rfl) (by decide) rfl (k2 := 3) (n2 := 9) rfl rfl (fun _ p_24 => ?_)
                refine z_aloadn 139 hC 2 dX2_endRound_138 rfl rfl rfl ?_
                refine z_iconst 140 hC dX2_endRound_139 rfl ?_
                refine z_put (ty := .int) (ws' := wMo g m b 0 hr tm en 0 (ssSl S) (ssFa S) (fun _ => 4) (fun _ => 0) (fun _ => 0) (fun _ => 0) (tbl tm (up (up (up bu 0 0) (0 + 1) 0) ((0 + 1) + 1) 0) (up (up (up sr 0 20) (0 + 1) 20) ((0 + 1) + 1) 20) (lgF lg (ssT S) tm tm 0) (up (up (up (ssT S) 0 0) (0 + 1) 0) ((0 + 1) + 1) 0)) td ov) 143 0 4 hC tyX2 tyX2_ok nmX2 hinX2 L95 dX2_endRound_140 rfl rfl rfl (by decide) rfl (by decide +kernel) rfl rfl (nle rfl) rfl ?_
                refine z_aloadn 144 hC 2 dX2_endRound_143 rfl rfl rfl ?_
                refine z_iconst 145 hC dX2_endRound_144 rfl ?_
                refine z_put (ty := .int) (ws' := wMo g m b 0 hr tm en 0 0 (ssFa S) (fun _ => 4) (fun _ => 0) (fun _ => 0) (fun _ => 0) (tbl tm (up (up (up bu 0 0) (0 + 1) 0) ((0 + 1) + 1) 0) (up (up (up sr 0 20) (0 + 1) 20) ((0 + 1) + 1) 20) (lgF lg (ssT S) tm tm 0) (up (up (up (ssT S) 0 0) (0 + 1) 0) ((0 + 1) + 1) 0)) td ov) 148 0 5 hC tyX2 tyX2_ok nmX2 hinX2 L98 dX2_endRound_145 rfl rfl rfl (by decide) rfl (by decide +kernel) rfl rfl (nle rfl) rfl ?_
                refine z_aloadn 149 hC 2 dX2_endRound_148 rfl rfl rfl ?_
                refine z_iconst 150 hC dX2_endRound_149 rfl ?_
                refine z_put (ty := .int) (ws' := wMo g m b 0 hr tm en 0 0 0 (fun _ => 4) (fun _ => 0) (fun _ => 0) (fun _ => 0) (tbl tm (up (up (up bu 0 0) (0 + 1) 0) ((0 + 1) + 1) 0) (up (up (up sr 0 20) (0 + 1) 20) ((0 + 1) + 1) 20) (lgF lg (ssT S) tm tm 0) (up (up (up (ssT S) 0 0) (0 + 1) 0) ((0 + 1) + 1) 0)) td ov) 153 0 6 hC tyX2 tyX2_ok nmX2 hinX2 L101 dX2_endRound_150 rfl rfl rfl (by decide) rfl (by decide +kernel) rfl rfl (nle rfl) rfl ?_
                refine z_aloadn 154 hC 2 dX2_endRound_153 rfl rfl rfl ?_
                refine z_dup 155 hC dX2_endRound_154 rfl rfl ?_
                refine z_get 158 0 3 hC hinX2 L104 dX2_endRound_155 rfl rfl rfl (by decide) rfl ?_
                refine z_iconst 159 hC dX2_endRound_158 rfl ?_
                refine z_iadd 160 hC dX2_endRound_159 rfl ?_
                refine z_put (ty := .int) (ws' := wMo g m b 0 hr tm (en + 1) 0 0 0 (fun _ => 4) (fun _ => 0) (fun _ => 0) (fun _ => 0) (tbl tm (up (up (up bu 0 0) (0 + 1) 0) ((0 + 1) + 1) 0) (up (up (up sr 0 20) (0 + 1) 20) ((0 + 1) + 1) 20) (lgF lg (ssT S) tm tm 0) (up (up (up (ssT S) 0 0) (0 + 1) 0) ((0 + 1) + 1) 0)) td ov) 163 0 3 hC tyX2 tyX2_ok nmX2 hinX2 L104 dX2_endRound_160 rfl rfl rfl (by decide) rfl (by decide +kernel) rfl rfl (nle rfl) rfl ?_
                refine z_aloadn 164 hC 2 dX2_endRound_163 rfl rfl rfl ?_
                refine z_get 167 0 3 hC hinX2 L104 dX2_endRound_164 rfl rfl rfl (by decide) rfl ?_
                refine z_widen (k2 := 4) (n2 := 12) (by omega) (by omega) ?_
                refine z_weq (ws' := wMo g m b 0 hr tm (en + 1) 0 0 0 (fun _ => 4) (fun _ => 0) (fun _ => 0) (fun _ => 0) (tbl tm (fun _ => 0) (fun _ => 20) (lgE lg (ssT S) tm tm) (fun _ => 0)) td ov) (zEq.cons zE1.rf (zEq.cons zE1.rf (zEq.cons zE1.rf (zEq.cons zE1.rf (zEq.cons zE1.rf (zEq.cons (zE1.arr (by intro j h0 h1; exact tbl_c (fun q _ _ => by first | omega | (unfold up; omega)) (fun q _ _ => by first | omega | (unfold up; omega)) (fun q _ h9 => lgF_E lg (ssT S) tm h9) (fun q _ _ => by first | omega | (unfold up; omega)) j h0)) (zEq.cons zE1.rf (zEq.cons zE1.rf zEq.nil)))))))) ?_
                exact hret () dX2_endRound_167 rfl (by rfl)
              · skip
                refine z_iconst 70 hC dX2_endRound_69 rfl ?_
                refine z_newi (ws' := fun x_25 => (wMo g m b 0 hr tm en (ssLo S) (ssSl S) (ssFa S) (ssS S) (ssF S) (ssW S) (kOf (ssO S) (ssP S)) (tbl tm (up (up (up bu 0 0) (0 + 1) 0) ((0 + 1) + 1) 0) (up (up (up sr 0 20) (0 + 1) 20) ((0 + 1) + 1) 20) (lgF lg (ssT S) tm tm 0) (up (up (up (ssT S) 0 0) (0 + 1) 0) ((0 + 1) + 1) 0)) td ov) ++ (([(x_25, ar g 3 (fun _ => 0))]))) (k2 := 4) (n2 := 12) 72 hC (by decide +kernel) (by decide) (nle rfl) (by decide) (by decide) dX2_endRound_70 rfl rfl rfl (fun _ => rfl) (fun x_25 => ?_)
                refine z_dup 73 hC dX2_endRound_72 rfl rfl ?_
                refine z_iconst 74 hC dX2_endRound_73 rfl ?_
                refine z_iconst 75 hC dX2_endRound_74 rfl ?_
                refine z_iast (ws' := (wMo g m b 0 hr tm en (ssLo S) (ssSl S) (ssFa S) (ssS S) (ssF S) (ssW S) (kOf (ssO S) (ssP S)) (tbl tm (up (up (up bu 0 0) (0 + 1) 0) ((0 + 1) + 1) 0) (up (up (up sr 0 20) (0 + 1) 20) ((0 + 1) + 1) 20) (lgF lg (ssT S) tm tm 0) (up (up (up (ssT S) 0 0) (0 + 1) 0) ((0 + 1) + 1) 0)) td ov) ++ (([(x_25, ar g 3 (up (fun _ => 0) 0 0))]))) 76 8 hC dX2_endRound_75 rfl rfl (by decide) (by omega) rfl ?_
                refine z_dup 77 hC dX2_endRound_76 rfl rfl ?_
                refine z_iconst 78 hC dX2_endRound_77 rfl ?_
                refine z_bipush 80 hC dX2_endRound_78 (by decide) rfl ?_
                refine z_iast (ws' := (wMo g m b 0 hr tm en (ssLo S) (ssSl S) (ssFa S) (ssS S) (ssF S) (ssW S) (kOf (ssO S) (ssP S)) (tbl tm (up (up (up bu 0 0) (0 + 1) 0) ((0 + 1) + 1) 0) (up (up (up sr 0 20) (0 + 1) 20) ((0 + 1) + 1) 20) (lgF lg (ssT S) tm tm 0) (up (up (up (ssT S) 0 0) (0 + 1) 0) ((0 + 1) + 1) 0)) td ov) ++ (([(x_25, ar g 3 (up (up (fun _ => 0) 0 0) 1 20))]))) 81 8 hC dX2_endRound_80 rfl rfl (by decide) (by omega) rfl ?_
                refine z_dup 82 hC dX2_endRound_81 rfl rfl ?_
                refine z_iconst 83 hC dX2_endRound_82 rfl ?_
                refine z_iconst 84 hC dX2_endRound_83 rfl ?_
                refine z_iast (ws' := (wMo g m b 0 hr tm en (ssLo S) (ssSl S) (ssFa S) (ssS S) (ssF S) (ssW S) (kOf (ssO S) (ssP S)) (tbl tm (up (up (up bu 0 0) (0 + 1) 0) ((0 + 1) + 1) 0) (up (up (up sr 0 20) (0 + 1) 20) ((0 + 1) + 1) 20) (lgF lg (ssT S) tm tm 0) (up (up (up (ssT S) 0 0) (0 + 1) 0) ((0 + 1) + 1) 0)) td ov) ++ (([(x_25, ar g 3 (up (up (up (fun _ => 0) 0 0) 1 20) 2 0))]))) 85 8 hC dX2_endRound_84 rfl rfl (by decide) (by omega) rfl ?_
                refine z_astoren (lv' := [(2, .ref x_25), (1, .int (iI (((0 + 1) + 1) + 1))), (0, .ref m)]) 86 hC dX2_endRound_85 rfl rfl (by decide) rfl ?_
                refine z_aloadn 87 hC 0 dX2_endRound_86 rfl rfl rfl ?_
                refine z_iconst 88 hC dX2_endRound_87 rfl ?_
                refine z_aloadn 89 hC 2 dX2_endRound_88 rfl rfl rfl ?_
                refine z_get 92 0 11 hC hinX2 L22 dX2_endRound_89 rfl rfl rfl (by decide) rfl ?_
                refine z_iconst 93 hC dX2_endRound_92 rfl ?_
                refine z_iloadn 94 hC 1 dX2_endRound_93 rfl rfl rfl ?_
                refine z_imul 95 hC dX2_endRound_94 rfl ?_
                refine z_aloadn 96 hC 0 dX2_endRound_95 rfl rfl rfl ?_
                refine z_alen 97 8 hC dX2_endRound_96 rfl rfl rfl ?_
                refine z_copyp (ws' := (wMo g m b 0 hr tm en (ssLo S) (ssSl S) (ssFa S) (ssS S) (ssF S) (ssW S) (kOf (ssO S) (ssP S)) (cpI (up (up (up (fun _ => 0) 0 0) 1 20) 2 0) (tbl tm (up (up (up bu 0 0) (0 + 1) 0) ((0 + 1) + 1) 0) (up (up (up sr 0 20) (0 + 1) 20) ((0 + 1) + 1) 20) (lgF lg (ssT S) tm tm 0) (up (up (up (ssT S) 0 0) (0 + 1) 0) ((0 + 1) + 1) 0)) 0 (4 * (((0 + 1) + 1) + 1)) ((3 : Nat) : Int)) td ov) ++ (([(x_25, ar g 3 (up (up (up (fun _ => 0) 0 0) 1 20) 2 0))]))) 100 8 5 hC (by decide +kernel) (by decide +kernel) (by decide +kernel) (by decide +kernel) (by decide) (by decide) dX2_endRound_97 rfl rfl rfl (by decide) (by decide) (by omega) (by omega) (by omega) rfl ?_
                refine z_weq (ws' := (wMo g m b 0 hr tm en (ssLo S) (ssSl S) (ssFa S) (ssS S) (ssF S) (ssW S) (kOf (ssO S) (ssP S)) (tbl tm (up (up (up (up bu 0 0) (0 + 1) 0) ((0 + 1) + 1) 0) (((0 + 1) + 1) + 1) 0) (up (up (up (up sr 0 20) (0 + 1) 20) ((0 + 1) + 1) 20) (((0 + 1) + 1) + 1) 20) (lgF lg (ssT S) tm tm 0) (up (up (up (up (ssT S) 0 0) (0 + 1) 0) ((0 + 1) + 1) 0) (((0 + 1) + 1) + 1) 0)) td ov) ++ (([(x_25, ar g 3 (up (up (up (fun _ => 0) 0 0) 1 20) 2 0))]))) (zEq.cons zE1.rf (zEq.cons zE1.rf (zEq.cons zE1.rf (zEq.cons zE1.rf (zEq.cons zE1.rf (zEq.cons (zE1.arr (by intro j h0 h1; exact tbl_cp (by omega) rfl rfl rfl j)) (zEq.cons zE1.rf (zEq.cons zE1.rf (zEq.cons zE1.rf zEq.nil))))))))) ?_
                refine z_sub (ws' := wMo g m b 0 hr tm en (ssLo S) (ssSl S) (ssFa S) (ssS S) (ssF S) (ssW S) (kOf (ssO S) (ssP S)) (tbl tm (up (up (up (up bu 0 0) (0 + 1) 0) ((0 + 1) + 1) 0) (((0 + 1) + 1) + 1) 0) (up (up (up (up sr 0 20) (0 + 1) 20) ((0 + 1) + 1) 20) (((0 + 1) + 1) + 1) 20) (lgF lg (ssT S) tm tm 0) (up (up (up (up (ssT S) 0 0) (0 + 1) 0) ((0 + 1) + 1) 0) (((0 + 1) + 1) + 1) 0)) td ov) [0, 1, 2, 3, 4, 5, 6, 7] (by decide) rfl ?_
                refine z_iinc (lv' := [(1, .int (iI ((((0 + 1) + 1) + 1) + 1))), (2, .ref x_25), (0, .ref m)]) 103 1 hC dX2_endRound_100 rfl rfl (by decide) rfl ?_
                refine z_goto 61 hC dX2_endRound_103 (by decide) ?_
                refine z_iloadn 62 hC 0 dX2_endRound_61 rfl rfl rfl ?_
                refine z_aloadn 63 hC 2 dX2_endRound_62 rfl rfl rfl ?_
                refine z_get 66 0 2 hC hinX2 L39 dX2_endRound_63 rfl rfl rfl (by decide) rfl ?_
                refine z_icmp_ge 106 69 hC dX2_endRound_66 (by decide) rfl (by omega) (by omega) (fun c_26 => ?_) (fun c_26 => ?_)
                · skip
                  refine z_aloadn 107 hC 2 dX2_endRound_106 rfl rfl rfl ?_
                  refine z_get 110 0 7 hC hinX2 L9 dX2_endRound_107 rfl rfl rfl (by decide) rfl ?_
                  refine z_iconst 111 hC dX2_endRound_110 rfl ?_
                  refine z_callv (wr := [(m, .inr (2, [.int (iI 0), .int (iI hr), .int (iI tm), .int (iI en), .int (iI (ssLo S)), .int (iI (ssSl S)), .int (iI (ssFa S)), .ref (b 0), .ref (b 1), .ref (b 2), .ref (b 3), .ref (b 4), .ref (b 5), .ref (b 6)])), ((b 1), ar g 120 (ssF S)), ((b 2), ar g 120 (ssW S)), ((b 3), ar g 120 (kOf (ssO S) (ssP S))), ((b 4), ar g 16 (tbl tm (up (up (up (up bu 0 0) (0 + 1) 0) ((0 + 1) + 1) 0) (((0 + 1) + 1) + 1) 0) (up (up (up (up sr 0 20) (0 + 1) 20) ((0 + 1) + 1) 20) (((0 + 1) + 1) + 1) 20) (lgF lg (ssT S) tm tm 0) (up (up (up (up (ssT S) 0 0) (0 + 1) 0) ((0 + 1) + 1) 0) (((0 + 1) + 1) + 1) 0))), ((b 5), ar g 12 td), ((b 6), ar g 120 ov)]) (w2 := fun _ => wMo g m b 0 hr tm en (ssLo S) (ssSl S) (ssFa S) (fun _ => 4) (ssF S) (ssW S) (kOf (ssO S) (ssP S)) (tbl tm (up (up (up (up bu 0 0) (0 + 1) 0) ((0 + 1) + 1) 0) (((0 + 1) + 1) + 1) 0) (up (up (up (up sr 0 20) (0 + 1) 20) ((0 + 1) + 1) 20) (((0 + 1) + 1) + 1) 20) (lgF lg (ssT S) tm tm 0) (up (up (up (up (ssT S) 0 0) (0 + 1) 0) ((0 + 1) + 1) 0) (((0 + 1) + 1) + 1) 0)) td ov) 114 hC [1] [0, 2, 3, 4, 5, 6, 7] [0, 7, 1, 2, 3, 4, 5, 6] (z_runS (nA := 2) hC hN (c_X2_fill l D g (b 0) 120 (ssS S) 4 (by omega)) [1] rfl (by decide) gX2_endRound_X2_fill (by decide +kernel) rfl rfl rfl ⟨by decide, by decide⟩ rfl rfl (nle rfl) dX2_endRound_111 ⟨by decide, by decide⟩) rfl rfl (by decide) (by decide) (fun _ => rfl) (by decide) rfl (k2 := 4) (n2 := 12) rfl rfl (fun _ p_27 => ?_)
                  refine z_aloadn 115 hC 2 dX2_endRound_114 rfl rfl rfl ?_
                  refine z_get 118 0 8 hC hinX2 L13 dX2_endRound_115 rfl rfl rfl (by decide) rfl ?_
                  refine z_iconst 119 hC dX2_endRound_118 rfl ?_
                  refine z_callv (wr := [(m, .inr (2, [.int (iI 0), .int (iI hr), .int (iI tm), .int (iI en), .int (iI (ssLo S)), .int (iI (ssSl S)), .int (iI (ssFa S)), .ref (b 0), .ref (b 1), .ref (b 2), .ref (b 3), .ref (b 4), .ref (b 5), .ref (b 6)])), ((b 0), ar g 120 (fun _ => 4)), ((b 2), ar g 120 (ssW S)), ((b 3), ar g 120 (kOf (ssO S) (ssP S))), ((b 4), ar g 16 (tbl tm (up (up (up (up bu 0 0) (0 + 1) 0) ((0 + 1) + 1) 0) (((0 + 1) + 1) + 1) 0) (up (up (up (up sr 0 20) (0 + 1) 20) ((0 + 1) + 1) 20) (((0 + 1) + 1) + 1) 20) (lgF lg (ssT S) tm tm 0) (up (up (up (up (ssT S) 0 0) (0 + 1) 0) ((0 + 1) + 1) 0) (((0 + 1) + 1) + 1) 0))), ((b 5), ar g 12 td), ((b 6), ar g 120 ov)]) (w2 := fun _ => wMo g m b 0 hr tm en (ssLo S) (ssSl S) (ssFa S) (fun _ => 4) (fun _ => 0) (ssW S) (kOf (ssO S) (ssP S)) (tbl tm (up (up (up (up bu 0 0) (0 + 1) 0) ((0 + 1) + 1) 0) (((0 + 1) + 1) + 1) 0) (up (up (up (up sr 0 20) (0 + 1) 20) ((0 + 1) + 1) 20) (((0 + 1) + 1) + 1) 20) (lgF lg (ssT S) tm tm 0) (up (up (up (up (ssT S) 0 0) (0 + 1) 0) ((0 + 1) + 1) 0) (((0 + 1) + 1) + 1) 0)) td ov) 122 hC [2] [0, 1, 3, 4, 5, 6, 7] [0, 1, 7, 2, 3, 4, 5, 6] (z_runS (nA := 2) hC hN (c_X2_fill l D g (b 1) 120 (ssF S) 0 (by omega)) [2] rfl (by decide) gX2_endRound_X2_fill (by decide +kernel) rfl rfl rfl ⟨by decide, by decide⟩ rfl rfl (nle rfl) dX2_endRound_119 ⟨by decide, by decide⟩) rfl rfl (by decide) (by decide) (fun _ => rfl) (by decide) rfl (k2 := 4) (n2 := 12) rfl rfl (fun _ p_28 => ?_)
                  refine z_aloadn 123 hC 2 dX2_endRound_122 rfl rfl rfl ?_
                  refine z_get 126 0 9 hC hinX2 L16 dX2_endRound_123 rfl rfl rfl (by decide) rfl ?_
                  refine z_iconst 127 hC dX2_endRound_126 rfl ?_
                  refine z_callv (wr := [(m, .inr (2, [.int (iI 0), .int (iI hr), .int (iI tm), .int (iI en), .int (iI (ssLo S)), .int (iI (ssSl S)), .int (iI (ssFa S)), .ref (b 0), .ref (b 1), .ref (b 2), .ref (b 3), .ref (b 4), .ref (b 5), .ref (b 6)])), ((b 0), ar g 120 (fun _ => 4)), ((b 1), ar g 120 (fun _ => 0)), ((b 3), ar g 120 (kOf (ssO S) (ssP S))), ((b 4), ar g 16 (tbl tm (up (up (up (up bu 0 0) (0 + 1) 0) ((0 + 1) + 1) 0) (((0 + 1) + 1) + 1) 0) (up (up (up (up sr 0 20) (0 + 1) 20) ((0 + 1) + 1) 20) (((0 + 1) + 1) + 1) 20) (lgF lg (ssT S) tm tm 0) (up (up (up (up (ssT S) 0 0) (0 + 1) 0) ((0 + 1) + 1) 0) (((0 + 1) + 1) + 1) 0))), ((b 5), ar g 12 td), ((b 6), ar g 120 ov)]) (w2 := fun _ => wMo g m b 0 hr tm en (ssLo S) (ssSl S) (ssFa S) (fun _ => 4) (fun _ => 0) (fun _ => 0) (kOf (ssO S) (ssP S)) (tbl tm (up (up (up (up bu 0 0) (0 + 1) 0) ((0 + 1) + 1) 0) (((0 + 1) + 1) + 1) 0) (up (up (up (up sr 0 20) (0 + 1) 20) ((0 + 1) + 1) 20) (((0 + 1) + 1) + 1) 20) (lgF lg (ssT S) tm tm 0) (up (up (up (up (ssT S) 0 0) (0 + 1) 0) ((0 + 1) + 1) 0) (((0 + 1) + 1) + 1) 0)) td ov) 130 hC [3] [0, 1, 2, 4, 5, 6, 7] [0, 1, 2, 7, 3, 4, 5, 6] (z_runS (nA := 2) hC hN (c_X2_fill l D g (b 2) 120 (ssW S) 0 (by omega)) [3] rfl (by decide) gX2_endRound_X2_fill (by decide +kernel) rfl rfl rfl ⟨by decide, by decide⟩ rfl rfl (nle rfl) dX2_endRound_127 ⟨by decide, by decide⟩) rfl rfl (by decide) (by decide) (fun _ => rfl) (by decide) rfl (k2 := 4) (n2 := 12) rfl rfl (fun _ p_29 => ?_)
                  refine z_aloadn 131 hC 2 dX2_endRound_130 rfl rfl rfl ?_
                  refine z_get 134 0 10 hC hinX2 L19 dX2_endRound_131 rfl rfl rfl (by decide) rfl ?_
                  refine z_iconst 135 hC dX2_endRound_134 rfl ?_
                  refine z_callv (wr := [(m, .inr (2, [.int (iI 0), .int (iI hr), .int (iI tm), .int (iI en), .int (iI (ssLo S)), .int (iI (ssSl S)), .int (iI (ssFa S)), .ref (b 0), .ref (b 1), .ref (b 2), .ref (b 3), .ref (b 4), .ref (b 5), .ref (b 6)])), ((b 0), ar g 120 (fun _ => 4)), ((b 1), ar g 120 (fun _ => 0)), ((b 2), ar g 120 (fun _ => 0)), ((b 4), ar g 16 (tbl tm (up (up (up (up bu 0 0) (0 + 1) 0) ((0 + 1) + 1) 0) (((0 + 1) + 1) + 1) 0) (up (up (up (up sr 0 20) (0 + 1) 20) ((0 + 1) + 1) 20) (((0 + 1) + 1) + 1) 20) (lgF lg (ssT S) tm tm 0) (up (up (up (up (ssT S) 0 0) (0 + 1) 0) ((0 + 1) + 1) 0) (((0 + 1) + 1) + 1) 0))), ((b 5), ar g 12 td), ((b 6), ar g 120 ov)]) (w2 := fun _ => wMo g m b 0 hr tm en (ssLo S) (ssSl S) (ssFa S) (fun _ => 4) (fun _ => 0) (fun _ => 0) (fun _ => 0) (tbl tm (up (up (up (up bu 0 0) (0 + 1) 0) ((0 + 1) + 1) 0) (((0 + 1) + 1) + 1) 0) (up (up (up (up sr 0 20) (0 + 1) 20) ((0 + 1) + 1) 20) (((0 + 1) + 1) + 1) 20) (lgF lg (ssT S) tm tm 0) (up (up (up (up (ssT S) 0 0) (0 + 1) 0) ((0 + 1) + 1) 0) (((0 + 1) + 1) + 1) 0)) td ov) 138 hC [4] [0, 1, 2, 3, 5, 6, 7] [0, 1, 2, 3, 7, 4, 5, 6] (z_runS (nA := 2) hC hN (c_X2_fill l D g (b 3) 120 (kOf (ssO S) (ssP S)) 0 (by omega)) [4] rfl (by decide) gX2_endRound_X2_fill (by decide +kernel) rfl rfl rfl ⟨by decide, by decide⟩ rfl rfl (nle rfl) dX2_endRound_135 ⟨by decide, by decide⟩) rfl rfl (by decide) (by decide) (fun _ => rfl) (by decide) rfl (k2 := 4) (n2 := 12) rfl rfl (fun _ p_30 => ?_)
                  refine z_aloadn 139 hC 2 dX2_endRound_138 rfl rfl rfl ?_
                  refine z_iconst 140 hC dX2_endRound_139 rfl ?_
                  refine z_put (ty := .int) (ws' := wMo g m b 0 hr tm en 0 (ssSl S) (ssFa S) (fun _ => 4) (fun _ => 0) (fun _ => 0) (fun _ => 0) (tbl tm (up (up (up (up bu 0 0) (0 + 1) 0) ((0 + 1) + 1) 0) (((0 + 1) + 1) + 1) 0) (up (up (up (up sr 0 20) (0 + 1) 20) ((0 + 1) + 1) 20) (((0 + 1) + 1) + 1) 20) (lgF lg (ssT S) tm tm 0) (up (up (up (up (ssT S) 0 0) (0 + 1) 0) ((0 + 1) + 1) 0) (((0 + 1) + 1) + 1) 0)) td ov) 143 0 4 hC tyX2 tyX2_ok nmX2 hinX2 L95 dX2_endRound_140 rfl rfl rfl (by decide) rfl (by decide +kernel) rfl rfl (nle rfl) rfl ?_
                  refine z_aloadn 144 hC 2 dX2_endRound_143 rfl rfl rfl ?_
                  refine z_iconst 145 hC dX2_endRound_144 rfl ?_
                  refine z_put (ty := .int) (ws' := wMo g m b 0 hr tm en 0 0 (ssFa S) (fun _ => 4) (fun _ => 0) (fun _ => 0) (fun _ => 0) (tbl tm (up (up (up (up bu 0 0) (0 + 1) 0) ((0 + 1) + 1) 0) (((0 + 1) + 1) + 1) 0) (up (up (up (up sr 0 20) (0 + 1) 20) ((0 + 1) + 1) 20) (((0 + 1) + 1) + 1) 20) (lgF lg (ssT S) tm tm 0) (up (up (up (up (ssT S) 0 0) (0 + 1) 0) ((0 + 1) + 1) 0) (((0 + 1) + 1) + 1) 0)) td ov) 148 0 5 hC tyX2 tyX2_ok nmX2 hinX2 L98 dX2_endRound_145 rfl rfl rfl (by decide) rfl (by decide +kernel) rfl rfl (nle rfl) rfl ?_
                  refine z_aloadn 149 hC 2 dX2_endRound_148 rfl rfl rfl ?_
                  refine z_iconst 150 hC dX2_endRound_149 rfl ?_
                  refine z_put (ty := .int) (ws' := wMo g m b 0 hr tm en 0 0 0 (fun _ => 4) (fun _ => 0) (fun _ => 0) (fun _ => 0) (tbl tm (up (up (up (up bu 0 0) (0 + 1) 0) ((0 + 1) + 1) 0) (((0 + 1) + 1) + 1) 0) (up (up (up (up sr 0 20) (0 + 1) 20) ((0 + 1) + 1) 20) (((0 + 1) + 1) + 1) 20) (lgF lg (ssT S) tm tm 0) (up (up (up (up (ssT S) 0 0) (0 + 1) 0) ((0 + 1) + 1) 0) (((0 + 1) + 1) + 1) 0)) td ov) 153 0 6 hC tyX2 tyX2_ok nmX2 hinX2 L101 dX2_endRound_150 rfl rfl rfl (by decide) rfl (by decide +kernel) rfl rfl (nle rfl) rfl ?_
                  refine z_aloadn 154 hC 2 dX2_endRound_153 rfl rfl rfl ?_
                  refine z_dup 155 hC dX2_endRound_154 rfl rfl ?_
                  refine z_get 158 0 3 hC hinX2 L104 dX2_endRound_155 rfl rfl rfl (by decide) rfl ?_
                  refine z_iconst 159 hC dX2_endRound_158 rfl ?_
                  refine z_iadd 160 hC dX2_endRound_159 rfl ?_
                  refine z_put (ty := .int) (ws' := wMo g m b 0 hr tm (en + 1) 0 0 0 (fun _ => 4) (fun _ => 0) (fun _ => 0) (fun _ => 0) (tbl tm (up (up (up (up bu 0 0) (0 + 1) 0) ((0 + 1) + 1) 0) (((0 + 1) + 1) + 1) 0) (up (up (up (up sr 0 20) (0 + 1) 20) ((0 + 1) + 1) 20) (((0 + 1) + 1) + 1) 20) (lgF lg (ssT S) tm tm 0) (up (up (up (up (ssT S) 0 0) (0 + 1) 0) ((0 + 1) + 1) 0) (((0 + 1) + 1) + 1) 0)) td ov) 163 0 3 hC tyX2 tyX2_ok nmX2 hinX2 L104 dX2_endRound_160 rfl rfl rfl (by decide) rfl (by decide +kernel) rfl rfl (nle rfl) rfl ?_
                  refine z_aloadn 164 hC 2 dX2_endRound_163 rfl rfl rfl ?_
                  refine z_get 167 0 3 hC hinX2 L104 dX2_endRound_164 rfl rfl rfl (by decide) rfl ?_
                  refine z_weq (ws' := wMo g m b 0 hr tm (en + 1) 0 0 0 (fun _ => 4) (fun _ => 0) (fun _ => 0) (fun _ => 0) (tbl tm (fun _ => 0) (fun _ => 20) (lgE lg (ssT S) tm tm) (fun _ => 0)) td ov) (zEq.cons zE1.rf (zEq.cons zE1.rf (zEq.cons zE1.rf (zEq.cons zE1.rf (zEq.cons zE1.rf (zEq.cons (zE1.arr (by intro j h0 h1; exact tbl_c (fun q _ _ => by first | omega | (unfold up; omega)) (fun q _ _ => by first | omega | (unfold up; omega)) (fun q _ h9 => lgF_E lg (ssT S) tm h9) (fun q _ _ => by first | omega | (unfold up; omega)) j h0)) (zEq.cons zE1.rf (zEq.cons zE1.rf zEq.nil)))))))) ?_
                  exact hret () dX2_endRound_167 rfl (by rfl)
                · exfalso; omega
      · skip
        refine z_iconst 16 hC dX2_endRound_15 rfl ?_
        refine z_istoren (lv' := [(2, .int (iI 0)), (0, .ref m), (1, .int (iI i))]) 17 hC dX2_endRound_16 rfl rfl (by decide) rfl ?_
        have loop17 : ∀ (N17 : Nat) (j9 : Int), 0 ≤ j9 ∧ j9 ≤ tm → (tm - j9 : Int) < N17 → Z E (wMo g m b 0 hr tm en (ssLo S) (ssSl S) (ssFa S) (ssS S) (ssF S) (ssW S) (kOf (ssO S) (ssP S)) (tbl tm bu sr (lgF lg (ssT S) tm i j9) (ssT S)) td ov) [(0, .ref m), (1, .int (iI i)), (2, .int (iI j9))] 0 0 17 [] := by
          intro N17
          induction N17 with
          | zero => intro j9 hj hm17; exact absurd hm17 (by omega)
          | succ N17 ih17 =>
            intro j9 hj hm17
            have b1 := hT i (by omega) (by omega)
            refine z_iloadn 18 hC 2 dX2_endRound_17 rfl rfl rfl ?_
            refine z_aloadn 19 hC 0 dX2_endRound_18 rfl rfl rfl ?_
            refine z_get 22 0 2 hC hinX2 L39 dX2_endRound_19 rfl rfl rfl (by decide) rfl ?_
            refine z_icmp_ge 53 25 hC dX2_endRound_22 (by decide) rfl (by omega) (by omega) (fun c_31 => ?_) (fun c_31 => ?_)
            · skip
              obtain rfl : tm = j9 := by omega
              refine z_iinc (lv' := [(1, .int (iI (i + 1))), (0, .ref m), (2, .int (iI tm))]) 56 1 hC dX2_endRound_53 rfl rfl (by decide) rfl ?_
              refine z_goto 7 hC dX2_endRound_56 (by decide) ?_
              refine z_lv (lv' := [(0, .ref m), (1, .int (iI (i + 1)))]) [1, 0] rfl ?_
              refine z_weq (ws' := wMo g m b 0 hr tm en (ssLo S) (ssSl S) (ssFa S) (ssS S) (ssF S) (ssW S) (kOf (ssO S) (ssP S)) (tbl tm bu sr (lgF lg (ssT S) tm (i + 1) 0) (ssT S)) td ov) (zEq.cons zE1.rf (zEq.cons zE1.rf (zEq.cons zE1.rf (zEq.cons zE1.rf (zEq.cons zE1.rf (zEq.cons (zE1.arr (by intro j h0 h1; exact tbl_c (fun _ _ _ => rfl) (fun _ _ _ => rfl) (fun q _ _ => lgF_next lg (ssT S) tm i q) (fun _ _ _ => rfl) j h0)) (zEq.cons zE1.rf (zEq.cons zE1.rf zEq.nil)))))))) ?_
              exact ih7 (i + 1) (by omega) (by omega)
            · skip
              have b2 := hT j9 (by omega) (by omega)
              refine z_aloadn 26 hC 0 dX2_endRound_25 rfl rfl rfl ?_
              refine z_iloadn 27 hC 2 dX2_endRound_26 rfl rfl rfl ?_
              refine z_iconst 28 hC dX2_endRound_27 rfl ?_
              refine z_calli (wr := []) (w2 := fun _ => wMo g m b 0 hr tm en (ssLo S) (ssSl S) (ssFa S) (ssS S) (ssF S) (ssW S) (kOf (ssO S) (ssP S)) (tbl tm bu sr (lgF lg (ssT S) tm i j9) (ssT S)) td ov) 31 hC [0, 1, 2, 3, 4, 5, 6, 7] [] [0, 1, 2, 3, 4, 5, 6, 7] (z_runV (nA := 2) hC hN (c_X2_get l D g m b 0 hr tm en (ssLo S) (ssSl S) (ssFa S) (ssS S) (ssF S) (ssW S) (kOf (ssO S) (ssP S)) (tbl tm bu sr (lgF lg (ssT S) tm i j9) (ssT S)) td ov j9 2 (by omega) (by omega)) [0, 1, 2, 3, 4, 5, 6, 7] rfl (by decide) gX2_endRound_X2_get (by decide +kernel) rfl rfl rfl ⟨by decide, by decide⟩ rfl rfl (nle rfl) dX2_endRound_28 ⟨by decide, by decide⟩ 0 rfl rfl) rfl rfl (by decide) (by decide) (fun _ => rfl) (by decide) rfl (k2 := 0) (n2 := 0) rfl rfl (fun z_32 _ p_33 => ?_)
              have p_33t : z_32 = (ssT S) j9 := p_33.trans (tbl_2 (by omega))
              clear p_33
              subst p_33t
              refine z_aloadn 32 hC 0 dX2_endRound_31 rfl rfl rfl ?_
              refine z_iloadn 33 hC 1 dX2_endRound_32 rfl rfl rfl ?_
              refine z_iconst 34 hC dX2_endRound_33 rfl ?_
              refine z_calli (wr := []) (w2 := fun _ => wMo g m b 0 hr tm en (ssLo S) (ssSl S) (ssFa S) (ssS S) (ssF S) (ssW S) (kOf (ssO S) (ssP S)) (tbl tm bu sr (lgF lg (ssT S) tm i j9) (ssT S)) td ov) 37 hC [0, 1, 2, 3, 4, 5, 6, 7] [] [0, 1, 2, 3, 4, 5, 6, 7] (z_runV (nA := 2) hC hN (c_X2_get l D g m b 0 hr tm en (ssLo S) (ssSl S) (ssFa S) (ssS S) (ssF S) (ssW S) (kOf (ssO S) (ssP S)) (tbl tm bu sr (lgF lg (ssT S) tm i j9) (ssT S)) td ov i 2 (by omega) (by omega)) [0, 1, 2, 3, 4, 5, 6, 7] rfl (by decide) gX2_endRound_X2_get (by decide +kernel) rfl rfl rfl ⟨by decide, by decide⟩ rfl rfl (nle rfl) dX2_endRound_34 ⟨by decide, by decide⟩ 0 rfl rfl) rfl rfl (by decide) (by decide) (fun _ => rfl) (by decide) rfl (k2 := 0) (n2 := 0) rfl rfl (fun z_34 _ p_35 => ?_)
              have p_35t : z_34 = (ssT S) i := p_35.trans (tbl_2 (by omega))
              clear p_35
              subst p_35t
              refine z_icmp_ge 47 40 hC dX2_endRound_37 (by decide) rfl (by omega) (by omega) (fun c_36 => ?_) (fun c_36 => ?_)
              · skip
                refine z_iinc (lv' := [(2, .int (iI (j9 + 1))), (0, .ref m), (1, .int (iI i))]) 50 2 hC dX2_endRound_47 rfl rfl (by decide) rfl ?_
                refine z_goto 17 hC dX2_endRound_50 (by decide) ?_
                refine z_lv (lv' := [(0, .ref m), (1, .int (iI i)), (2, .int (iI (j9 + 1)))]) [1, 2, 0] rfl ?_
                refine z_weq (ws' := wMo g m b 0 hr tm en (ssLo S) (ssSl S) (ssFa S) (ssS S) (ssF S) (ssW S) (kOf (ssO S) (ssP S)) (tbl tm bu sr (lgF lg (ssT S) tm i (j9 + 1)) (ssT S)) td ov) (zEq.cons zE1.rf (zEq.cons zE1.rf (zEq.cons zE1.rf (zEq.cons zE1.rf (zEq.cons zE1.rf (zEq.cons (zE1.arr (by intro j h0 h1; first | exact tbl_c (fun _ _ _ => rfl) (fun _ _ _ => rfl) (fun q _ _ => lgF_n (by omega) (by omega) q) (fun _ _ _ => rfl) j h0 | exact tbl_c (fun _ _ _ => rfl) (fun _ _ _ => rfl) (fun q _ _ => lgF_y (by omega) (by omega) q) (fun _ _ _ => rfl) j h0)) (zEq.cons zE1.rf (zEq.cons zE1.rf zEq.nil)))))))) ?_
                exact ih17 (j9 + 1) (by omega) (by omega)
              · skip
                refine z_aloadn 41 hC 0 dX2_endRound_40 rfl rfl rfl ?_
                refine z_iloadn 42 hC 1 dX2_endRound_41 rfl rfl rfl ?_
                refine z_iconst 43 hC dX2_endRound_42 rfl ?_
                refine z_iconst 44 hC dX2_endRound_43 rfl ?_
                refine z_callv (wr := []) (w2 := fun _ => wMo g m b 0 hr tm en (ssLo S) (ssSl S) (ssFa S) (ssS S) (ssF S) (ssW S) (kOf (ssO S) (ssP S)) (up (tbl tm bu sr (lgF lg (ssT S) tm i j9) (ssT S)) (4 * i + 3) ((tbl tm bu sr (lgF lg (ssT S) tm i j9) (ssT S)) (4 * i + 3) + 1)) td ov) 47 hC [0, 1, 2, 3, 4, 5, 6, 7] [] [0, 1, 2, 3, 4, 5, 6, 7] (z_runV (nA := 3) hC hN (c_X2_add l D g m b 0 hr tm en (ssLo S) (ssSl S) (ssFa S) (ssS S) (ssF S) (ssW S) (kOf (ssO S) (ssP S)) (tbl tm bu sr (lgF lg (ssT S) tm i j9) (ssT S)) td ov i 3 1 (by omega) (by omega)) [0, 1, 2, 3, 4, 5, 6, 7] rfl (by decide) gX2_endRound_X2_add (by decide +kernel) rfl rfl rfl ⟨by decide, by decide⟩ rfl rfl (nle rfl) dX2_endRound_44 ⟨by decide, by decide⟩ 0 rfl rfl) rfl rfl (by decide) (by decide) (fun _ => rfl) (by decide) rfl (k2 := 0) (n2 := 0) rfl rfl (fun _ p_37 => ?_)
                refine z_weq (ws' := wMo g m b 0 hr tm en (ssLo S) (ssSl S) (ssFa S) (ssS S) (ssF S) (ssW S) (kOf (ssO S) (ssP S)) (tbl tm bu sr (up (lgF lg (ssT S) tm i j9) i ((lgF lg (ssT S) tm i j9) i + 1)) (ssT S)) td ov) (zEq.cons zE1.rf (zEq.cons zE1.rf (zEq.cons zE1.rf (zEq.cons zE1.rf (zEq.cons zE1.rf (zEq.cons (zE1.arr (by intro j h0 h1; rw [tbl_3 (by omega)]; exact tbl_u3 (by omega) j)) (zEq.cons zE1.rf (zEq.cons zE1.rf zEq.nil)))))))) ?_
                refine z_iinc (lv' := [(2, .int (iI (j9 + 1))), (0, .ref m), (1, .int (iI i))]) 50 2 hC dX2_endRound_47 rfl rfl (by decide) rfl ?_
                refine z_goto 17 hC dX2_endRound_50 (by decide) ?_
                refine z_lv (lv' := [(0, .ref m), (1, .int (iI i)), (2, .int (iI (j9 + 1)))]) [1, 2, 0] rfl ?_
                refine z_weq (ws' := wMo g m b 0 hr tm en (ssLo S) (ssSl S) (ssFa S) (ssS S) (ssF S) (ssW S) (kOf (ssO S) (ssP S)) (tbl tm bu sr (lgF lg (ssT S) tm i (j9 + 1)) (ssT S)) td ov) (zEq.cons zE1.rf (zEq.cons zE1.rf (zEq.cons zE1.rf (zEq.cons zE1.rf (zEq.cons zE1.rf (zEq.cons (zE1.arr (by intro j h0 h1; first | exact tbl_c (fun _ _ _ => rfl) (fun _ _ _ => rfl) (fun q _ _ => lgF_n (by omega) (by omega) q) (fun _ _ _ => rfl) j h0 | exact tbl_c (fun _ _ _ => rfl) (fun _ _ _ => rfl) (fun q _ _ => lgF_y (by omega) (by omega) q) (fun _ _ _ => rfl) j h0)) (zEq.cons zE1.rf (zEq.cons zE1.rf zEq.nil)))))))) ?_
                exact ih17 (j9 + 1) (by omega) (by omega)
        refine z_lv (lv' := [(0, .ref m), (1, .int (iI i)), (2, .int (iI 0))]) [1, 2, 0] rfl ?_
        exact loop17 ((tm - 0 + 1 : Int).toNat) 0 (by omega) (by omega)
  refine z_lv (lv' := [(0, .ref m), (1, .int (iI 0))]) [1, 0] rfl ?_
  refine z_weq (ws' := wMo g m b 0 hr tm en (ssLo S) (ssSl S) (ssFa S) (ssS S) (ssF S) (ssW S) (kOf (ssO S) (ssP S)) (tbl tm bu sr (lgF lg (ssT S) tm 0 0) (ssT S)) td ov) (zEq.cons zE1.rf (zEq.cons zE1.rf (zEq.cons zE1.rf (zEq.cons zE1.rf (zEq.cons zE1.rf (zEq.cons (zE1.arr (by intro j h0 h1; exact tbl_c (fun _ _ _ => rfl) (fun _ _ _ => rfl) (fun q h9 _ => lgF_0 lg (ssT S) tm q h9) (fun _ _ _ => rfl) j h0)) (zEq.cons zE1.rf (zEq.cons zE1.rf zEq.nil)))))))) ?_
  exact loop7 ((tm - 0 + 1 : Int).toNat) 0 (by omega) (by omega)
