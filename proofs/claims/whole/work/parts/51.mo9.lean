section ZBB
variable {E : ZE} {cc : ByteArray} {own : String} {Ts : List Cond} {rm : Room} {nL : Nat} {D : va_G} {g : Nat → ClassId} {l : Launch} {ws ws' : va_W} {lv : List (Nat × Value)} {k n pc : Nat} {st : List Value}
theorem z_zald (q q0 : Nat) (hC : ZC E cc own Ts rm nL D g l) {a N : Nat} {f : Int → Int} {i v : Int} (d : decode cc pc = .ok (.baload, 1)) (hq : pc + 1 = q) (he : ws[q0]? = some (a, .inl (g 2, N, .inl (ia f)))) (hN : N < 2147483648) (hi : 0 ≤ i ∧ i < (N : Int)) (hv : f i = v) (kk : Z E ws lv k n q (.int (iI v) :: st)) : Z E ws lv k n pc (.int (iI i) :: .ref a :: st) := by
  subst hq; subst hv
  obtain ⟨p, l', e, R, s, m, args, below, meth, c, Q, A, D', g', nL'⟩ := E
  obtain ⟨hx, hb, hml, rfl, rfl, rfl, rfl, rfl, hown, hts, hK, hA⟩ := hC
  intro H locs ls hP hD hS hl
  exact va_zald hx hb hK hP q0 2 he rfl (iI_in hi.1 hi.2 hN) d (by rw [ia_at f hi.1 (by omega)]; exact kk H locs ls hP hD hS hl)
theorem z_zast (q q0 : Nat) (hC : ZC E cc own Ts rm nL D g l) {a N : Nat} {f : Int → Int} {i v : Int} (d : decode cc pc = .ok (.bastore, 1)) (hq : pc + 1 = q) (he : ws[q0]? = some (a, .inl (g 2, N, .inl (ia f)))) (hN : N < 2147483648) (hi : 0 ≤ i ∧ i < (N : Int)) (hv : v = 0 ∨ v = 1) (hw : ws.set q0 (a, .inl (g 2, N, .inl (ia (up f i v)))) = ws') (kk : Z E ws' lv k n q st) : Z E ws lv k n pc (.int (iI v) :: .int (iI i) :: .ref a :: st) := by
  subst hq; subst hw
  obtain ⟨p, l', e, R, s, m, args, below, meth, c, Q, A, D', g', nL'⟩ := E
  obtain ⟨hx, hb, hml, rfl, rfl, rfl, rfl, rfl, hown, hts, hK, hA⟩ := hC
  intro H locs ls hP hD hS hl
  have hn9 : vp_nar .boolean (iI v) = iI v := by
    rcases hv with h | h
    · subst h; decide
    · subst h; decide
  exact va_zast hx hb hK hP hD hS q0 2 he rfl (iI_in hi.1 hi.2 hN) d (fun H locs hP hD hS => by rw [hn9, ia_up f hi.1 (by omega)] at hP hD; exact kk H locs ls hP hD hS hl)
end ZBB
/-- a row of numbers, half of it anew -/
def mixF (a b : Int → Int) (i : Int) : Int → Int := fun j => if j < i then a j else b j
theorem mix_at (a b : Int → Int) (i : Int) : mixF a b i i = b i := if_neg (by omega)
theorem mix_0 (a b : Int → Int) {j : Int} (h : 0 ≤ j) : b j = mixF a b 0 j := (if_neg (by omega)).symm
theorem mix_N (a b : Int → Int) {N j : Int} (h : j < N) : mixF a b N j = a j := if_pos h
theorem mix_s {a b : Int → Int} {i v : Int} (h : v = a i) (j : Int) : up (mixF a b i) i v j = mixF a b (i + 1) j := by
  by_cases e : j = i
  · subst e
    rw [up_same, h]
    exact (if_pos (by omega)).symm
  · rw [up_ne e]
    unfold mixF
    by_cases c : j < i
    · rw [if_pos c, if_pos (by omega)]
    · rw [if_neg c, if_neg (by omega)]
theorem avQ_01 (S : SS) (k j : Int) : avQ S k j = 0 ∨ avQ S k j = 1 := by unfold avQ; omega
/-- the trial beside the beach itself -/
def AV (S : SS) (k : Int) (X Y : SS) : Prop := ssS Y = ssS X ∧ ssF Y = ssF X ∧ ssW Y = ssW X ∧ ∀ j : Int, 0 ≤ j → j < 120 → ssO Y j = -1 ∨ (ssO Y j = j ∧ avQ S k j = 1 ∧ ssP Y j = hg (ssS S) j)
theorem AV_0 (S : SS) (k : Int) : AV S k S (avS S k) := ⟨rfl, rfl, rfl, fun j a b => by
  show avO S k 120 j = -1 ∨ (avO S k 120 j = j ∧ avQ S k j = 1 ∧ avP S k 120 j = hg (ssS S) j)
  unfold avO avP
  by_cases c : j < 120 ∧ avQ S k j = 1
  · rw [if_pos c, if_pos c]; exact Or.inr ⟨rfl, c.2, rfl⟩
  · rw [if_neg c]; exact Or.inl rfl⟩
theorem AV_s {S X Y : SS} {k : Int} (L : Int) (h : AV S k X Y) : AV S k (hourT L X) (hourT L Y) := by
  obtain ⟨h1, h2, h3, h4⟩ := h
  refine ⟨by rw [hourT_S, hourT_S, h1, h2], by rw [hourT_F, hourT_F, h1, h2], by rw [hourT_W, hourT_W, h1], fun j a b => ?_⟩
  have h5 := h4 j a b
  rw [hourT_O, hourT_P]
  unfold hO hP jO jP
  by_cases c : j < 120 ∧ 0 ≤ ssO Y j ∧ fal (hS (ssS Y) (ssF Y) L) (wet (ssS Y) L) (ssP Y) j = 1
  · rw [if_pos c]; exact Or.inl rfl
  · rw [if_neg c, if_neg c]; exact h5
theorem AV_hrs (td : Int → Int) (hr : Int) (S : SS) (k : Int) {i : Int} (h0 : 0 ≤ i) : AV S k (hrs td hr S i) (hrs td hr (avS S k) i) := by
  have key : ∀ n : Nat, AV S k (hrs td hr S (n : Int)) (hrs td hr (avS S k) (n : Int)) := by
    intro n
    induction n with
    | zero => exact AV_0 S k
    | succ n ih =>
      have e : ((n + 1 : Nat) : Int) = (n : Int) + 1 := by omega
      rw [e, hrs_s td hr S (by omega), hrs_s td hr (avS S k) (by omega)]
      exact AV_s _ ih
  have h := key i.toNat
  rwa [show ((i.toNat : Nat) : Int) = i by omega] at h
def stA (Y : SS) : Int → Int := fun j => if ssO Y j = j then 1 else 0
def brA (S : SS) (k : Int) (Y : SS) : Int → Int := fun j => if avQ S k j = 1 then ssT Y j else -1
theorem stA_01 (Y : SS) (j : Int) : stA Y j = 0 ∨ stA Y j = 1 := by unfold stA; omega
theorem sumI_1 {f : Int → Int} {k N : Int} (h0 : 0 ≤ k) (h1 : k < N) (h : ∀ j : Int, 0 ≤ j → j < N → j ≠ k → f j = 0) : sumI f N = f k := by
  have e1 : sumI f N = sumI (up (fun _ => 0) k (f k)) N := sumI_congr (fun j a b => by
    by_cases e : j = k
    · subst e; rw [up_same]
    · rw [up_ne e]; exact h j a b e)
  have e2 := sumI_up (f := fun _ => 0) (v := f k) h0 h1
  have e3 : ∀ n : Nat, sumI (fun _ => 0) (n : Int) = 0 := by
    intro n
    induction n with
    | zero => rfl
    | succ n ih =>
      have e : ((n + 1 : Nat) : Int) = (n : Int) + 1 := by omega
      rw [e, sumI_s _ (by omega), ih]; rfl
  have e4 := e3 N.toNat
  rw [show ((N.toNat : Nat) : Int) = N by omega] at e4
  rw [e1, e2, e4]
  show 0 + (f k - 0) = f k
  omega
theorem AV_st {S X Y : SS} {k L j : Int} (h : AV S k X Y) (hj : 0 ≤ j ∧ j < 120) : stA (hourT L Y) j = if stA Y j = 1 ∧ ¬ (ssW (hourT L X) j = 1 ∨ hg (ssS (hourT L X)) j < hg (ssS S) j - 1) then 1 else 0 := by
  obtain ⟨h1, h2, h3, h4⟩ := h
  have h5 := h4 j hj.1 hj.2
  have h6 := wet_01 (ssS X) L j
  unfold stA
  rw [hourT_O, hourT_W, hourT_S]
  unfold hO jO fal
  rw [h1, h2]
  generalize hS (ssS X) (ssF X) L = s2 at *
  generalize hg s2 j = z1 at *
  generalize hg (ssS S) j = z2 at *
  generalize wet (ssS X) L j = z3 at *
  generalize ssO Y j = z4 at *
  generalize ssP Y j = z5 at *
  omega
theorem AV_br {S X Y : SS} {k L j : Int} (h : AV S k X Y) (hj : 0 ≤ j ∧ j < 120) : brA S k (hourT L Y) j = brA S k Y j + if stA (hourT L Y) j = 1 then 1 + ssS (hourT L X) j / 5 else 0 := by
  have h9 := (AV_s L h).2.2.2 j hj.1 hj.2
  obtain ⟨h1, h2, h3, h4⟩ := h
  have h5 := h4 j hj.1 hj.2
  unfold brA
  by_cases c : avQ S k j = 1
  · rw [if_pos c, if_pos c, hourT_T]
    unfold hT jT
    show ssT Y j + sumI _ 120 = _
    rw [sumI_1 (k := j) hj.1 hj.2 (fun x a b e => by
      have h6 := h4 x a b
      show (if ssO Y x = j ∧ _ then _ else (0 : Int)) = 0
      rw [if_neg]
      intro q
      omega)]
    congr 1
    unfold stA
    rw [hourT_O, hourT_S]
    unfold hO jO
    rw [h1, h2]
    have h7 : fal (hS (ssS X) (ssF X) L) (wet (ssS X) L) (ssP Y) j = 0 ∨ fal (hS (ssS X) (ssF X) L) (wet (ssS X) L) (ssP Y) j = 1 := by unfold fal; split <;> omega
    show (if ssO Y j = j ∧ fal (hS (ssS X) (ssF X) L) (wet (ssS X) L) (ssP Y) j = 0 then 1 + hS (ssS X) (ssF X) L j / 5 else 0) = _
    generalize fal (hS (ssS X) (ssF X) L) (wet (ssS X) L) (ssP Y) j = z1 at *
    generalize hS (ssS X) (ssF X) L j = z2 at *
    omega
  · rw [if_neg c, if_neg c]
    unfold stA
    have h8 : ssO (hourT L Y) j = -1 := by
      rcases h9 with h | h
      · exact h
      · exact absurd h.2.1 c
    rw [h8, if_neg (by rw [if_neg (by omega)]; omega)]
    omega
theorem av0_y {S : SS} {k c : Int} (h : avQ S k c = 1) (hc : 0 ≤ c ∧ c < 120) : stA (avS S k) c = 1 ∧ brA S k (avS S k) c = 0 := by
  unfold stA brA
  refine ⟨?_, ?_⟩
  · have e : avO S k 120 c = c := if_pos ⟨hc.2, h⟩
    show (if avO S k 120 c = c then (1 : Int) else 0) = 1
    rw [e, if_pos rfl]
  · rw [if_pos h]; rfl
theorem av0_n {S : SS} {k c : Int} (h : avQ S k c = 0) (hc : 0 ≤ c ∧ c < 120) : stA (avS S k) c = 0 ∧ brA S k (avS S k) c = -1 := by
  unfold stA brA
  refine ⟨?_, ?_⟩
  · have e : avO S k 120 c = -1 := if_neg (by omega)
    show (if avO S k 120 c = c then (1 : Int) else 0) = 0
    rw [e, if_neg (by omega)]
  · rw [if_neg (by omega)]
theorem avB_r (S : SS) (t : Int → Int) (k : Int) {i : Int} (h0 : 0 ≤ i) : ((avB S t k i).1 = -1 ∧ (avB S t k i).2 = -1) ∨ (0 ≤ (avB S t k i).1 ∧ (avB S t k i).1 < i ∧ avQ S k (avB S t k i).1 = 1 ∧ (avB S t k i).2 = t (avB S t k i).1) := by
  have key : ∀ n : Nat, ((avB S t k (n : Int)).1 = -1 ∧ (avB S t k (n : Int)).2 = -1) ∨ (0 ≤ (avB S t k (n : Int)).1 ∧ (avB S t k (n : Int)).1 < (n : Int) ∧ avQ S k (avB S t k (n : Int)).1 = 1 ∧ (avB S t k (n : Int)).2 = t (avB S t k (n : Int)).1) := by
    intro n
    induction n with
    | zero => exact Or.inl ⟨rfl, rfl⟩
    | succ n ih =>
      have e : ((n + 1 : Nat) : Int) = (n : Int) + 1 := by omega
      rw [e]
      by_cases c : avQ S k n = 1 ∧ (avB S t k n).2 < t n
      · rw [avB_y (by omega) c.1 c.2]
        exact Or.inr ⟨by show (0 : Int) ≤ n; omega, by show (n : Int) < n + 1; omega, c.1, rfl⟩
      · rw [avB_n (by omega) (by have := avQ_01 S k n; omega)]
        rcases ih with h | h
        · exact Or.inl h
        · exact Or.inr ⟨h.1, by omega, h.2.2⟩
  have h := key i.toNat
  rwa [show ((i.toNat : Nat) : Int) = i by omega] at h
theorem avB_k {S Y : SS} {k c : Int} (hc : 0 ≤ c) (h : brA S k Y c ≤ (avB S (ssT Y) k c).2) : (avB S (ssT Y) k c).1 = (avB S (ssT Y) k (c + 1)).1 := by
  unfold brA at h
  rw [avB_n hc (by have := avQ_01 S k c; omega)]
theorem avB_t {S Y : SS} {k c : Int} (hc : 0 ≤ c) (h : (avB S (ssT Y) k c).2 < brA S k Y c) (hb : -1 ≤ (avB S (ssT Y) k c).2) : c = (avB S (ssT Y) k (c + 1)).1 := by
  unfold brA at h
  rw [avB_y hc (by have := avQ_01 S k c; omega) (by have := avQ_01 S k c; omega)]
theorem brA_bd {S Y : SS} {B : Int} (k : Int) (h : Bd (ssT Y) 120 0 B) (hB : 0 ≤ B) : Bd (brA S k Y) 120 (-1) B := by
  intro j a b
  have := h j a b
  unfold brA
  split <;> omega
set_option maxHeartbeats 4000000 in
set_option maxRecDepth 100000 in
theorem c_X2_advise (l : Launch) (D : va_G) (g : Nat → ClassId) (m : Nat) (b : Nat → Nat) (th hr tm en : Int) (td bu sr lg ov : Int → Int) (S : SS) (k : Int) (n : Int) (hI : LI td bu sr lg tm hr S) (hSI : SI tm S) (hk : -2147483648 ≤ k ∧ k ≤ 2147483647) (hn : -2147483648 ≤ n ∧ n ≤ 2147483647) : ZMi (S := ((Nat → Nat) × (Int → Int))) l yX2_advise wsX2_advise ({ frames := 5, cells := 10, slots := 866, locals := 320 }) D g [.ref m, .int (iI k), .int (iI n)] (wMo g m b th hr tm en (ssLo S) (ssSl S) (ssFa S) (ssS S) (ssF S) (ssW S) (kOf (ssO S) (ssP S)) (tbl tm bu sr lg (ssT S)) td ov) (fun z _ => ((if ¬ (0 ≤ k ∧ k < tm) then 1 else if ¬ (1 ≤ n ∧ n ≤ 12) then 2 else 0) : Int) = 0 → z = (avB S (ssT (hrs td hr (avS S k) n)) k 120).1) (fun u => wMo g m u.1 (if ¬ (0 ≤ k ∧ k < tm) then 1 else if ¬ (1 ≤ n ∧ n ≤ 12) then 2 else 0) hr tm en (ssLo S) (ssSl S) (ssFa S) (ssS S) (ssF S) (ssW S) (kOf (ssO S) (ssP S)) (tbl tm bu sr lg (ssT S)) td u.2) 10 866 := by
  have hinX2 : ∀ w ∈ u_ws RX2 TX2 14, w ∈ wsX2_advise := by decide +kernel
  have L16 : Cond.fieldLink RX2 16 "SandcastleLeagueModel" "water" "[I" ∈ wsX2_advise := by decide +kernel
  have L19 : Cond.fieldLink RX2 19 "SandcastleLeagueModel" "sticks" "[I" ∈ wsX2_advise := by decide +kernel
  have L35 : Cond.fieldLink RX2 35 "SandcastleLeagueModel" "thrown" "I" ∈ wsX2_advise := by decide +kernel
  obtain ⟨htd, hbu, hsr, hlg, htm, hhr, hSB, hT⟩ := id hI
  obtain ⟨hs, hf, hw, ho, hp⟩ := id hSB
  refine ZMi.of (own := RX2) cX2_advise 9 [(0, .ref m), (1, .int (iI k)), (2, .int (iI n))] (by decide +kernel) rfl (nle rfl) rfl rfl ?_
  intro E hC hN hret
  refine z_aloadn 1 hC 0 dX2_advise_0 rfl rfl rfl ?_
  refine z_iconst 2 hC dX2_advise_1 rfl ?_
  refine z_put (ty := .int) (ws' := wMo g m b 0 hr tm en (ssLo S) (ssSl S) (ssFa S) (ssS S) (ssF S) (ssW S) (kOf (ssO S) (ssP S)) (tbl tm bu sr lg (ssT S)) td ov) 5 0 0 hC tyX2 tyX2_ok nmX2 hinX2 L35 dX2_advise_2 rfl rfl rfl (by decide) rfl (by decide +kernel) rfl rfl (nle rfl) rfl ?_
  refine z_aloadn 6 hC 0 dX2_advise_5 rfl rfl rfl ?_
  refine z_iloadn 7 hC 1 dX2_advise_6 rfl rfl rfl ?_
  refine z_calli (wr := []) (w2 := fun _ => wMo g m b 0 hr tm en (ssLo S) (ssSl S) (ssFa S) (ssS S) (ssF S) (ssW S) (kOf (ssO S) (ssP S)) (tbl tm bu sr lg (ssT S)) td ov) 10 hC [0, 1, 2, 3, 4, 5, 6, 7] [] [0, 1, 2, 3, 4, 5, 6, 7] (z_runV (nA := 1) hC hN (c_X2_isTeam l D g m b 0 hr tm en (ssLo S) (ssSl S) (ssFa S) (ssS S) (ssF S) (ssW S) (kOf (ssO S) (ssP S)) (tbl tm bu sr lg (ssT S)) td ov k (by omega) (by omega)) [0, 1, 2, 3, 4, 5, 6, 7] rfl (by decide) gX2_advise_X2_isTeam (by decide +kernel) rfl rfl rfl ⟨by decide, by decide⟩ rfl rfl (nle rfl) dX2_advise_7 ⟨by decide, by decide⟩ 0 rfl rfl) rfl rfl (by decide) (by decide) (fun _ => rfl) (by decide) rfl (k2 := 0) (n2 := 0) rfl rfl (fun z_1 _ p_2 => ?_)
  refine z_if_ne 19 13 hC dX2_advise_10 (by decide) rfl (by omega) (fun c_3 => ?_) (fun c_3 => ?_)
  · skip
    refine z_iloadn 20 hC 2 dX2_advise_19 rfl rfl rfl ?_
    refine z_iconst 21 hC dX2_advise_20 rfl ?_
    refine z_bipush 23 hC dX2_advise_21 (by decide) rfl ?_
    refine z_calli (wr := [(m, .inr (2, [.int (iI 0), .int (iI hr), .int (iI tm), .int (iI en), .int (iI (ssLo S)), .int (iI (ssSl S)), .int (iI (ssFa S)), .ref (b 0), .ref (b 1), .ref (b 2), .ref (b 3), .ref (b 4), .ref (b 5), .ref (b 6)])), ((b 0), ar g 120 (ssS S)), ((b 1), ar g 120 (ssF S)), ((b 2), ar g 120 (ssW S)), ((b 3), ar g 120 (kOf (ssO S) (ssP S))), ((b 4), ar g 16 (tbl tm bu sr lg (ssT S))), ((b 5), ar g 12 td), ((b 6), ar g 120 ov)]) (w2 := fun _ => wMo g m b 0 hr tm en (ssLo S) (ssSl S) (ssFa S) (ssS S) (ssF S) (ssW S) (kOf (ssO S) (ssP S)) (tbl tm bu sr lg (ssT S)) td ov) 26 hC [] [0, 1, 2, 3, 4, 5, 6, 7] [0, 1, 2, 3, 4, 5, 6, 7] (z_runS (nA := 3) hC hN (c_X2_isIn l D g n 1 12 (by omega) (by omega) (by omega)) [] rfl (by decide) gX2_advise_X2_isIn (by decide +kernel) rfl rfl rfl ⟨by decide, by decide⟩ rfl rfl (nle rfl) dX2_advise_23 ⟨by decide, by decide⟩) rfl rfl (by decide) (by decide) (fun _ => rfl) (by decide) rfl (k2 := 0) (n2 := 0) rfl rfl (fun z_4 _ p_5 => ?_)
    refine z_if_ne 35 29 hC dX2_advise_26 (by decide) rfl (by omega) (fun c_6 => ?_) (fun c_6 => ?_)
    · skip
      refine z_bipush 37 hC dX2_advise_35 (by decide) rfl ?_
      refine z_newi (ws' := fun x_7 => (wMo g m b 0 hr tm en (ssLo S) (ssSl S) (ssFa S) (ssS S) (ssF S) (ssW S) (kOf (ssO S) (ssP S)) (tbl tm bu sr lg (ssT S)) td ov) ++ (([(x_7, ar g 120 (fun _ => 0))]))) (k2 := 1) (n2 := 120) 39 hC (by decide +kernel) (by decide) (nle rfl) (by decide) (by decide) dX2_advise_37 rfl rfl rfl (fun _ => rfl) (fun x_7 => ?_)
      refine z_astoren (lv' := [(3, .ref x_7), (0, .ref m), (1, .int (iI k)), (2, .int (iI n))]) 40 hC dX2_advise_39 rfl rfl (by decide) rfl ?_
      refine z_bipush 42 hC dX2_advise_40 (by decide) rfl ?_
      refine z_newi (ws' := fun x_8 => (wMo g m b 0 hr tm en (ssLo S) (ssSl S) (ssFa S) (ssS S) (ssF S) (ssW S) (kOf (ssO S) (ssP S)) (tbl tm bu sr lg (ssT S)) td ov) ++ (([(x_7, ar g 120 (fun _ => 0))]) ++ (([(x_8, ar g 120 (fun _ => 0))])))) (k2 := 2) (n2 := 240) 44 hC (by decide +kernel) (by decide) (nle rfl) (by decide) (by decide) dX2_advise_42 rfl rfl rfl (fun _ => rfl) (fun x_8 => ?_)
      refine z_astore (lv' := [(4, .ref x_8), (3, .ref x_7), (0, .ref m), (1, .int (iI k)), (2, .int (iI n))]) 46 hC dX2_advise_44 rfl (by decide) rfl ?_
      refine z_bipush 48 hC dX2_advise_46 (by decide) rfl ?_
      refine z_newz (ws' := fun x_9 => (wMo g m b 0 hr tm en (ssLo S) (ssSl S) (ssFa S) (ssS S) (ssF S) (ssW S) (kOf (ssO S) (ssP S)) (tbl tm bu sr lg (ssT S)) td ov) ++ (([(x_7, ar g 120 (fun _ => 0))]) ++ (([(x_8, ar g 120 (fun _ => 0))]) ++ (([(x_9, (.inl (g 2, 120, .inl (ia (fun _ => 0))) : va_E))]))))) (k2 := 3) (n2 := 360) 50 hC (by decide +kernel) (by decide) (nle rfl) (by decide) (by decide) dX2_advise_48 rfl rfl rfl (fun _ => rfl) (fun x_9 => ?_)
      refine z_astore (lv' := [(5, .ref x_9), (4, .ref x_8), (3, .ref x_7), (0, .ref m), (1, .int (iI k)), (2, .int (iI n))]) 52 hC dX2_advise_50 rfl (by decide) rfl ?_
      refine z_iconst 53 hC dX2_advise_52 rfl ?_
      refine z_istore (lv' := [(6, .int (iI 0)), (5, .ref x_9), (4, .ref x_8), (3, .ref x_7), (0, .ref m), (1, .int (iI k)), (2, .int (iI n))]) 55 hC dX2_advise_53 rfl (by decide) rfl ?_
      have loop55 : ∀ (N55 : Nat) (c : Int), 0 ≤ c ∧ c ≤ 120 → (120 - c : Int) < N55 → Z E ((wMo g m b 0 hr tm en (ssLo S) (ssSl S) (ssFa S) (ssS S) (ssF S) (ssW S) (kOf (ssO S) (ssP S)) (tbl tm bu sr lg (ssT S)) td ov) ++ (([(x_7, ar g 120 (mixF (brA S k (avS S k)) (fun _ => 0) c))]) ++ (([(x_8, ar g 120 (mixF (hg (ssS S)) (fun _ => 0) c))]) ++ (([(x_9, (.inl (g 2, 120, .inl (ia (mixF (stA (avS S k)) (fun _ => 0) c))) : va_E))]))))) [(0, .ref m), (1, .int (iI k)), (2, .int (iI n)), (3, .ref x_7), (4, .ref x_8), (5, .ref x_9), (6, .int (iI c))] 3 360 55 [] := by
        intro N55
        induction N55 with
        | zero => intro c hc hm55; exact absurd hm55 (by omega)
        | succ N55 ih55 =>
          intro c hc hm55
          refine z_iload 57 hC 6 dX2_advise_55 rfl rfl ?_
          refine z_bipush 59 hC dX2_advise_57 (by decide) rfl ?_
          refine z_icmp_ge 135 62 hC dX2_advise_59 (by decide) rfl (by omega) (by omega) (fun c_10 => ?_) (fun c_10 => ?_)
          · skip
            obtain rfl : c = 120 := by omega
            refine z_weq (ws' := (wMo g m b 0 hr tm en (ssLo S) (ssSl S) (ssFa S) (ssS S) (ssF S) (ssW S) (kOf (ssO S) (ssP S)) (tbl tm bu sr lg (ssT S)) td ov) ++ (([(x_7, ar g 120 (brA S k (avS S k)))]) ++ (([(x_8, ar g 120 (hg (ssS S)))]) ++ (([(x_9, (.inl (g 2, 120, .inl (ia (stA (avS S k)))) : va_E))]))))) (zEq.cons zE1.rf (zEq.cons zE1.rf (zEq.cons zE1.rf (zEq.cons zE1.rf (zEq.cons zE1.rf (zEq.cons zE1.rf (zEq.cons zE1.rf (zEq.cons zE1.rf (zEq.cons (zE1.arr (by intro j h0 h1; exact mix_N _ _ (by omega))) (zEq.cons (zE1.arr (by intro j h0 h1; exact mix_N _ _ (by omega))) (zEq.cons (zE1.arr (by intro j h0 h1; exact mix_N _ _ (by omega))) zEq.nil))))))))))) ?_
            refine z_aloadn 136 hC 0 dX2_advise_135 rfl rfl rfl ?_
            refine z_callr (wr := [(x_7, ar g 120 (brA S k (avS S k))), (x_8, ar g 120 (hg (ssS S))), (x_9, (.inl (g 2, 120, .inl (ia (stA (avS S k)))) : va_E))]) (w2 := fun u_11 a_12 => (wMo g m b 0 hr tm en (ssLo S) (ssSl S) (ssFa S) (ssS S) (ssF S) (ssW S) (kOf (ssO S) (ssP S)) (tbl tm bu sr lg (ssT S)) td ov) ++ (([(x_7, ar g 120 (brA S k (avS S k)))]) ++ (([(x_8, ar g 120 (hg (ssS S)))]) ++ (([(x_9, (.inl (g 2, 120, .inl (ia (stA (avS S k)))) : va_E))]) ++ (([(a_12, (.inl (g 3, 6, .inr (.inr (.inr (.inr (va_up (va_up (va_up (va_up (va_up (va_up (fun _ => none) 0 (some (u_11 0))) 1 (some (u_11 1))) 2 (some (u_11 2))) 3 (some (u_11 3))) 4 (some (u_11 4))) 5 (some (u_11 5))))))) : va_E))]) ++ (([((u_11 0), ar g 120 (ssS S))]) ++ (([((u_11 1), ar g 120 (ssF S))]) ++ (([((u_11 2), ar g 120 (ssW S))]) ++ (([((u_11 3), ar g 120 (kOf (ssO S) (ssP S)))]) ++ (([((u_11 4), ar g 16 (tbl tm bu sr lg (ssT S)))]) ++ (([((u_11 5), ar g 4 (up (up (up (up (fun _ => 0) 0 hr) 1 (ssLo S)) 2 (ssSl S)) 3 (ssFa S)))])))))))))))) 139 hC [0, 1, 2, 3, 4, 5, 6, 7] [8, 9, 10] [3, 4, 5, 6, 7, 8, 9, 10, 0, 1, 2, 11, 12, 13, 14, 15, 16, 17] (z_runV (nA := 0) hC hN (c_X2_kept l D g m b 0 hr tm en (ssLo S) (ssSl S) (ssFa S) (ssS S) (ssF S) (ssW S) (kOf (ssO S) (ssP S)) (tbl tm bu sr lg (ssT S)) td ov) [0, 1, 2, 3, 4, 5, 6, 7] rfl (by decide) gX2_advise_X2_kept (by decide +kernel) rfl rfl rfl ⟨by decide, by decide⟩ rfl rfl (nle rfl) dX2_advise_136 ⟨by decide, by decide⟩ 0 rfl rfl) rfl rfl (by decide) (by decide) (fun _ _ => rfl) (by decide) rfl (k2 := 10) (n2 := 866) rfl rfl (fun u_11 a_12 p_13 => ?_)
            refine z_astore (lv' := [(6, .ref a_12), (0, .ref m), (1, .int (iI k)), (2, .int (iI n)), (3, .ref x_7), (4, .ref x_8), (5, .ref x_9)]) 141 hC dX2_advise_139 rfl (by decide) rfl ?_
            refine z_iconst 142 hC dX2_advise_141 rfl ?_
            refine z_istore (lv' := [(7, .int (iI 0)), (6, .ref a_12), (0, .ref m), (1, .int (iI k)), (2, .int (iI n)), (3, .ref x_7), (4, .ref x_8), (5, .ref x_9)]) 144 hC dX2_advise_142 rfl (by decide) rfl ?_
            have loop144 : ∀ (N144 : Nat) (i : Int) (o9 : Int → Int), 0 ≤ i ∧ i ≤ n → (n - i : Int) < N144 → Z E ((wMo g m b 0 (hr + i) tm en (ssLo (hrs td hr S i)) (ssSl (hrs td hr S i)) (ssFa (hrs td hr S i)) (ssS (hrs td hr S i)) (ssF (hrs td hr S i)) (ssW (hrs td hr S i)) (kOf (ssO (hrs td hr S i)) (ssP (hrs td hr S i))) (tbl tm bu (srP sr i) lg (ssT (hrs td hr S i))) td o9) ++ (([(x_7, ar g 120 (brA S k (hrs td hr (avS S k) i)))]) ++ (([(x_8, ar g 120 (hg (ssS S)))]) ++ (([(x_9, (.inl (g 2, 120, .inl (ia (stA (hrs td hr (avS S k) i)))) : va_E))]) ++ (([(a_12, (.inl (g 3, 6, .inr (.inr (.inr (.inr (va_up (va_up (va_up (va_up (va_up (va_up (fun _ => none) 0 (some (u_11 0))) 1 (some (u_11 1))) 2 (some (u_11 2))) 3 (some (u_11 3))) 4 (some (u_11 4))) 5 (some (u_11 5))))))) : va_E))]) ++ (([((u_11 0), ar g 120 (ssS S))]) ++ (([((u_11 1), ar g 120 (ssF S))]) ++ (([((u_11 2), ar g 120 (ssW S))]) ++ (([((u_11 3), ar g 120 (kOf (ssO S) (ssP S)))]) ++ (([((u_11 4), ar g 16 (tbl tm bu sr lg (ssT S)))]) ++ (([((u_11 5), ar g 4 (up (up (up (up (fun _ => 0) 0 hr) 1 (ssLo S)) 2 (ssSl S)) 3 (ssFa S)))])))))))))))) [(0, .ref m), (1, .int (iI k)), (2, .int (iI n)), (3, .ref x_7), (4, .ref x_8), (5, .ref x_9), (6, .ref a_12), (7, .int (iI i))] 10 866 144 [] := by
              intro N144
              induction N144 with
              | zero => intro i o9 hi hm144; exact absurd hm144 (by omega)
              | succ N144 ih144 =>
                intro i o9 hi hm144
                refine z_iload 146 hC 7 dX2_advise_144 rfl rfl ?_
                refine z_iloadn 147 hC 2 dX2_advise_146 rfl rfl rfl ?_
                refine z_icmp_ge 233 150 hC dX2_advise_147 (by decide) rfl (by omega) (by omega) (fun c_14 => ?_) (fun c_14 => ?_)
                · skip
                  obtain rfl : n = i := by omega
                  have qB := hrs_bd td hr hSB (i := n) (by omega)
                  obtain ⟨q1, q2, q3, q4, q5⟩ := id qB
                  have qT := avS_pt td hr k n hSB (by omega)
                  have qR := brA_bd (S := S) k qT (by omega)
                  refine z_aloadn 234 hC 0 dX2_advise_233 rfl rfl rfl ?_
                  refine z_aload 236 hC 6 dX2_advise_234 rfl rfl ?_
                  refine z_callv (wr := [((b 0), ar g 120 (ssS (hrs td hr S n))), ((b 1), ar g 120 (ssF (hrs td hr S n))), ((b 2), ar g 120 (ssW (hrs td hr S n))), ((b 3), ar g 120 (kOf (ssO (hrs td hr S n)) (ssP (hrs td hr S n)))), ((b 4), ar g 16 (tbl tm bu (srP sr n) lg (ssT (hrs td hr S n)))), ((b 5), ar g 12 td), ((b 6), ar g 120 o9), (x_7, ar g 120 (brA S k (hrs td hr (avS S k) n))), (x_8, ar g 120 (hg (ssS S))), (x_9, (.inl (g 2, 120, .inl (ia (stA (hrs td hr (avS S k) n)))) : va_E)), ((u_11 0), ar g 120 (ssS S)), ((u_11 1), ar g 120 (ssF S)), ((u_11 2), ar g 120 (ssW S)), ((u_11 3), ar g 120 (kOf (ssO S) (ssP S))), ((u_11 4), ar g 16 (tbl tm bu sr lg (ssT S)))]) (w2 := fun _ => (wMo g m (fun i => ([(u_11 0), (u_11 1), (u_11 2), (u_11 3), (u_11 4), (b 5), (b 6)] : List Nat).getD i 0) 0 ((up (up (up (up (fun _ => 0) 0 hr) 1 (ssLo S)) 2 (ssSl S)) 3 (ssFa S)) 0) tm en ((up (up (up (up (fun _ => 0) 0 hr) 1 (ssLo S)) 2 (ssSl S)) 3 (ssFa S)) 1) ((up (up (up (up (fun _ => 0) 0 hr) 1 (ssLo S)) 2 (ssSl S)) 3 (ssFa S)) 2) ((up (up (up (up (fun _ => 0) 0 hr) 1 (ssLo S)) 2 (ssSl S)) 3 (ssFa S)) 3) (ssS S) (ssF S) (ssW S) (kOf (ssO S) (ssP S)) (tbl tm bu sr lg (ssT S)) td o9) ++ (([(x_7, ar g 120 (brA S k (hrs td hr (avS S k) n)))]) ++ (([(x_8, ar g 120 (hg (ssS S)))]) ++ (([(x_9, (.inl (g 2, 120, .inl (ia (stA (hrs td hr (avS S k) n)))) : va_E))]))))) 239 hC [0, 11, 17] [1, 2, 3, 4, 5, 6, 7, 8, 9, 10, 12, 13, 14, 15, 16] [15, 10, 11, 12, 13, 14, 5, 6, 7, 8, 9] (z_runV (nA := 1) hC hN (c_X2_bringBack l D g m a_12 b u_11 0 (hr + n) tm en (ssLo (hrs td hr S n)) (ssSl (hrs td hr S n)) (ssFa (hrs td hr S n)) (up (up (up (up (fun _ => 0) 0 hr) 1 (ssLo S)) 2 (ssSl S)) 3 (ssFa S))) [0, 11, 17] rfl (by decide) gX2_advise_X2_bringBack (by decide +kernel) rfl rfl rfl ⟨by decide, by decide⟩ rfl rfl (nle rfl) dX2_advise_236 ⟨by decide, by decide⟩ 0 rfl rfl) rfl rfl (by decide) (by decide) (fun _ => rfl) (by decide) rfl (k2 := 10) (n2 := 866) rfl rfl (fun _ p_15 => ?_)
                  refine z_iconst 240 hC dX2_advise_239 rfl ?_
                  refine z_istore (lv' := [(7, .int (iI (-1))), (0, .ref m), (1, .int (iI k)), (2, .int (iI n)), (3, .ref x_7), (4, .ref x_8), (5, .ref x_9), (6, .ref a_12)]) 242 hC dX2_advise_240 rfl (by decide) rfl ?_
                  refine z_iconst 243 hC dX2_advise_242 rfl ?_
                  refine z_istore (lv' := [(8, .int (iI 0)), (7, .int (iI (-1))), (0, .ref m), (1, .int (iI k)), (2, .int (iI n)), (3, .ref x_7), (4, .ref x_8), (5, .ref x_9), (6, .ref a_12)]) 245 hC dX2_advise_243 rfl (by decide) rfl ?_
                  have loop245 : ∀ (N245 : Nat) (c : Int), 0 ≤ c ∧ c ≤ 120 → (120 - c : Int) < N245 → Z E ((wMo g m (fun i => ([(u_11 0), (u_11 1), (u_11 2), (u_11 3), (u_11 4), (b 5), (b 6)] : List Nat).getD i 0) 0 ((up (up (up (up (fun _ => 0) 0 hr) 1 (ssLo S)) 2 (ssSl S)) 3 (ssFa S)) 0) tm en ((up (up (up (up (fun _ => 0) 0 hr) 1 (ssLo S)) 2 (ssSl S)) 3 (ssFa S)) 1) ((up (up (up (up (fun _ => 0) 0 hr) 1 (ssLo S)) 2 (ssSl S)) 3 (ssFa S)) 2) ((up (up (up (up (fun _ => 0) 0 hr) 1 (ssLo S)) 2 (ssSl S)) 3 (ssFa S)) 3) (ssS S) (ssF S) (ssW S) (kOf (ssO S) (ssP S)) (tbl tm bu sr lg (ssT S)) td o9) ++ (([(x_7, ar g 120 (brA S k (hrs td hr (avS S k) n)))]) ++ (([(x_8, ar g 120 (hg (ssS S)))]) ++ (([(x_9, (.inl (g 2, 120, .inl (ia (stA (hrs td hr (avS S k) n)))) : va_E))]))))) [(0, .ref m), (1, .int (iI k)), (2, .int (iI n)), (3, .ref x_7), (7, .int (iI ((avB S (ssT (hrs td hr (avS S k) n)) k c).1))), (8, .int (iI c))] 10 866 245 [] := by
                    intro N245
                    induction N245 with
                    | zero => intro c hc hm245; exact absurd hm245 (by omega)
                    | succ N245 ih245 =>
                      intro c hc hm245
                      have e6 := avB_r S (ssT (hrs td hr (avS S k) n)) k hc.1
                      have e7 : (avB S (ssT (hrs td hr (avS S k) n)) k c).1 ≠ -1 → brA S k (hrs td hr (avS S k) n) (avB S (ssT (hrs td hr (avS S k) n)) k c).1 = (avB S (ssT (hrs td hr (avS S k) n)) k c).2 := fun q9 => by rcases e6 with q | q; exact absurd q.1 q9; unfold brA; rw [if_pos q.2.2.1]; exact q.2.2.2.symm
                      have e8 := avB_bd (S := S) k qT (by omega) hc.1 hc.2
                      refine z_iload 247 hC 5 dX2_advise_245 rfl rfl ?_
                      refine z_bipush 249 hC dX2_advise_247 (by decide) rfl ?_
                      refine z_icmp_ge 283 252 hC dX2_advise_249 (by decide) rfl (by omega) (by omega) (fun c_16 => ?_) (fun c_16 => ?_)
                      · skip
                        obtain rfl : c = 120 := by omega
                        refine z_iload 285 hC 4 dX2_advise_283 rfl rfl ?_
                        refine z_sub (ws' := wMo g m (fun i => ([(u_11 0), (u_11 1), (u_11 2), (u_11 3), (u_11 4), (b 5), (b 6)] : List Nat).getD i 0) 0 ((up (up (up (up (fun _ => 0) 0 hr) 1 (ssLo S)) 2 (ssSl S)) 3 (ssFa S)) 0) tm en ((up (up (up (up (fun _ => 0) 0 hr) 1 (ssLo S)) 2 (ssSl S)) 3 (ssFa S)) 1) ((up (up (up (up (fun _ => 0) 0 hr) 1 (ssLo S)) 2 (ssSl S)) 3 (ssFa S)) 2) ((up (up (up (up (fun _ => 0) 0 hr) 1 (ssLo S)) 2 (ssSl S)) 3 (ssFa S)) 3) (ssS S) (ssF S) (ssW S) (kOf (ssO S) (ssP S)) (tbl tm bu sr lg (ssT S)) td o9) [0, 1, 2, 3, 4, 5, 6, 7] (by decide) rfl ?_
                        refine z_weq (ws' := wMo g m (fun i => ([(u_11 0), (u_11 1), (u_11 2), (u_11 3), (u_11 4), (b 5), (b 6)] : List Nat).getD i 0) (if ¬ (0 ≤ k ∧ k < tm) then 1 else if ¬ (1 ≤ n ∧ n ≤ 12) then 2 else 0) hr tm en (ssLo S) (ssSl S) (ssFa S) (ssS S) (ssF S) (ssW S) (kOf (ssO S) (ssP S)) (tbl tm bu sr lg (ssT S)) td o9) (zEq.cons (zE1.obj (zfc (by first | omega | rfl | (simp only [up]; omega)) (zfc (by first | omega | rfl | (simp only [up]; omega)) (zfk (zfk (zfc (by first | omega | rfl | (simp only [up]; omega)) (zfc (by first | omega | rfl | (simp only [up]; omega)) (zfc (by first | omega | rfl | (simp only [up]; omega)) (zfk (zfk (zfk (zfk (zfk (zfk (zfk rfl))))))))))))))) (zEq.cons zE1.rf (zEq.cons zE1.rf (zEq.cons zE1.rf (zEq.cons zE1.rf (zEq.cons zE1.rf (zEq.cons zE1.rf (zEq.cons zE1.rf zEq.nil)))))))) ?_
                        exact hret (fun i => ([(u_11 0), (u_11 1), (u_11 2), (u_11 3), (u_11 4), (b 5), (b 6)] : List Nat).getD i 0, o9) dX2_advise_285 rfl (by intro q9; first | rfl | omega)
                      · skip
                        have r1 := qR c (by omega) (by omega)
                        refine z_aloadn 253 hC 3 dX2_advise_252 rfl rfl rfl ?_
                        refine z_iload 255 hC 5 dX2_advise_253 rfl rfl ?_
                        refine z_iald 256 8 hC dX2_advise_255 rfl rfl (by decide) (by omega) ?_
                        refine z_iload 258 hC 4 dX2_advise_256 rfl rfl ?_
                        refine z_iconst 259 hC dX2_advise_258 rfl ?_
                        refine z_icmp_ne 266 262 hC dX2_advise_259 (by decide) rfl (by omega) (by omega) (fun c_17 => ?_) (fun c_17 => ?_)
                        · skip
                          have r2 := qR ((avB S (ssT (hrs td hr (avS S k) n)) k c).1) (by omega) (by omega)
                          refine z_aloadn 267 hC 3 dX2_advise_266 rfl rfl rfl ?_
                          refine z_iload 269 hC 4 dX2_advise_267 rfl rfl ?_
                          refine z_iald 270 8 hC dX2_advise_269 rfl rfl (by decide) (by omega) ?_
                          refine z_icmp_le 277 273 hC dX2_advise_270 (by decide) rfl (by omega) (by omega) (fun c_18 => ?_) (fun c_18 => ?_)
                          · skip
                            refine z_iinc (lv' := [(8, .int (iI (c + 1))), (0, .ref m), (1, .int (iI k)), (2, .int (iI n)), (3, .ref x_7), (7, .int (iI ((avB S (ssT (hrs td hr (avS S k) n)) k c).1)))]) 280 5 hC dX2_advise_277 rfl rfl (by decide) rfl ?_
                            refine z_goto 245 hC dX2_advise_280 (by decide) ?_
                            refine z_lv (lv' := [(0, .ref m), (1, .int (iI k)), (2, .int (iI n)), (3, .ref x_7), (7, .int (iI ((avB S (ssT (hrs td hr (avS S k) n)) k c).1))), (8, .int (iI (c + 1)))]) [1, 2, 3, 4, 5, 0] rfl ?_
                            refine z_lveq (lv' := [(0, .ref m), (1, .int (iI k)), (2, .int (iI n)), (3, .ref x_7), (7, .int (iI ((avB S (ssT (hrs td hr (avS S k) n)) k (c + 1)).1))), (8, .int (iI (c + 1)))]) (zfk (zfk (zfk (zfk (zlc (by first | exact avB_k (by omega) (by omega) | exact avB_t (by omega) (by omega) (by omega)) (zfk rfl)))))) ?_
                            exact ih245 (c + 1) (by omega) (by omega)
                          · skip
                            refine z_iload 275 hC 5 dX2_advise_273 rfl rfl ?_
                            refine z_istore (lv' := [(7, .int (iI c)), (0, .ref m), (1, .int (iI k)), (2, .int (iI n)), (3, .ref x_7), (8, .int (iI c))]) 277 hC dX2_advise_275 rfl (by decide) rfl ?_
                            refine z_iinc (lv' := [(8, .int (iI (c + 1))), (7, .int (iI c)), (0, .ref m), (1, .int (iI k)), (2, .int (iI n)), (3, .ref x_7)]) 280 5 hC dX2_advise_277 rfl rfl (by decide) rfl ?_
                            refine z_goto 245 hC dX2_advise_280 (by decide) ?_
                            refine z_lv (lv' := [(0, .ref m), (1, .int (iI k)), (2, .int (iI n)), (3, .ref x_7), (7, .int (iI c)), (8, .int (iI (c + 1)))]) [2, 3, 4, 5, 1, 0] rfl ?_
                            refine z_lveq (lv' := [(0, .ref m), (1, .int (iI k)), (2, .int (iI n)), (3, .ref x_7), (7, .int (iI ((avB S (ssT (hrs td hr (avS S k) n)) k (c + 1)).1))), (8, .int (iI (c + 1)))]) (zfk (zfk (zfk (zfk (zlc (by first | exact avB_k (by omega) (by omega) | exact avB_t (by omega) (by omega) (by omega)) (zfk rfl)))))) ?_
                            exact ih245 (c + 1) (by omega) (by omega)
                        · skip
                          refine z_iconst 263 hC dX2_advise_262 rfl ?_
                          refine z_goto 270 hC dX2_advise_263 (by decide) ?_
                          refine z_icmp_le 277 273 hC dX2_advise_270 (by decide) rfl (by omega) (by omega) (fun c_19 => ?_) (fun c_19 => ?_)
                          · skip
                            refine z_iinc (lv' := [(8, .int (iI (c + 1))), (0, .ref m), (1, .int (iI k)), (2, .int (iI n)), (3, .ref x_7), (7, .int (iI ((avB S (ssT (hrs td hr (avS S k) n)) k c).1)))]) 280 5 hC dX2_advise_277 rfl rfl (by decide) rfl ?_
                            refine z_goto 245 hC dX2_advise_280 (by decide) ?_
                            refine z_lv (lv' := [(0, .ref m), (1, .int (iI k)), (2, .int (iI n)), (3, .ref x_7), (7, .int (iI ((avB S (ssT (hrs td hr (avS S k) n)) k c).1))), (8, .int (iI (c + 1)))]) [1, 2, 3, 4, 5, 0] rfl ?_
                            refine z_lveq (lv' := [(0, .ref m), (1, .int (iI k)), (2, .int (iI n)), (3, .ref x_7), (7, .int (iI ((avB S (ssT (hrs td hr (avS S k) n)) k (c + 1)).1))), (8, .int (iI (c + 1)))]) (zfk (zfk (zfk (zfk (zlc (by first | exact avB_k (by omega) (by omega) | exact avB_t (by omega) (by omega) (by omega)) (zfk rfl)))))) ?_
                            exact ih245 (c + 1) (by omega) (by omega)
                          · skip
                            refine z_iload 275 hC 5 dX2_advise_273 rfl rfl ?_
                            refine z_istore (lv' := [(7, .int (iI c)), (0, .ref m), (1, .int (iI k)), (2, .int (iI n)), (3, .ref x_7), (8, .int (iI c))]) 277 hC dX2_advise_275 rfl (by decide) rfl ?_
                            refine z_iinc (lv' := [(8, .int (iI (c + 1))), (7, .int (iI c)), (0, .ref m), (1, .int (iI k)), (2, .int (iI n)), (3, .ref x_7)]) 280 5 hC dX2_advise_277 rfl rfl (by decide) rfl ?_
                            refine z_goto 245 hC dX2_advise_280 (by decide) ?_
                            refine z_lv (lv' := [(0, .ref m), (1, .int (iI k)), (2, .int (iI n)), (3, .ref x_7), (7, .int (iI c)), (8, .int (iI (c + 1)))]) [2, 3, 4, 5, 1, 0] rfl ?_
                            refine z_lveq (lv' := [(0, .ref m), (1, .int (iI k)), (2, .int (iI n)), (3, .ref x_7), (7, .int (iI ((avB S (ssT (hrs td hr (avS S k) n)) k (c + 1)).1))), (8, .int (iI (c + 1)))]) (zfk (zfk (zfk (zfk (zlc (by first | exact avB_k (by omega) (by omega) | exact avB_t (by omega) (by omega) (by omega)) (zfk rfl)))))) ?_
                            exact ih245 (c + 1) (by omega) (by omega)
                  refine z_lv (lv' := [(0, .ref m), (1, .int (iI k)), (2, .int (iI n)), (3, .ref x_7), (7, .int (iI (-1))), (8, .int (iI 0))]) [2, 3, 4, 5, 1, 0] rfl ?_
                  refine z_lveq (lv' := [(0, .ref m), (1, .int (iI k)), (2, .int (iI n)), (3, .ref x_7), (7, .int (iI ((avB S (ssT (hrs td hr (avS S k) n)) k 0).1))), (8, .int (iI 0))]) (zfk (zfk (zfk (zfk (zlc (by rfl) (zfk rfl)))))) ?_
                  exact loop245 ((120 - 0 + 1 : Int).toNat) 0 (by omega) (by omega)
                · skip
                  refine z_aloadn 151 hC 0 dX2_advise_150 rfl rfl rfl ?_
                  refine z_callv (wr := [(x_7, ar g 120 (brA S k (hrs td hr (avS S k) i))), (x_8, ar g 120 (hg (ssS S))), (x_9, (.inl (g 2, 120, .inl (ia (stA (hrs td hr (avS S k) i)))) : va_E)), (a_12, (.inl (g 3, 6, .inr (.inr (.inr (.inr (va_up (va_up (va_up (va_up (va_up (va_up (fun _ => none) 0 (some (u_11 0))) 1 (some (u_11 1))) 2 (some (u_11 2))) 3 (some (u_11 3))) 4 (some (u_11 4))) 5 (some (u_11 5))))))) : va_E)), ((u_11 0), ar g 120 (ssS S)), ((u_11 1), ar g 120 (ssF S)), ((u_11 2), ar g 120 (ssW S)), ((u_11 3), ar g 120 (kOf (ssO S) (ssP S))), ((u_11 4), ar g 16 (tbl tm bu sr lg (ssT S))), ((u_11 5), ar g 4 (up (up (up (up (fun _ => 0) 0 hr) 1 (ssLo S)) 2 (ssSl S)) 3 (ssFa S)))]) (w2 := fun u_20 => (wMo g m b 0 ((hr + i) + 1) tm en (ssLo (hourT (td ((hr + i) % 12)) (hrs td hr S i))) (ssSl (hourT (td ((hr + i) % 12)) (hrs td hr S i))) (ssFa (hourT (td ((hr + i) % 12)) (hrs td hr S i))) (ssS (hourT (td ((hr + i) % 12)) (hrs td hr S i))) (ssF (hourT (td ((hr + i) % 12)) (hrs td hr S i))) (ssW (hourT (td ((hr + i) % 12)) (hrs td hr S i))) (kOf (ssO (hourT (td ((hr + i) % 12)) (hrs td hr S i))) (ssP (hourT (td ((hr + i) % 12)) (hrs td hr S i)))) (tbl tm bu (fun _ => 20) lg (ssT (hourT (td ((hr + i) % 12)) (hrs td hr S i)))) td u_20) ++ (([(x_7, ar g 120 (brA S k (hrs td hr (avS S k) i)))]) ++ (([(x_8, ar g 120 (hg (ssS S)))]) ++ (([(x_9, (.inl (g 2, 120, .inl (ia (stA (hrs td hr (avS S k) i)))) : va_E))]) ++ (([(a_12, (.inl (g 3, 6, .inr (.inr (.inr (.inr (va_up (va_up (va_up (va_up (va_up (va_up (fun _ => none) 0 (some (u_11 0))) 1 (some (u_11 1))) 2 (some (u_11 2))) 3 (some (u_11 3))) 4 (some (u_11 4))) 5 (some (u_11 5))))))) : va_E))]) ++ (([((u_11 0), ar g 120 (ssS S))]) ++ (([((u_11 1), ar g 120 (ssF S))]) ++ (([((u_11 2), ar g 120 (ssW S))]) ++ (([((u_11 3), ar g 120 (kOf (ssO S) (ssP S)))]) ++ (([((u_11 4), ar g 16 (tbl tm bu sr lg (ssT S)))]) ++ (([((u_11 5), ar g 4 (up (up (up (up (fun _ => 0) 0 hr) 1 (ssLo S)) 2 (ssSl S)) 3 (ssFa S)))])))))))))))) 154 hC [0, 1, 2, 3, 4, 5, 6, 7] [8, 9, 10, 11, 12, 13, 14, 15, 16, 17] [10, 11, 12, 13, 14, 15, 16, 17, 0, 1, 2, 3, 4, 5, 6, 7, 8, 9] (z_runV (nA := 0) hC hN (c_X2_hourOn l D g m b 0 (hr + i) tm en td bu (srP sr i) lg o9 (hrs td hr S i) htd htm (by omega) (hrs_bd td hr hSB (i := i) (by omega)) (SI_hrs td hr hSI (i := i) (by omega))) [0, 1, 2, 3, 4, 5, 6, 7] rfl (by decide) gX2_advise_X2_hourOn (by decide +kernel) rfl rfl rfl ⟨by decide, by decide⟩ rfl rfl (nle rfl) dX2_advise_151 ⟨by decide, by decide⟩ 0 rfl rfl) rfl rfl (by decide) (by decide) (fun _ => rfl) (by decide) rfl (k2 := 10) (n2 := 866) rfl rfl (fun u_20 p_21 => ?_)
                  have qX := hrs_bd td hr hSB (i := i + 1) (by omega)
                  rw [hrs_s td hr S hi.1] at qX
                  obtain ⟨x1, x2, x3, x4, x5⟩ := id qX
                  have qA := AV_hrs td hr S k (i := i) hi.1
                  refine z_iconst 155 hC dX2_advise_154 rfl ?_
                  refine z_istore (lv' := [(8, .int (iI 0)), (0, .ref m), (1, .int (iI k)), (2, .int (iI n)), (3, .ref x_7), (4, .ref x_8), (5, .ref x_9), (6, .ref a_12), (7, .int (iI i))]) 157 hC dX2_advise_155 rfl (by decide) rfl ?_
                  have loop157 : ∀ (N157 : Nat) (c : Int), 0 ≤ c ∧ c ≤ 120 → (120 - c : Int) < N157 → Z E ((wMo g m b 0 ((hr + i) + 1) tm en (ssLo (hourT (td ((hr + i) % 12)) (hrs td hr S i))) (ssSl (hourT (td ((hr + i) % 12)) (hrs td hr S i))) (ssFa (hourT (td ((hr + i) % 12)) (hrs td hr S i))) (ssS (hourT (td ((hr + i) % 12)) (hrs td hr S i))) (ssF (hourT (td ((hr + i) % 12)) (hrs td hr S i))) (ssW (hourT (td ((hr + i) % 12)) (hrs td hr S i))) (kOf (ssO (hourT (td ((hr + i) % 12)) (hrs td hr S i))) (ssP (hourT (td ((hr + i) % 12)) (hrs td hr S i)))) (tbl tm bu (fun _ => 20) lg (ssT (hourT (td ((hr + i) % 12)) (hrs td hr S i)))) td u_20) ++ (([(x_7, ar g 120 (mixF (brA S k (hourT (td ((hr + i) % 12)) (hrs td hr (avS S k) i))) (brA S k (hrs td hr (avS S k) i)) c))]) ++ (([(x_8, ar g 120 (hg (ssS S)))]) ++ (([(x_9, (.inl (g 2, 120, .inl (ia (mixF (stA (hourT (td ((hr + i) % 12)) (hrs td hr (avS S k) i))) (stA (hrs td hr (avS S k) i)) c))) : va_E))]) ++ (([(a_12, (.inl (g 3, 6, .inr (.inr (.inr (.inr (va_up (va_up (va_up (va_up (va_up (va_up (fun _ => none) 0 (some (u_11 0))) 1 (some (u_11 1))) 2 (some (u_11 2))) 3 (some (u_11 3))) 4 (some (u_11 4))) 5 (some (u_11 5))))))) : va_E))]) ++ (([((u_11 0), ar g 120 (ssS S))]) ++ (([((u_11 1), ar g 120 (ssF S))]) ++ (([((u_11 2), ar g 120 (ssW S))]) ++ (([((u_11 3), ar g 120 (kOf (ssO S) (ssP S)))]) ++ (([((u_11 4), ar g 16 (tbl tm bu sr lg (ssT S)))]) ++ (([((u_11 5), ar g 4 (up (up (up (up (fun _ => 0) 0 hr) 1 (ssLo S)) 2 (ssSl S)) 3 (ssFa S)))])))))))))))) [(0, .ref m), (1, .int (iI k)), (2, .int (iI n)), (3, .ref x_7), (4, .ref x_8), (5, .ref x_9), (6, .ref a_12), (7, .int (iI i)), (8, .int (iI c))] 10 866 157 [] := by
                    intro N157
                    induction N157 with
                    | zero => intro c hc hm157; exact absurd hm157 (by omega)
                    | succ N157 ih157 =>
                      intro c hc hm157
                      have e5 := stA_01 (hrs td hr (avS S k) i) c
                      refine z_iload 159 hC 8 dX2_advise_157 rfl rfl ?_
                      refine z_bipush 161 hC dX2_advise_159 (by decide) rfl ?_
                      refine z_icmp_ge 227 164 hC dX2_advise_161 (by decide) rfl (by omega) (by omega) (fun c_22 => ?_) (fun c_22 => ?_)
                      · skip
                        obtain rfl : c = 120 := by omega
                        refine z_weq (ws' := (wMo g m b 0 ((hr + i) + 1) tm en (ssLo (hourT (td ((hr + i) % 12)) (hrs td hr S i))) (ssSl (hourT (td ((hr + i) % 12)) (hrs td hr S i))) (ssFa (hourT (td ((hr + i) % 12)) (hrs td hr S i))) (ssS (hourT (td ((hr + i) % 12)) (hrs td hr S i))) (ssF (hourT (td ((hr + i) % 12)) (hrs td hr S i))) (ssW (hourT (td ((hr + i) % 12)) (hrs td hr S i))) (kOf (ssO (hourT (td ((hr + i) % 12)) (hrs td hr S i))) (ssP (hourT (td ((hr + i) % 12)) (hrs td hr S i)))) (tbl tm bu (fun _ => 20) lg (ssT (hourT (td ((hr + i) % 12)) (hrs td hr S i)))) td u_20) ++ (([(x_7, ar g 120 (brA S k (hourT (td ((hr + i) % 12)) (hrs td hr (avS S k) i))))]) ++ (([(x_8, ar g 120 (hg (ssS S)))]) ++ (([(x_9, (.inl (g 2, 120, .inl (ia (stA (hourT (td ((hr + i) % 12)) (hrs td hr (avS S k) i))))) : va_E))]) ++ (([(a_12, (.inl (g 3, 6, .inr (.inr (.inr (.inr (va_up (va_up (va_up (va_up (va_up (va_up (fun _ => none) 0 (some (u_11 0))) 1 (some (u_11 1))) 2 (some (u_11 2))) 3 (some (u_11 3))) 4 (some (u_11 4))) 5 (some (u_11 5))))))) : va_E))]) ++ (([((u_11 0), ar g 120 (ssS S))]) ++ (([((u_11 1), ar g 120 (ssF S))]) ++ (([((u_11 2), ar g 120 (ssW S))]) ++ (([((u_11 3), ar g 120 (kOf (ssO S) (ssP S)))]) ++ (([((u_11 4), ar g 16 (tbl tm bu sr lg (ssT S)))]) ++ (([((u_11 5), ar g 4 (up (up (up (up (fun _ => 0) 0 hr) 1 (ssLo S)) 2 (ssSl S)) 3 (ssFa S)))])))))))))))) (zEq.cons zE1.rf (zEq.cons zE1.rf (zEq.cons zE1.rf (zEq.cons zE1.rf (zEq.cons zE1.rf (zEq.cons zE1.rf (zEq.cons zE1.rf (zEq.cons zE1.rf (zEq.cons (zE1.arr (by intro j h0 h1; exact mix_N _ _ (by omega))) (zEq.cons zE1.rf (zEq.cons (zE1.arr (by intro j h0 h1; exact mix_N _ _ (by omega))) (zEq.cons zE1.rf (zEq.cons zE1.rf (zEq.cons zE1.rf (zEq.cons zE1.rf (zEq.cons zE1.rf (zEq.cons zE1.rf (zEq.cons zE1.rf zEq.nil)))))))))))))))))) ?_
                        refine z_iinc (lv' := [(7, .int (iI (i + 1))), (0, .ref m), (1, .int (iI k)), (2, .int (iI n)), (3, .ref x_7), (4, .ref x_8), (5, .ref x_9), (6, .ref a_12), (8, .int (iI 120))]) 230 7 hC dX2_advise_227 rfl rfl (by decide) rfl ?_
                        refine z_goto 144 hC dX2_advise_230 (by decide) ?_
                        refine z_lv (lv' := [(0, .ref m), (1, .int (iI k)), (2, .int (iI n)), (3, .ref x_7), (4, .ref x_8), (5, .ref x_9), (6, .ref a_12), (7, .int (iI (i + 1)))]) [1, 2, 3, 4, 5, 6, 7, 0] rfl ?_
                        refine z_weq (ws' := (wMo g m b 0 (hr + (i + 1)) tm en (ssLo (hrs td hr S (i + 1))) (ssSl (hrs td hr S (i + 1))) (ssFa (hrs td hr S (i + 1))) (ssS (hrs td hr S (i + 1))) (ssF (hrs td hr S (i + 1))) (ssW (hrs td hr S (i + 1))) (kOf (ssO (hrs td hr S (i + 1))) (ssP (hrs td hr S (i + 1)))) (tbl tm bu (srP sr (i + 1)) lg (ssT (hrs td hr S (i + 1)))) td u_20) ++ (([(x_7, ar g 120 (brA S k (hrs td hr (avS S k) (i + 1))))]) ++ (([(x_8, ar g 120 (hg (ssS S)))]) ++ (([(x_9, (.inl (g 2, 120, .inl (ia (stA (hrs td hr (avS S k) (i + 1))))) : va_E))]) ++ (([(a_12, (.inl (g 3, 6, .inr (.inr (.inr (.inr (va_up (va_up (va_up (va_up (va_up (va_up (fun _ => none) 0 (some (u_11 0))) 1 (some (u_11 1))) 2 (some (u_11 2))) 3 (some (u_11 3))) 4 (some (u_11 4))) 5 (some (u_11 5))))))) : va_E))]) ++ (([((u_11 0), ar g 120 (ssS S))]) ++ (([((u_11 1), ar g 120 (ssF S))]) ++ (([((u_11 2), ar g 120 (ssW S))]) ++ (([((u_11 3), ar g 120 (kOf (ssO S) (ssP S)))]) ++ (([((u_11 4), ar g 16 (tbl tm bu sr lg (ssT S)))]) ++ (([((u_11 5), ar g 4 (up (up (up (up (fun _ => 0) 0 hr) 1 (ssLo S)) 2 (ssSl S)) 3 (ssFa S)))])))))))))))) (zEq.cons (zE1.obj (zfk (zfc (by first | omega | rw [hrs_s td hr S hi.1]) (zfk (zfk (zfc (by first | omega | rw [hrs_s td hr S hi.1]) (zfc (by first | omega | rw [hrs_s td hr S hi.1]) (zfc (by first | omega | rw [hrs_s td hr S hi.1]) (zfk (zfk (zfk (zfk (zfk (zfk (zfk rfl))))))))))))))) (zEq.cons (zE1.arr (by intro j h0 h1; rw [hrs_s td hr S hi.1])) (zEq.cons (zE1.arr (by intro j h0 h1; rw [hrs_s td hr S hi.1])) (zEq.cons (zE1.arr (by intro j h0 h1; rw [hrs_s td hr S hi.1])) (zEq.cons (zE1.arr (by intro j h0 h1; rw [hrs_s td hr S hi.1])) (zEq.cons (zE1.arr (by intro j h0 h1; rw [hrs_s td hr S hi.1]; exact tbl_c (fun _ _ _ => rfl) (fun q _ _ => (if_neg (by omega)).symm) (fun _ _ _ => rfl) (fun _ _ _ => rfl) j h0)) (zEq.cons zE1.rf (zEq.cons zE1.rf (zEq.cons (zE1.arr (by intro j h0 h1; rw [hrs_s td hr (avS S k) hi.1])) (zEq.cons zE1.rf (zEq.cons (zE1.arr (by intro j h0 h1; rw [hrs_s td hr (avS S k) hi.1])) (zEq.cons zE1.rf (zEq.cons zE1.rf (zEq.cons zE1.rf (zEq.cons zE1.rf (zEq.cons zE1.rf (zEq.cons zE1.rf (zEq.cons zE1.rf zEq.nil)))))))))))))))))) ?_
                        exact ih144 (i + 1) u_20 (by omega) (by omega)
                      · skip
                        have p1 := hg_bd hs (c := c) (by omega)
                        have p2 := x1 c (by omega) (by omega)
                        refine z_aload 166 hC 5 dX2_advise_164 rfl rfl ?_
                        refine z_iload 168 hC 8 dX2_advise_166 rfl rfl ?_
                        refine z_aload 170 hC 5 dX2_advise_168 rfl rfl ?_
                        refine z_iload 172 hC 8 dX2_advise_170 rfl rfl ?_
                        refine z_zald (v := (stA (hrs td hr (avS S k) i)) c) 173 10 hC dX2_advise_172 rfl rfl (by decide) (by omega) (mix_at _ _ _) ?_
                        refine z_if_eq 194 176 hC dX2_advise_173 (by decide) rfl (by omega) (fun c_23 => ?_) (fun c_23 => ?_)
                        · skip
                          refine z_iconst 195 hC dX2_advise_194 rfl ?_
                          refine z_zast (ws' := (wMo g m b 0 ((hr + i) + 1) tm en (ssLo (hourT (td ((hr + i) % 12)) (hrs td hr S i))) (ssSl (hourT (td ((hr + i) % 12)) (hrs td hr S i))) (ssFa (hourT (td ((hr + i) % 12)) (hrs td hr S i))) (ssS (hourT (td ((hr + i) % 12)) (hrs td hr S i))) (ssF (hourT (td ((hr + i) % 12)) (hrs td hr S i))) (ssW (hourT (td ((hr + i) % 12)) (hrs td hr S i))) (kOf (ssO (hourT (td ((hr + i) % 12)) (hrs td hr S i))) (ssP (hourT (td ((hr + i) % 12)) (hrs td hr S i)))) (tbl tm bu (fun _ => 20) lg (ssT (hourT (td ((hr + i) % 12)) (hrs td hr S i)))) td u_20) ++ (([(x_7, ar g 120 (mixF (brA S k (hourT (td ((hr + i) % 12)) (hrs td hr (avS S k) i))) (brA S k (hrs td hr (avS S k) i)) c))]) ++ (([(x_8, ar g 120 (hg (ssS S)))]) ++ (([(x_9, (.inl (g 2, 120, .inl (ia (up (mixF (stA (hourT (td ((hr + i) % 12)) (hrs td hr (avS S k) i))) (stA (hrs td hr (avS S k) i)) c) c 0))) : va_E))]) ++ (([(a_12, (.inl (g 3, 6, .inr (.inr (.inr (.inr (va_up (va_up (va_up (va_up (va_up (va_up (fun _ => none) 0 (some (u_11 0))) 1 (some (u_11 1))) 2 (some (u_11 2))) 3 (some (u_11 3))) 4 (some (u_11 4))) 5 (some (u_11 5))))))) : va_E))]) ++ (([((u_11 0), ar g 120 (ssS S))]) ++ (([((u_11 1), ar g 120 (ssF S))]) ++ (([((u_11 2), ar g 120 (ssW S))]) ++ (([((u_11 3), ar g 120 (kOf (ssO S) (ssP S)))]) ++ (([((u_11 4), ar g 16 (tbl tm bu sr lg (ssT S)))]) ++ (([((u_11 5), ar g 4 (up (up (up (up (fun _ => 0) 0 hr) 1 (ssLo S)) 2 (ssSl S)) 3 (ssFa S)))])))))))))))) 196 10 hC dX2_advise_195 rfl rfl (by decide) (by omega) (by omega) rfl ?_
                          refine z_aloadn 197 hC 3 dX2_advise_196 rfl rfl rfl ?_
                          refine z_iload 199 hC 8 dX2_advise_197 rfl rfl ?_
                          refine z_dup2 200 hC dX2_advise_199 rfl rfl rfl ?_
                          refine z_iald 201 8 hC dX2_advise_200 rfl rfl (by decide) (by omega) ?_
                          refine z_aload 203 hC 5 dX2_advise_201 rfl rfl ?_
                          refine z_iload 205 hC 8 dX2_advise_203 rfl rfl ?_
                          refine z_zald (v := 0) 206 10 hC dX2_advise_205 rfl rfl (by decide) (by omega) (up_same _ _ _) ?_
                          refine z_if_eq 218 209 hC dX2_advise_206 (by decide) rfl (by omega) (fun c_24 => ?_) (fun c_24 => ?_)
                          · skip
                            refine z_iconst 219 hC dX2_advise_218 rfl ?_
                            refine z_iadd 220 hC dX2_advise_219 rfl ?_
                            refine z_iast (ws' := (wMo g m b 0 ((hr + i) + 1) tm en (ssLo (hourT (td ((hr + i) % 12)) (hrs td hr S i))) (ssSl (hourT (td ((hr + i) % 12)) (hrs td hr S i))) (ssFa (hourT (td ((hr + i) % 12)) (hrs td hr S i))) (ssS (hourT (td ((hr + i) % 12)) (hrs td hr S i))) (ssF (hourT (td ((hr + i) % 12)) (hrs td hr S i))) (ssW (hourT (td ((hr + i) % 12)) (hrs td hr S i))) (kOf (ssO (hourT (td ((hr + i) % 12)) (hrs td hr S i))) (ssP (hourT (td ((hr + i) % 12)) (hrs td hr S i)))) (tbl tm bu (fun _ => 20) lg (ssT (hourT (td ((hr + i) % 12)) (hrs td hr S i)))) td u_20) ++ (([(x_7, ar g 120 (up (mixF (brA S k (hourT (td ((hr + i) % 12)) (hrs td hr (avS S k) i))) (brA S k (hrs td hr (avS S k) i)) c) c (((mixF (brA S k (hourT (td ((hr + i) % 12)) (hrs td hr (avS S k) i))) (brA S k (hrs td hr (avS S k) i)) c) c) + 0)))]) ++ (([(x_8, ar g 120 (hg (ssS S)))]) ++ (([(x_9, (.inl (g 2, 120, .inl (ia (up (mixF (stA (hourT (td ((hr + i) % 12)) (hrs td hr (avS S k) i))) (stA (hrs td hr (avS S k) i)) c) c 0))) : va_E))]) ++ (([(a_12, (.inl (g 3, 6, .inr (.inr (.inr (.inr (va_up (va_up (va_up (va_up (va_up (va_up (fun _ => none) 0 (some (u_11 0))) 1 (some (u_11 1))) 2 (some (u_11 2))) 3 (some (u_11 3))) 4 (some (u_11 4))) 5 (some (u_11 5))))))) : va_E))]) ++ (([((u_11 0), ar g 120 (ssS S))]) ++ (([((u_11 1), ar g 120 (ssF S))]) ++ (([((u_11 2), ar g 120 (ssW S))]) ++ (([((u_11 3), ar g 120 (kOf (ssO S) (ssP S)))]) ++ (([((u_11 4), ar g 16 (tbl tm bu sr lg (ssT S)))]) ++ (([((u_11 5), ar g 4 (up (up (up (up (fun _ => 0) 0 hr) 1 (ssLo S)) 2 (ssSl S)) 3 (ssFa S)))])))))))))))) 221 8 hC dX2_advise_220 rfl rfl (by decide) (by omega) rfl ?_
                            refine z_iinc (lv' := [(8, .int (iI (c + 1))), (0, .ref m), (1, .int (iI k)), (2, .int (iI n)), (3, .ref x_7), (4, .ref x_8), (5, .ref x_9), (6, .ref a_12), (7, .int (iI i))]) 224 8 hC dX2_advise_221 rfl rfl (by decide) rfl ?_
                            refine z_goto 157 hC dX2_advise_224 (by decide) ?_
                            refine z_lv (lv' := [(0, .ref m), (1, .int (iI k)), (2, .int (iI n)), (3, .ref x_7), (4, .ref x_8), (5, .ref x_9), (6, .ref a_12), (7, .int (iI i)), (8, .int (iI (c + 1)))]) [1, 2, 3, 4, 5, 6, 7, 8, 0] rfl ?_
                            refine z_weq (ws' := (wMo g m b 0 ((hr + i) + 1) tm en (ssLo (hourT (td ((hr + i) % 12)) (hrs td hr S i))) (ssSl (hourT (td ((hr + i) % 12)) (hrs td hr S i))) (ssFa (hourT (td ((hr + i) % 12)) (hrs td hr S i))) (ssS (hourT (td ((hr + i) % 12)) (hrs td hr S i))) (ssF (hourT (td ((hr + i) % 12)) (hrs td hr S i))) (ssW (hourT (td ((hr + i) % 12)) (hrs td hr S i))) (kOf (ssO (hourT (td ((hr + i) % 12)) (hrs td hr S i))) (ssP (hourT (td ((hr + i) % 12)) (hrs td hr S i)))) (tbl tm bu (fun _ => 20) lg (ssT (hourT (td ((hr + i) % 12)) (hrs td hr S i)))) td u_20) ++ (([(x_7, ar g 120 (mixF (brA S k (hourT (td ((hr + i) % 12)) (hrs td hr (avS S k) i))) (brA S k (hrs td hr (avS S k) i)) (c + 1)))]) ++ (([(x_8, ar g 120 (hg (ssS S)))]) ++ (([(x_9, (.inl (g 2, 120, .inl (ia (mixF (stA (hourT (td ((hr + i) % 12)) (hrs td hr (avS S k) i))) (stA (hrs td hr (avS S k) i)) (c + 1)))) : va_E))]) ++ (([(a_12, (.inl (g 3, 6, .inr (.inr (.inr (.inr (va_up (va_up (va_up (va_up (va_up (va_up (fun _ => none) 0 (some (u_11 0))) 1 (some (u_11 1))) 2 (some (u_11 2))) 3 (some (u_11 3))) 4 (some (u_11 4))) 5 (some (u_11 5))))))) : va_E))]) ++ (([((u_11 0), ar g 120 (ssS S))]) ++ (([((u_11 1), ar g 120 (ssF S))]) ++ (([((u_11 2), ar g 120 (ssW S))]) ++ (([((u_11 3), ar g 120 (kOf (ssO S) (ssP S)))]) ++ (([((u_11 4), ar g 16 (tbl tm bu sr lg (ssT S)))]) ++ (([((u_11 5), ar g 4 (up (up (up (up (fun _ => 0) 0 hr) 1 (ssLo S)) 2 (ssSl S)) 3 (ssFa S)))])))))))))))) (zEq.cons zE1.rf (zEq.cons zE1.rf (zEq.cons zE1.rf (zEq.cons zE1.rf (zEq.cons zE1.rf (zEq.cons zE1.rf (zEq.cons zE1.rf (zEq.cons zE1.rf (zEq.cons (zE1.arr (by intro j h0 h1; exact mix_s (by rw [mix_at, AV_br qA (by omega), AV_st qA (by omega)]; omega) j)) (zEq.cons zE1.rf (zEq.cons (zE1.arr (by intro j h0 h1; exact mix_s (by rw [AV_st qA (by omega)]; omega) j)) (zEq.cons zE1.rf (zEq.cons zE1.rf (zEq.cons zE1.rf (zEq.cons zE1.rf (zEq.cons zE1.rf (zEq.cons zE1.rf (zEq.cons zE1.rf zEq.nil)))))))))))))))))) ?_
                            exact ih157 (c + 1) (by omega) (by omega)
                          · exfalso; omega
                        · skip
                          refine z_aloadn 177 hC 0 dX2_advise_176 rfl rfl rfl ?_
                          refine z_iload 179 hC 8 dX2_advise_177 rfl rfl ?_
                          refine z_aload 181 hC 4 dX2_advise_179 rfl rfl ?_
                          refine z_iload 183 hC 8 dX2_advise_181 rfl rfl ?_
                          refine z_iald 184 9 hC dX2_advise_183 rfl rfl (by decide) (by omega) ?_
                          refine z_calli (wr := [(x_7, ar g 120 (mixF (brA S k (hourT (td ((hr + i) % 12)) (hrs td hr (avS S k) i))) (brA S k (hrs td hr (avS S k) i)) c)), (x_8, ar g 120 (hg (ssS S))), (x_9, (.inl (g 2, 120, .inl (ia (mixF (stA (hourT (td ((hr + i) % 12)) (hrs td hr (avS S k) i))) (stA (hrs td hr (avS S k) i)) c))) : va_E)), (a_12, (.inl (g 3, 6, .inr (.inr (.inr (.inr (va_up (va_up (va_up (va_up (va_up (va_up (fun _ => none) 0 (some (u_11 0))) 1 (some (u_11 1))) 2 (some (u_11 2))) 3 (some (u_11 3))) 4 (some (u_11 4))) 5 (some (u_11 5))))))) : va_E)), ((u_11 0), ar g 120 (ssS S)), ((u_11 1), ar g 120 (ssF S)), ((u_11 2), ar g 120 (ssW S)), ((u_11 3), ar g 120 (kOf (ssO S) (ssP S))), ((u_11 4), ar g 16 (tbl tm bu sr lg (ssT S))), ((u_11 5), ar g 4 (up (up (up (up (fun _ => 0) 0 hr) 1 (ssLo S)) 2 (ssSl S)) 3 (ssFa S)))]) (w2 := fun _ => (wMo g m b 0 ((hr + i) + 1) tm en (ssLo (hourT (td ((hr + i) % 12)) (hrs td hr S i))) (ssSl (hourT (td ((hr + i) % 12)) (hrs td hr S i))) (ssFa (hourT (td ((hr + i) % 12)) (hrs td hr S i))) (ssS (hourT (td ((hr + i) % 12)) (hrs td hr S i))) (ssF (hourT (td ((hr + i) % 12)) (hrs td hr S i))) (ssW (hourT (td ((hr + i) % 12)) (hrs td hr S i))) (kOf (ssO (hourT (td ((hr + i) % 12)) (hrs td hr S i))) (ssP (hourT (td ((hr + i) % 12)) (hrs td hr S i)))) (tbl tm bu (fun _ => 20) lg (ssT (hourT (td ((hr + i) % 12)) (hrs td hr S i)))) td u_20) ++ (([(x_7, ar g 120 (mixF (brA S k (hourT (td ((hr + i) % 12)) (hrs td hr (avS S k) i))) (brA S k (hrs td hr (avS S k) i)) c))]) ++ (([(x_8, ar g 120 (hg (ssS S)))]) ++ (([(x_9, (.inl (g 2, 120, .inl (ia (mixF (stA (hourT (td ((hr + i) % 12)) (hrs td hr (avS S k) i))) (stA (hrs td hr (avS S k) i)) c))) : va_E))]) ++ (([(a_12, (.inl (g 3, 6, .inr (.inr (.inr (.inr (va_up (va_up (va_up (va_up (va_up (va_up (fun _ => none) 0 (some (u_11 0))) 1 (some (u_11 1))) 2 (some (u_11 2))) 3 (some (u_11 3))) 4 (some (u_11 4))) 5 (some (u_11 5))))))) : va_E))]) ++ (([((u_11 0), ar g 120 (ssS S))]) ++ (([((u_11 1), ar g 120 (ssF S))]) ++ (([((u_11 2), ar g 120 (ssW S))]) ++ (([((u_11 3), ar g 120 (kOf (ssO S) (ssP S)))]) ++ (([((u_11 4), ar g 16 (tbl tm bu sr lg (ssT S)))]) ++ (([((u_11 5), ar g 4 (up (up (up (up (fun _ => 0) 0 hr) 1 (ssLo S)) 2 (ssSl S)) 3 (ssFa S)))])))))))))))) 187 hC [0, 1, 2, 3, 4, 5, 6, 7] [8, 9, 10, 11, 12, 13, 14, 15, 16, 17] [10, 11, 12, 13, 14, 15, 16, 17, 0, 1, 2, 3, 4, 5, 6, 7, 8, 9] (z_runV (nA := 2) hC hN (c_X2_falls l D g m b 0 ((hr + i) + 1) tm en (ssLo (hourT (td ((hr + i) % 12)) (hrs td hr S i))) (ssSl (hourT (td ((hr + i) % 12)) (hrs td hr S i))) (ssFa (hourT (td ((hr + i) % 12)) (hrs td hr S i))) (ssS (hourT (td ((hr + i) % 12)) (hrs td hr S i))) (ssF (hourT (td ((hr + i) % 12)) (hrs td hr S i))) (ssW (hourT (td ((hr + i) % 12)) (hrs td hr S i))) (kOf (ssO (hourT (td ((hr + i) % 12)) (hrs td hr S i))) (ssP (hourT (td ((hr + i) % 12)) (hrs td hr S i)))) (tbl tm bu (fun _ => 20) lg (ssT (hourT (td ((hr + i) % 12)) (hrs td hr S i)))) td u_20 c ((hg (ssS S)) c) x1 x3 (by omega) (by omega)) [0, 1, 2, 3, 4, 5, 6, 7] rfl (by decide) gX2_advise_X2_falls (by decide +kernel) rfl rfl rfl ⟨by decide, by decide⟩ rfl rfl (nle rfl) dX2_advise_184 ⟨by decide, by decide⟩ 0 rfl rfl) rfl rfl (by decide) (by decide) (fun _ => rfl) (by decide) rfl (k2 := 10) (n2 := 866) rfl rfl (fun z_25 _ p_26 => ?_)
                          subst p_26
                          refine z_if_ne 194 190 hC dX2_advise_187 (by decide) rfl (by omega) (fun c_27 => ?_) (fun c_27 => ?_)
                          · skip
                            refine z_iconst 195 hC dX2_advise_194 rfl ?_
                            refine z_zast (ws' := (wMo g m b 0 ((hr + i) + 1) tm en (ssLo (hourT (td ((hr + i) % 12)) (hrs td hr S i))) (ssSl (hourT (td ((hr + i) % 12)) (hrs td hr S i))) (ssFa (hourT (td ((hr + i) % 12)) (hrs td hr S i))) (ssS (hourT (td ((hr + i) % 12)) (hrs td hr S i))) (ssF (hourT (td ((hr + i) % 12)) (hrs td hr S i))) (ssW (hourT (td ((hr + i) % 12)) (hrs td hr S i))) (kOf (ssO (hourT (td ((hr + i) % 12)) (hrs td hr S i))) (ssP (hourT (td ((hr + i) % 12)) (hrs td hr S i)))) (tbl tm bu (fun _ => 20) lg (ssT (hourT (td ((hr + i) % 12)) (hrs td hr S i)))) td u_20) ++ (([(x_7, ar g 120 (mixF (brA S k (hourT (td ((hr + i) % 12)) (hrs td hr (avS S k) i))) (brA S k (hrs td hr (avS S k) i)) c))]) ++ (([(x_8, ar g 120 (hg (ssS S)))]) ++ (([(x_9, (.inl (g 2, 120, .inl (ia (up (mixF (stA (hourT (td ((hr + i) % 12)) (hrs td hr (avS S k) i))) (stA (hrs td hr (avS S k) i)) c) c 0))) : va_E))]) ++ (([(a_12, (.inl (g 3, 6, .inr (.inr (.inr (.inr (va_up (va_up (va_up (va_up (va_up (va_up (fun _ => none) 0 (some (u_11 0))) 1 (some (u_11 1))) 2 (some (u_11 2))) 3 (some (u_11 3))) 4 (some (u_11 4))) 5 (some (u_11 5))))))) : va_E))]) ++ (([((u_11 0), ar g 120 (ssS S))]) ++ (([((u_11 1), ar g 120 (ssF S))]) ++ (([((u_11 2), ar g 120 (ssW S))]) ++ (([((u_11 3), ar g 120 (kOf (ssO S) (ssP S)))]) ++ (([((u_11 4), ar g 16 (tbl tm bu sr lg (ssT S)))]) ++ (([((u_11 5), ar g 4 (up (up (up (up (fun _ => 0) 0 hr) 1 (ssLo S)) 2 (ssSl S)) 3 (ssFa S)))])))))))))))) 196 10 hC dX2_advise_195 rfl rfl (by decide) (by omega) (by omega) rfl ?_
                            refine z_aloadn 197 hC 3 dX2_advise_196 rfl rfl rfl ?_
                            refine z_iload 199 hC 8 dX2_advise_197 rfl rfl ?_
                            refine z_dup2 200 hC dX2_advise_199 rfl rfl rfl ?_
                            refine z_iald 201 8 hC dX2_advise_200 rfl rfl (by decide) (by omega) ?_
                            refine z_aload 203 hC 5 dX2_advise_201 rfl rfl ?_
                            refine z_iload 205 hC 8 dX2_advise_203 rfl rfl ?_
                            refine z_zald (v := 0) 206 10 hC dX2_advise_205 rfl rfl (by decide) (by omega) (up_same _ _ _) ?_
                            refine z_if_eq 218 209 hC dX2_advise_206 (by decide) rfl (by omega) (fun c_28 => ?_) (fun c_28 => ?_)
                            · skip
                              refine z_iconst 219 hC dX2_advise_218 rfl ?_
                              refine z_iadd 220 hC dX2_advise_219 rfl ?_
                              refine z_iast (ws' := (wMo g m b 0 ((hr + i) + 1) tm en (ssLo (hourT (td ((hr + i) % 12)) (hrs td hr S i))) (ssSl (hourT (td ((hr + i) % 12)) (hrs td hr S i))) (ssFa (hourT (td ((hr + i) % 12)) (hrs td hr S i))) (ssS (hourT (td ((hr + i) % 12)) (hrs td hr S i))) (ssF (hourT (td ((hr + i) % 12)) (hrs td hr S i))) (ssW (hourT (td ((hr + i) % 12)) (hrs td hr S i))) (kOf (ssO (hourT (td ((hr + i) % 12)) (hrs td hr S i))) (ssP (hourT (td ((hr + i) % 12)) (hrs td hr S i)))) (tbl tm bu (fun _ => 20) lg (ssT (hourT (td ((hr + i) % 12)) (hrs td hr S i)))) td u_20) ++ (([(x_7, ar g 120 (up (mixF (brA S k (hourT (td ((hr + i) % 12)) (hrs td hr (avS S k) i))) (brA S k (hrs td hr (avS S k) i)) c) c (((mixF (brA S k (hourT (td ((hr + i) % 12)) (hrs td hr (avS S k) i))) (brA S k (hrs td hr (avS S k) i)) c) c) + 0)))]) ++ (([(x_8, ar g 120 (hg (ssS S)))]) ++ (([(x_9, (.inl (g 2, 120, .inl (ia (up (mixF (stA (hourT (td ((hr + i) % 12)) (hrs td hr (avS S k) i))) (stA (hrs td hr (avS S k) i)) c) c 0))) : va_E))]) ++ (([(a_12, (.inl (g 3, 6, .inr (.inr (.inr (.inr (va_up (va_up (va_up (va_up (va_up (va_up (fun _ => none) 0 (some (u_11 0))) 1 (some (u_11 1))) 2 (some (u_11 2))) 3 (some (u_11 3))) 4 (some (u_11 4))) 5 (some (u_11 5))))))) : va_E))]) ++ (([((u_11 0), ar g 120 (ssS S))]) ++ (([((u_11 1), ar g 120 (ssF S))]) ++ (([((u_11 2), ar g 120 (ssW S))]) ++ (([((u_11 3), ar g 120 (kOf (ssO S) (ssP S)))]) ++ (([((u_11 4), ar g 16 (tbl tm bu sr lg (ssT S)))]) ++ (([((u_11 5), ar g 4 (up (up (up (up (fun _ => 0) 0 hr) 1 (ssLo S)) 2 (ssSl S)) 3 (ssFa S)))])))))))))))) 221 8 hC dX2_advise_220 rfl rfl (by decide) (by omega) rfl ?_
                              refine z_iinc (lv' := [(8, .int (iI (c + 1))), (0, .ref m), (1, .int (iI k)), (2, .int (iI n)), (3, .ref x_7), (4, .ref x_8), (5, .ref x_9), (6, .ref a_12), (7, .int (iI i))]) 224 8 hC dX2_advise_221 rfl rfl (by decide) rfl ?_
                              refine z_goto 157 hC dX2_advise_224 (by decide) ?_
                              refine z_lv (lv' := [(0, .ref m), (1, .int (iI k)), (2, .int (iI n)), (3, .ref x_7), (4, .ref x_8), (5, .ref x_9), (6, .ref a_12), (7, .int (iI i)), (8, .int (iI (c + 1)))]) [1, 2, 3, 4, 5, 6, 7, 8, 0] rfl ?_
                              refine z_weq (ws' := (wMo g m b 0 ((hr + i) + 1) tm en (ssLo (hourT (td ((hr + i) % 12)) (hrs td hr S i))) (ssSl (hourT (td ((hr + i) % 12)) (hrs td hr S i))) (ssFa (hourT (td ((hr + i) % 12)) (hrs td hr S i))) (ssS (hourT (td ((hr + i) % 12)) (hrs td hr S i))) (ssF (hourT (td ((hr + i) % 12)) (hrs td hr S i))) (ssW (hourT (td ((hr + i) % 12)) (hrs td hr S i))) (kOf (ssO (hourT (td ((hr + i) % 12)) (hrs td hr S i))) (ssP (hourT (td ((hr + i) % 12)) (hrs td hr S i)))) (tbl tm bu (fun _ => 20) lg (ssT (hourT (td ((hr + i) % 12)) (hrs td hr S i)))) td u_20) ++ (([(x_7, ar g 120 (mixF (brA S k (hourT (td ((hr + i) % 12)) (hrs td hr (avS S k) i))) (brA S k (hrs td hr (avS S k) i)) (c + 1)))]) ++ (([(x_8, ar g 120 (hg (ssS S)))]) ++ (([(x_9, (.inl (g 2, 120, .inl (ia (mixF (stA (hourT (td ((hr + i) % 12)) (hrs td hr (avS S k) i))) (stA (hrs td hr (avS S k) i)) (c + 1)))) : va_E))]) ++ (([(a_12, (.inl (g 3, 6, .inr (.inr (.inr (.inr (va_up (va_up (va_up (va_up (va_up (va_up (fun _ => none) 0 (some (u_11 0))) 1 (some (u_11 1))) 2 (some (u_11 2))) 3 (some (u_11 3))) 4 (some (u_11 4))) 5 (some (u_11 5))))))) : va_E))]) ++ (([((u_11 0), ar g 120 (ssS S))]) ++ (([((u_11 1), ar g 120 (ssF S))]) ++ (([((u_11 2), ar g 120 (ssW S))]) ++ (([((u_11 3), ar g 120 (kOf (ssO S) (ssP S)))]) ++ (([((u_11 4), ar g 16 (tbl tm bu sr lg (ssT S)))]) ++ (([((u_11 5), ar g 4 (up (up (up (up (fun _ => 0) 0 hr) 1 (ssLo S)) 2 (ssSl S)) 3 (ssFa S)))])))))))))))) (zEq.cons zE1.rf (zEq.cons zE1.rf (zEq.cons zE1.rf (zEq.cons zE1.rf (zEq.cons zE1.rf (zEq.cons zE1.rf (zEq.cons zE1.rf (zEq.cons zE1.rf (zEq.cons (zE1.arr (by intro j h0 h1; exact mix_s (by rw [mix_at, AV_br qA (by omega), AV_st qA (by omega)]; omega) j)) (zEq.cons zE1.rf (zEq.cons (zE1.arr (by intro j h0 h1; exact mix_s (by rw [AV_st qA (by omega)]; omega) j)) (zEq.cons zE1.rf (zEq.cons zE1.rf (zEq.cons zE1.rf (zEq.cons zE1.rf (zEq.cons zE1.rf (zEq.cons zE1.rf (zEq.cons zE1.rf zEq.nil)))))))))))))))))) ?_
                              exact ih157 (c + 1) (by omega) (by omega)
                            · exfalso; omega
                          · skip
                            refine z_iconst 191 hC dX2_advise_190 rfl ?_
                            refine z_goto 195 hC dX2_advise_191 (by decide) ?_
                            refine z_zast (ws' := (wMo g m b 0 ((hr + i) + 1) tm en (ssLo (hourT (td ((hr + i) % 12)) (hrs td hr S i))) (ssSl (hourT (td ((hr + i) % 12)) (hrs td hr S i))) (ssFa (hourT (td ((hr + i) % 12)) (hrs td hr S i))) (ssS (hourT (td ((hr + i) % 12)) (hrs td hr S i))) (ssF (hourT (td ((hr + i) % 12)) (hrs td hr S i))) (ssW (hourT (td ((hr + i) % 12)) (hrs td hr S i))) (kOf (ssO (hourT (td ((hr + i) % 12)) (hrs td hr S i))) (ssP (hourT (td ((hr + i) % 12)) (hrs td hr S i)))) (tbl tm bu (fun _ => 20) lg (ssT (hourT (td ((hr + i) % 12)) (hrs td hr S i)))) td u_20) ++ (([(x_7, ar g 120 (mixF (brA S k (hourT (td ((hr + i) % 12)) (hrs td hr (avS S k) i))) (brA S k (hrs td hr (avS S k) i)) c))]) ++ (([(x_8, ar g 120 (hg (ssS S)))]) ++ (([(x_9, (.inl (g 2, 120, .inl (ia (up (mixF (stA (hourT (td ((hr + i) % 12)) (hrs td hr (avS S k) i))) (stA (hrs td hr (avS S k) i)) c) c 1))) : va_E))]) ++ (([(a_12, (.inl (g 3, 6, .inr (.inr (.inr (.inr (va_up (va_up (va_up (va_up (va_up (va_up (fun _ => none) 0 (some (u_11 0))) 1 (some (u_11 1))) 2 (some (u_11 2))) 3 (some (u_11 3))) 4 (some (u_11 4))) 5 (some (u_11 5))))))) : va_E))]) ++ (([((u_11 0), ar g 120 (ssS S))]) ++ (([((u_11 1), ar g 120 (ssF S))]) ++ (([((u_11 2), ar g 120 (ssW S))]) ++ (([((u_11 3), ar g 120 (kOf (ssO S) (ssP S)))]) ++ (([((u_11 4), ar g 16 (tbl tm bu sr lg (ssT S)))]) ++ (([((u_11 5), ar g 4 (up (up (up (up (fun _ => 0) 0 hr) 1 (ssLo S)) 2 (ssSl S)) 3 (ssFa S)))])))))))))))) 196 10 hC dX2_advise_195 rfl rfl (by decide) (by omega) (by omega) rfl ?_
                            refine z_aloadn 197 hC 3 dX2_advise_196 rfl rfl rfl ?_
                            refine z_iload 199 hC 8 dX2_advise_197 rfl rfl ?_
                            refine z_dup2 200 hC dX2_advise_199 rfl rfl rfl ?_
                            refine z_iald 201 8 hC dX2_advise_200 rfl rfl (by decide) (by omega) ?_
                            refine z_aload 203 hC 5 dX2_advise_201 rfl rfl ?_
                            refine z_iload 205 hC 8 dX2_advise_203 rfl rfl ?_
                            refine z_zald (v := 1) 206 10 hC dX2_advise_205 rfl rfl (by decide) (by omega) (up_same _ _ _) ?_
                            refine z_if_eq 218 209 hC dX2_advise_206 (by decide) rfl (by omega) (fun c_29 => ?_) (fun c_29 => ?_)
                            · exfalso; omega
                            · skip
                              refine z_aloadn 210 hC 0 dX2_advise_209 rfl rfl rfl ?_
                              refine z_iload 212 hC 8 dX2_advise_210 rfl rfl ?_
                              refine z_calli (wr := [(x_7, ar g 120 (mixF (brA S k (hourT (td ((hr + i) % 12)) (hrs td hr (avS S k) i))) (brA S k (hrs td hr (avS S k) i)) c)), (x_8, ar g 120 (hg (ssS S))), (x_9, (.inl (g 2, 120, .inl (ia (up (mixF (stA (hourT (td ((hr + i) % 12)) (hrs td hr (avS S k) i))) (stA (hrs td hr (avS S k) i)) c) c 1))) : va_E)), (a_12, (.inl (g 3, 6, .inr (.inr (.inr (.inr (va_up (va_up (va_up (va_up (va_up (va_up (fun _ => none) 0 (some (u_11 0))) 1 (some (u_11 1))) 2 (some (u_11 2))) 3 (some (u_11 3))) 4 (some (u_11 4))) 5 (some (u_11 5))))))) : va_E)), ((u_11 0), ar g 120 (ssS S)), ((u_11 1), ar g 120 (ssF S)), ((u_11 2), ar g 120 (ssW S)), ((u_11 3), ar g 120 (kOf (ssO S) (ssP S))), ((u_11 4), ar g 16 (tbl tm bu sr lg (ssT S))), ((u_11 5), ar g 4 (up (up (up (up (fun _ => 0) 0 hr) 1 (ssLo S)) 2 (ssSl S)) 3 (ssFa S)))]) (w2 := fun _ => (wMo g m b 0 ((hr + i) + 1) tm en (ssLo (hourT (td ((hr + i) % 12)) (hrs td hr S i))) (ssSl (hourT (td ((hr + i) % 12)) (hrs td hr S i))) (ssFa (hourT (td ((hr + i) % 12)) (hrs td hr S i))) (ssS (hourT (td ((hr + i) % 12)) (hrs td hr S i))) (ssF (hourT (td ((hr + i) % 12)) (hrs td hr S i))) (ssW (hourT (td ((hr + i) % 12)) (hrs td hr S i))) (kOf (ssO (hourT (td ((hr + i) % 12)) (hrs td hr S i))) (ssP (hourT (td ((hr + i) % 12)) (hrs td hr S i)))) (tbl tm bu (fun _ => 20) lg (ssT (hourT (td ((hr + i) % 12)) (hrs td hr S i)))) td u_20) ++ (([(x_7, ar g 120 (mixF (brA S k (hourT (td ((hr + i) % 12)) (hrs td hr (avS S k) i))) (brA S k (hrs td hr (avS S k) i)) c))]) ++ (([(x_8, ar g 120 (hg (ssS S)))]) ++ (([(x_9, (.inl (g 2, 120, .inl (ia (up (mixF (stA (hourT (td ((hr + i) % 12)) (hrs td hr (avS S k) i))) (stA (hrs td hr (avS S k) i)) c) c 1))) : va_E))]) ++ (([(a_12, (.inl (g 3, 6, .inr (.inr (.inr (.inr (va_up (va_up (va_up (va_up (va_up (va_up (fun _ => none) 0 (some (u_11 0))) 1 (some (u_11 1))) 2 (some (u_11 2))) 3 (some (u_11 3))) 4 (some (u_11 4))) 5 (some (u_11 5))))))) : va_E))]) ++ (([((u_11 0), ar g 120 (ssS S))]) ++ (([((u_11 1), ar g 120 (ssF S))]) ++ (([((u_11 2), ar g 120 (ssW S))]) ++ (([((u_11 3), ar g 120 (kOf (ssO S) (ssP S)))]) ++ (([((u_11 4), ar g 16 (tbl tm bu sr lg (ssT S)))]) ++ (([((u_11 5), ar g 4 (up (up (up (up (fun _ => 0) 0 hr) 1 (ssLo S)) 2 (ssSl S)) 3 (ssFa S)))])))))))))))) 215 hC [0, 1, 2, 3, 4, 5, 6, 7] [8, 9, 10, 11, 12, 13, 14, 15, 16, 17] [10, 11, 12, 13, 14, 15, 16, 17, 0, 1, 2, 3, 4, 5, 6, 7, 8, 9] (z_runV (nA := 1) hC hN (c_X2_brings l D g m b 0 ((hr + i) + 1) tm en (ssLo (hourT (td ((hr + i) % 12)) (hrs td hr S i))) (ssSl (hourT (td ((hr + i) % 12)) (hrs td hr S i))) (ssFa (hourT (td ((hr + i) % 12)) (hrs td hr S i))) (ssS (hourT (td ((hr + i) % 12)) (hrs td hr S i))) (ssF (hourT (td ((hr + i) % 12)) (hrs td hr S i))) (ssW (hourT (td ((hr + i) % 12)) (hrs td hr S i))) (kOf (ssO (hourT (td ((hr + i) % 12)) (hrs td hr S i))) (ssP (hourT (td ((hr + i) % 12)) (hrs td hr S i)))) (tbl tm bu (fun _ => 20) lg (ssT (hourT (td ((hr + i) % 12)) (hrs td hr S i)))) td u_20 c x1 (by omega)) [0, 1, 2, 3, 4, 5, 6, 7] rfl (by decide) gX2_advise_X2_brings (by decide +kernel) rfl rfl rfl ⟨by decide, by decide⟩ rfl rfl (nle rfl) dX2_advise_212 ⟨by decide, by decide⟩ 0 rfl rfl) rfl rfl (by decide) (by decide) (fun _ => rfl) (by decide) rfl (k2 := 10) (n2 := 866) rfl rfl (fun z_30 _ p_31 => ?_)
                              subst p_31
                              refine z_goto 219 hC dX2_advise_215 (by decide) ?_
                              refine z_iadd 220 hC dX2_advise_219 rfl ?_
                              refine z_iast (ws' := (wMo g m b 0 ((hr + i) + 1) tm en (ssLo (hourT (td ((hr + i) % 12)) (hrs td hr S i))) (ssSl (hourT (td ((hr + i) % 12)) (hrs td hr S i))) (ssFa (hourT (td ((hr + i) % 12)) (hrs td hr S i))) (ssS (hourT (td ((hr + i) % 12)) (hrs td hr S i))) (ssF (hourT (td ((hr + i) % 12)) (hrs td hr S i))) (ssW (hourT (td ((hr + i) % 12)) (hrs td hr S i))) (kOf (ssO (hourT (td ((hr + i) % 12)) (hrs td hr S i))) (ssP (hourT (td ((hr + i) % 12)) (hrs td hr S i)))) (tbl tm bu (fun _ => 20) lg (ssT (hourT (td ((hr + i) % 12)) (hrs td hr S i)))) td u_20) ++ (([(x_7, ar g 120 (up (mixF (brA S k (hourT (td ((hr + i) % 12)) (hrs td hr (avS S k) i))) (brA S k (hrs td hr (avS S k) i)) c) c (((mixF (brA S k (hourT (td ((hr + i) % 12)) (hrs td hr (avS S k) i))) (brA S k (hrs td hr (avS S k) i)) c) c) + (1 + (ssS (hourT (td ((hr + i) % 12)) (hrs td hr S i))) c / 5))))]) ++ (([(x_8, ar g 120 (hg (ssS S)))]) ++ (([(x_9, (.inl (g 2, 120, .inl (ia (up (mixF (stA (hourT (td ((hr + i) % 12)) (hrs td hr (avS S k) i))) (stA (hrs td hr (avS S k) i)) c) c 1))) : va_E))]) ++ (([(a_12, (.inl (g 3, 6, .inr (.inr (.inr (.inr (va_up (va_up (va_up (va_up (va_up (va_up (fun _ => none) 0 (some (u_11 0))) 1 (some (u_11 1))) 2 (some (u_11 2))) 3 (some (u_11 3))) 4 (some (u_11 4))) 5 (some (u_11 5))))))) : va_E))]) ++ (([((u_11 0), ar g 120 (ssS S))]) ++ (([((u_11 1), ar g 120 (ssF S))]) ++ (([((u_11 2), ar g 120 (ssW S))]) ++ (([((u_11 3), ar g 120 (kOf (ssO S) (ssP S)))]) ++ (([((u_11 4), ar g 16 (tbl tm bu sr lg (ssT S)))]) ++ (([((u_11 5), ar g 4 (up (up (up (up (fun _ => 0) 0 hr) 1 (ssLo S)) 2 (ssSl S)) 3 (ssFa S)))])))))))))))) 221 8 hC dX2_advise_220 rfl rfl (by decide) (by omega) rfl ?_
                              refine z_iinc (lv' := [(8, .int (iI (c + 1))), (0, .ref m), (1, .int (iI k)), (2, .int (iI n)), (3, .ref x_7), (4, .ref x_8), (5, .ref x_9), (6, .ref a_12), (7, .int (iI i))]) 224 8 hC dX2_advise_221 rfl rfl (by decide) rfl ?_
                              refine z_goto 157 hC dX2_advise_224 (by decide) ?_
                              refine z_lv (lv' := [(0, .ref m), (1, .int (iI k)), (2, .int (iI n)), (3, .ref x_7), (4, .ref x_8), (5, .ref x_9), (6, .ref a_12), (7, .int (iI i)), (8, .int (iI (c + 1)))]) [1, 2, 3, 4, 5, 6, 7, 8, 0] rfl ?_
                              refine z_weq (ws' := (wMo g m b 0 ((hr + i) + 1) tm en (ssLo (hourT (td ((hr + i) % 12)) (hrs td hr S i))) (ssSl (hourT (td ((hr + i) % 12)) (hrs td hr S i))) (ssFa (hourT (td ((hr + i) % 12)) (hrs td hr S i))) (ssS (hourT (td ((hr + i) % 12)) (hrs td hr S i))) (ssF (hourT (td ((hr + i) % 12)) (hrs td hr S i))) (ssW (hourT (td ((hr + i) % 12)) (hrs td hr S i))) (kOf (ssO (hourT (td ((hr + i) % 12)) (hrs td hr S i))) (ssP (hourT (td ((hr + i) % 12)) (hrs td hr S i)))) (tbl tm bu (fun _ => 20) lg (ssT (hourT (td ((hr + i) % 12)) (hrs td hr S i)))) td u_20) ++ (([(x_7, ar g 120 (mixF (brA S k (hourT (td ((hr + i) % 12)) (hrs td hr (avS S k) i))) (brA S k (hrs td hr (avS S k) i)) (c + 1)))]) ++ (([(x_8, ar g 120 (hg (ssS S)))]) ++ (([(x_9, (.inl (g 2, 120, .inl (ia (mixF (stA (hourT (td ((hr + i) % 12)) (hrs td hr (avS S k) i))) (stA (hrs td hr (avS S k) i)) (c + 1)))) : va_E))]) ++ (([(a_12, (.inl (g 3, 6, .inr (.inr (.inr (.inr (va_up (va_up (va_up (va_up (va_up (va_up (fun _ => none) 0 (some (u_11 0))) 1 (some (u_11 1))) 2 (some (u_11 2))) 3 (some (u_11 3))) 4 (some (u_11 4))) 5 (some (u_11 5))))))) : va_E))]) ++ (([((u_11 0), ar g 120 (ssS S))]) ++ (([((u_11 1), ar g 120 (ssF S))]) ++ (([((u_11 2), ar g 120 (ssW S))]) ++ (([((u_11 3), ar g 120 (kOf (ssO S) (ssP S)))]) ++ (([((u_11 4), ar g 16 (tbl tm bu sr lg (ssT S)))]) ++ (([((u_11 5), ar g 4 (up (up (up (up (fun _ => 0) 0 hr) 1 (ssLo S)) 2 (ssSl S)) 3 (ssFa S)))])))))))))))) (zEq.cons zE1.rf (zEq.cons zE1.rf (zEq.cons zE1.rf (zEq.cons zE1.rf (zEq.cons zE1.rf (zEq.cons zE1.rf (zEq.cons zE1.rf (zEq.cons zE1.rf (zEq.cons (zE1.arr (by intro j h0 h1; exact mix_s (by rw [mix_at, AV_br qA (by omega), AV_st qA (by omega)]; omega) j)) (zEq.cons zE1.rf (zEq.cons (zE1.arr (by intro j h0 h1; exact mix_s (by rw [AV_st qA (by omega)]; omega) j)) (zEq.cons zE1.rf (zEq.cons zE1.rf (zEq.cons zE1.rf (zEq.cons zE1.rf (zEq.cons zE1.rf (zEq.cons zE1.rf (zEq.cons zE1.rf zEq.nil)))))))))))))))))) ?_
                              exact ih157 (c + 1) (by omega) (by omega)
                  refine z_lv (lv' := [(0, .ref m), (1, .int (iI k)), (2, .int (iI n)), (3, .ref x_7), (4, .ref x_8), (5, .ref x_9), (6, .ref a_12), (7, .int (iI i)), (8, .int (iI 0))]) [1, 2, 3, 4, 5, 6, 7, 8, 0] rfl ?_
                  refine z_weq (ws' := (wMo g m b 0 ((hr + i) + 1) tm en (ssLo (hourT (td ((hr + i) % 12)) (hrs td hr S i))) (ssSl (hourT (td ((hr + i) % 12)) (hrs td hr S i))) (ssFa (hourT (td ((hr + i) % 12)) (hrs td hr S i))) (ssS (hourT (td ((hr + i) % 12)) (hrs td hr S i))) (ssF (hourT (td ((hr + i) % 12)) (hrs td hr S i))) (ssW (hourT (td ((hr + i) % 12)) (hrs td hr S i))) (kOf (ssO (hourT (td ((hr + i) % 12)) (hrs td hr S i))) (ssP (hourT (td ((hr + i) % 12)) (hrs td hr S i)))) (tbl tm bu (fun _ => 20) lg (ssT (hourT (td ((hr + i) % 12)) (hrs td hr S i)))) td u_20) ++ (([(x_7, ar g 120 (mixF (brA S k (hourT (td ((hr + i) % 12)) (hrs td hr (avS S k) i))) (brA S k (hrs td hr (avS S k) i)) 0))]) ++ (([(x_8, ar g 120 (hg (ssS S)))]) ++ (([(x_9, (.inl (g 2, 120, .inl (ia (mixF (stA (hourT (td ((hr + i) % 12)) (hrs td hr (avS S k) i))) (stA (hrs td hr (avS S k) i)) 0))) : va_E))]) ++ (([(a_12, (.inl (g 3, 6, .inr (.inr (.inr (.inr (va_up (va_up (va_up (va_up (va_up (va_up (fun _ => none) 0 (some (u_11 0))) 1 (some (u_11 1))) 2 (some (u_11 2))) 3 (some (u_11 3))) 4 (some (u_11 4))) 5 (some (u_11 5))))))) : va_E))]) ++ (([((u_11 0), ar g 120 (ssS S))]) ++ (([((u_11 1), ar g 120 (ssF S))]) ++ (([((u_11 2), ar g 120 (ssW S))]) ++ (([((u_11 3), ar g 120 (kOf (ssO S) (ssP S)))]) ++ (([((u_11 4), ar g 16 (tbl tm bu sr lg (ssT S)))]) ++ (([((u_11 5), ar g 4 (up (up (up (up (fun _ => 0) 0 hr) 1 (ssLo S)) 2 (ssSl S)) 3 (ssFa S)))])))))))))))) (zEq.cons zE1.rf (zEq.cons zE1.rf (zEq.cons zE1.rf (zEq.cons zE1.rf (zEq.cons zE1.rf (zEq.cons zE1.rf (zEq.cons zE1.rf (zEq.cons zE1.rf (zEq.cons (zE1.arr (by intro j h0 h1; exact mix_0 _ _ h0)) (zEq.cons zE1.rf (zEq.cons (zE1.arr (by intro j h0 h1; exact mix_0 _ _ h0)) (zEq.cons zE1.rf (zEq.cons zE1.rf (zEq.cons zE1.rf (zEq.cons zE1.rf (zEq.cons zE1.rf (zEq.cons zE1.rf (zEq.cons zE1.rf zEq.nil)))))))))))))))))) ?_
                  exact loop157 ((120 - 0 + 1 : Int).toNat) 0 (by omega) (by omega)
            refine z_lv (lv' := [(0, .ref m), (1, .int (iI k)), (2, .int (iI n)), (3, .ref x_7), (4, .ref x_8), (5, .ref x_9), (6, .ref a_12), (7, .int (iI 0))]) [2, 3, 4, 5, 6, 7, 1, 0] rfl ?_
            refine z_weq (ws' := (wMo g m b 0 (hr + 0) tm en (ssLo (hrs td hr S 0)) (ssSl (hrs td hr S 0)) (ssFa (hrs td hr S 0)) (ssS (hrs td hr S 0)) (ssF (hrs td hr S 0)) (ssW (hrs td hr S 0)) (kOf (ssO (hrs td hr S 0)) (ssP (hrs td hr S 0))) (tbl tm bu (srP sr 0) lg (ssT (hrs td hr S 0))) td ov) ++ (([(x_7, ar g 120 (brA S k (hrs td hr (avS S k) 0)))]) ++ (([(x_8, ar g 120 (hg (ssS S)))]) ++ (([(x_9, (.inl (g 2, 120, .inl (ia (stA (hrs td hr (avS S k) 0)))) : va_E))]) ++ (([(a_12, (.inl (g 3, 6, .inr (.inr (.inr (.inr (va_up (va_up (va_up (va_up (va_up (va_up (fun _ => none) 0 (some (u_11 0))) 1 (some (u_11 1))) 2 (some (u_11 2))) 3 (some (u_11 3))) 4 (some (u_11 4))) 5 (some (u_11 5))))))) : va_E))]) ++ (([((u_11 0), ar g 120 (ssS S))]) ++ (([((u_11 1), ar g 120 (ssF S))]) ++ (([((u_11 2), ar g 120 (ssW S))]) ++ (([((u_11 3), ar g 120 (kOf (ssO S) (ssP S)))]) ++ (([((u_11 4), ar g 16 (tbl tm bu sr lg (ssT S)))]) ++ (([((u_11 5), ar g 4 (up (up (up (up (fun _ => 0) 0 hr) 1 (ssLo S)) 2 (ssSl S)) 3 (ssFa S)))])))))))))))) (zEq.cons (zE1.obj (zfk (zfc (by first | rfl | omega) (zfk (zfk (zfc (by first | rfl | omega) (zfc (by first | rfl | omega) (zfc (by first | rfl | omega) (zfk (zfk (zfk (zfk (zfk (zfk (zfk rfl))))))))))))))) (zEq.cons (zE1.arr (by intro j h0 h1; rfl)) (zEq.cons (zE1.arr (by intro j h0 h1; rfl)) (zEq.cons (zE1.arr (by intro j h0 h1; rfl)) (zEq.cons (zE1.arr (by intro j h0 h1; rfl)) (zEq.cons (zE1.arr (by intro j h0 h1; rfl)) (zEq.cons zE1.rf (zEq.cons zE1.rf (zEq.cons (zE1.arr (by intro j h0 h1; rfl)) (zEq.cons zE1.rf (zEq.cons (zE1.arr (by intro j h0 h1; rfl)) (zEq.cons zE1.rf (zEq.cons zE1.rf (zEq.cons zE1.rf (zEq.cons zE1.rf (zEq.cons zE1.rf (zEq.cons zE1.rf (zEq.cons zE1.rf zEq.nil)))))))))))))))))) ?_
            exact loop144 ((n - 0 + 1 : Int).toNat) 0 ov (by omega) (by omega)
          · skip
            refine z_aload 64 hC 5 dX2_advise_62 rfl rfl ?_
            refine z_iload 66 hC 6 dX2_advise_64 rfl rfl ?_
            refine z_iload 68 hC 6 dX2_advise_66 rfl rfl ?_
            refine z_calli (wr := [(m, .inr (2, [.int (iI 0), .int (iI hr), .int (iI tm), .int (iI en), .int (iI (ssLo S)), .int (iI (ssSl S)), .int (iI (ssFa S)), .ref (b 0), .ref (b 1), .ref (b 2), .ref (b 3), .ref (b 4), .ref (b 5), .ref (b 6)])), ((b 0), ar g 120 (ssS S)), ((b 1), ar g 120 (ssF S)), ((b 2), ar g 120 (ssW S)), ((b 3), ar g 120 (kOf (ssO S) (ssP S))), ((b 4), ar g 16 (tbl tm bu sr lg (ssT S))), ((b 5), ar g 12 td), ((b 6), ar g 120 ov), (x_7, ar g 120 (mixF (brA S k (avS S k)) (fun _ => 0) c)), (x_8, ar g 120 (mixF (hg (ssS S)) (fun _ => 0) c)), (x_9, (.inl (g 2, 120, .inl (ia (mixF (stA (avS S k)) (fun _ => 0) c))) : va_E))]) (w2 := fun _ => (wMo g m b 0 hr tm en (ssLo S) (ssSl S) (ssFa S) (ssS S) (ssF S) (ssW S) (kOf (ssO S) (ssP S)) (tbl tm bu sr lg (ssT S)) td ov) ++ (([(x_7, ar g 120 (mixF (brA S k (avS S k)) (fun _ => 0) c))]) ++ (([(x_8, ar g 120 (mixF (hg (ssS S)) (fun _ => 0) c))]) ++ (([(x_9, (.inl (g 2, 120, .inl (ia (mixF (stA (avS S k)) (fun _ => 0) c))) : va_E))]))))) 71 hC [] [0, 1, 2, 3, 4, 5, 6, 7, 8, 9, 10] [0, 1, 2, 3, 4, 5, 6, 7, 8, 9, 10] (z_runS (nA := 1) hC hN (c_X2_teamOf l D g c (by omega)) [] rfl (by decide) gX2_advise_X2_teamOf (by decide +kernel) rfl rfl rfl ⟨by decide, by decide⟩ rfl rfl (nle rfl) dX2_advise_68 ⟨by decide, by decide⟩) rfl rfl (by decide) (by decide) (fun _ => rfl) (by decide) rfl (k2 := 3) (n2 := 360) rfl rfl (fun z_32 _ p_33 => ?_)
            subst p_33
            refine z_iloadn 72 hC 1 dX2_advise_71 rfl rfl rfl ?_
            refine z_icmp_ne 99 75 hC dX2_advise_72 (by decide) rfl (by omega) (by omega) (fun c_34 => ?_) (fun c_34 => ?_)
            · skip
              refine z_iconst 100 hC dX2_advise_99 rfl ?_
              refine z_zast (ws' := (wMo g m b 0 hr tm en (ssLo S) (ssSl S) (ssFa S) (ssS S) (ssF S) (ssW S) (kOf (ssO S) (ssP S)) (tbl tm bu sr lg (ssT S)) td ov) ++ (([(x_7, ar g 120 (mixF (brA S k (avS S k)) (fun _ => 0) c))]) ++ (([(x_8, ar g 120 (mixF (hg (ssS S)) (fun _ => 0) c))]) ++ (([(x_9, (.inl (g 2, 120, .inl (ia (up (mixF (stA (avS S k)) (fun _ => 0) c) c 0))) : va_E))]))))) 101 10 hC dX2_advise_100 rfl rfl (by decide) (by omega) (by omega) rfl ?_
              refine z_aloadn 102 hC 3 dX2_advise_101 rfl rfl rfl ?_
              refine z_iload 104 hC 6 dX2_advise_102 rfl rfl ?_
              refine z_aload 106 hC 5 dX2_advise_104 rfl rfl ?_
              refine z_iload 108 hC 6 dX2_advise_106 rfl rfl ?_
              refine z_zald (v := 0) 109 10 hC dX2_advise_108 rfl rfl (by decide) (by omega) (up_same _ _ _) ?_
              refine z_if_eq 116 112 hC dX2_advise_109 (by decide) rfl (by omega) (fun c_35 => ?_) (fun c_35 => ?_)
              · skip
                refine z_iconst 117 hC dX2_advise_116 rfl ?_
                refine z_iast (ws' := (wMo g m b 0 hr tm en (ssLo S) (ssSl S) (ssFa S) (ssS S) (ssF S) (ssW S) (kOf (ssO S) (ssP S)) (tbl tm bu sr lg (ssT S)) td ov) ++ (([(x_7, ar g 120 (up (mixF (brA S k (avS S k)) (fun _ => 0) c) c (-1)))]) ++ (([(x_8, ar g 120 (mixF (hg (ssS S)) (fun _ => 0) c))]) ++ (([(x_9, (.inl (g 2, 120, .inl (ia (up (mixF (stA (avS S k)) (fun _ => 0) c) c 0))) : va_E))]))))) 118 8 hC dX2_advise_117 rfl rfl (by decide) (by omega) rfl ?_
                refine z_aload 120 hC 4 dX2_advise_118 rfl rfl ?_
                refine z_iload 122 hC 6 dX2_advise_120 rfl rfl ?_
                have k9 := hg_bd hs (c := c) (by omega)
                refine z_aloadn 123 hC 0 dX2_advise_122 rfl rfl rfl ?_
                refine z_iload 125 hC 6 dX2_advise_123 rfl rfl ?_
                refine z_calli (wr := [(x_7, ar g 120 (up (mixF (brA S k (avS S k)) (fun _ => 0) c) c (-1))), (x_8, ar g 120 (mixF (hg (ssS S)) (fun _ => 0) c)), (x_9, (.inl (g 2, 120, .inl (ia (up (mixF (stA (avS S k)) (fun _ => 0) c) c 0))) : va_E))]) (w2 := fun _ => (wMo g m b 0 hr tm en (ssLo S) (ssSl S) (ssFa S) (ssS S) (ssF S) (ssW S) (kOf (ssO S) (ssP S)) (tbl tm bu sr lg (ssT S)) td ov) ++ (([(x_7, ar g 120 (up (mixF (brA S k (avS S k)) (fun _ => 0) c) c (-1)))]) ++ (([(x_8, ar g 120 (mixF (hg (ssS S)) (fun _ => 0) c))]) ++ (([(x_9, (.inl (g 2, 120, .inl (ia (up (mixF (stA (avS S k)) (fun _ => 0) c) c 0))) : va_E))]))))) 128 hC [0, 1, 2, 3, 4, 5, 6, 7] [8, 9, 10] [3, 4, 5, 6, 7, 8, 9, 10, 0, 1, 2] (z_runV (nA := 1) hC hN (c_X2_height l D g m b 0 hr tm en (ssLo S) (ssSl S) (ssFa S) (ssS S) (ssF S) (ssW S) (kOf (ssO S) (ssP S)) (tbl tm bu sr lg (ssT S)) td ov c (by omega)) [0, 1, 2, 3, 4, 5, 6, 7] rfl (by decide) gX2_advise_X2_height (by decide +kernel) rfl rfl rfl ⟨by decide, by decide⟩ rfl rfl (nle rfl) dX2_advise_125 ⟨by decide, by decide⟩ 0 rfl rfl) rfl rfl (by decide) (by decide) (fun _ => rfl) (by decide) rfl (k2 := 3) (n2 := 360) rfl rfl (fun z_37 _ p_38 => ?_)
                subst p_38
                have y_36 := hg_bd hs (c := c) (by omega)
                refine z_iast (ws' := (wMo g m b 0 hr tm en (ssLo S) (ssSl S) (ssFa S) (ssS S) (ssF S) (ssW S) (kOf (ssO S) (ssP S)) (tbl tm bu sr lg (ssT S)) td ov) ++ (([(x_7, ar g 120 (up (mixF (brA S k (avS S k)) (fun _ => 0) c) c (-1)))]) ++ (([(x_8, ar g 120 (up (mixF (hg (ssS S)) (fun _ => 0) c) c (hg (ssS S) c)))]) ++ (([(x_9, (.inl (g 2, 120, .inl (ia (up (mixF (stA (avS S k)) (fun _ => 0) c) c 0))) : va_E))]))))) 129 9 hC dX2_advise_128 rfl rfl (by decide) (by omega) rfl ?_
                refine z_iinc (lv' := [(6, .int (iI (c + 1))), (0, .ref m), (1, .int (iI k)), (2, .int (iI n)), (3, .ref x_7), (4, .ref x_8), (5, .ref x_9)]) 132 6 hC dX2_advise_129 rfl rfl (by decide) rfl ?_
                refine z_goto 55 hC dX2_advise_132 (by decide) ?_
                refine z_lv (lv' := [(0, .ref m), (1, .int (iI k)), (2, .int (iI n)), (3, .ref x_7), (4, .ref x_8), (5, .ref x_9), (6, .int (iI (c + 1)))]) [1, 2, 3, 4, 5, 6, 0] rfl ?_
                refine z_weq (ws' := (wMo g m b 0 hr tm en (ssLo S) (ssSl S) (ssFa S) (ssS S) (ssF S) (ssW S) (kOf (ssO S) (ssP S)) (tbl tm bu sr lg (ssT S)) td ov) ++ (([(x_7, ar g 120 (mixF (brA S k (avS S k)) (fun _ => 0) (c + 1)))]) ++ (([(x_8, ar g 120 (mixF (hg (ssS S)) (fun _ => 0) (c + 1)))]) ++ (([(x_9, (.inl (g 2, 120, .inl (ia (mixF (stA (avS S k)) (fun _ => 0) (c + 1)))) : va_E))]))))) (zEq.cons zE1.rf (zEq.cons zE1.rf (zEq.cons zE1.rf (zEq.cons zE1.rf (zEq.cons zE1.rf (zEq.cons zE1.rf (zEq.cons zE1.rf (zEq.cons zE1.rf (zEq.cons (zE1.arr (by intro j h0 h1; exact mix_s (by first | exact (av0_y (S := S) (k := k) (c := c) (by unfold avQ; omega) (by omega)).2.symm | exact (av0_n (S := S) (k := k) (c := c) (by unfold avQ; omega) (by omega)).2.symm) j)) (zEq.cons (zE1.arr (by intro j h0 h1; exact mix_s (by first | rfl | omega) j)) (zEq.cons (zE1.arr (by intro j h0 h1; exact mix_s (by first | exact (av0_y (S := S) (k := k) (c := c) (by unfold avQ; omega) (by omega)).1.symm | exact (av0_n (S := S) (k := k) (c := c) (by unfold avQ; omega) (by omega)).1.symm) j)) zEq.nil))))))))))) ?_
                exact ih55 (c + 1) (by omega) (by omega)
              · exfalso; omega
            · skip
              have k1 : kOf (ssO S) (ssP S) c = if ssO S c = -1 then 0 else ssP S c + 1 := rfl
              have k2 := ho c (by omega) (by omega)
              have k3 := hp c (by omega) (by omega)
              have k4 := hw c (by omega) (by omega)
              refine z_aloadn 76 hC 0 dX2_advise_75 rfl rfl rfl ?_
              refine z_get 79 0 10 hC hinX2 L19 dX2_advise_76 rfl rfl rfl (by decide) rfl ?_
              refine z_iload 81 hC 6 dX2_advise_79 rfl rfl ?_
              refine z_iald 82 4 hC dX2_advise_81 rfl rfl (by decide) (by omega) ?_
              have b_39 := (kOf_bd hSB) c (by omega) (by omega)
              refine z_if_ne 99 85 hC dX2_advise_82 (by decide) rfl (by omega) (fun c_40 => ?_) (fun c_40 => ?_)
              · skip
                refine z_iconst 100 hC dX2_advise_99 rfl ?_
                refine z_zast (ws' := (wMo g m b 0 hr tm en (ssLo S) (ssSl S) (ssFa S) (ssS S) (ssF S) (ssW S) (kOf (ssO S) (ssP S)) (tbl tm bu sr lg (ssT S)) td ov) ++ (([(x_7, ar g 120 (mixF (brA S k (avS S k)) (fun _ => 0) c))]) ++ (([(x_8, ar g 120 (mixF (hg (ssS S)) (fun _ => 0) c))]) ++ (([(x_9, (.inl (g 2, 120, .inl (ia (up (mixF (stA (avS S k)) (fun _ => 0) c) c 0))) : va_E))]))))) 101 10 hC dX2_advise_100 rfl rfl (by decide) (by omega) (by omega) rfl ?_
                refine z_aloadn 102 hC 3 dX2_advise_101 rfl rfl rfl ?_
                refine z_iload 104 hC 6 dX2_advise_102 rfl rfl ?_
                refine z_aload 106 hC 5 dX2_advise_104 rfl rfl ?_
                refine z_iload 108 hC 6 dX2_advise_106 rfl rfl ?_
                refine z_zald (v := 0) 109 10 hC dX2_advise_108 rfl rfl (by decide) (by omega) (up_same _ _ _) ?_
                refine z_if_eq 116 112 hC dX2_advise_109 (by decide) rfl (by omega) (fun c_41 => ?_) (fun c_41 => ?_)
                · skip
                  refine z_iconst 117 hC dX2_advise_116 rfl ?_
                  refine z_iast (ws' := (wMo g m b 0 hr tm en (ssLo S) (ssSl S) (ssFa S) (ssS S) (ssF S) (ssW S) (kOf (ssO S) (ssP S)) (tbl tm bu sr lg (ssT S)) td ov) ++ (([(x_7, ar g 120 (up (mixF (brA S k (avS S k)) (fun _ => 0) c) c (-1)))]) ++ (([(x_8, ar g 120 (mixF (hg (ssS S)) (fun _ => 0) c))]) ++ (([(x_9, (.inl (g 2, 120, .inl (ia (up (mixF (stA (avS S k)) (fun _ => 0) c) c 0))) : va_E))]))))) 118 8 hC dX2_advise_117 rfl rfl (by decide) (by omega) rfl ?_
                  refine z_aload 120 hC 4 dX2_advise_118 rfl rfl ?_
                  refine z_iload 122 hC 6 dX2_advise_120 rfl rfl ?_
                  have k9 := hg_bd hs (c := c) (by omega)
                  refine z_aloadn 123 hC 0 dX2_advise_122 rfl rfl rfl ?_
                  refine z_iload 125 hC 6 dX2_advise_123 rfl rfl ?_
                  refine z_calli (wr := [(x_7, ar g 120 (up (mixF (brA S k (avS S k)) (fun _ => 0) c) c (-1))), (x_8, ar g 120 (mixF (hg (ssS S)) (fun _ => 0) c)), (x_9, (.inl (g 2, 120, .inl (ia (up (mixF (stA (avS S k)) (fun _ => 0) c) c 0))) : va_E))]) (w2 := fun _ => (wMo g m b 0 hr tm en (ssLo S) (ssSl S) (ssFa S) (ssS S) (ssF S) (ssW S) (kOf (ssO S) (ssP S)) (tbl tm bu sr lg (ssT S)) td ov) ++ (([(x_7, ar g 120 (up (mixF (brA S k (avS S k)) (fun _ => 0) c) c (-1)))]) ++ (([(x_8, ar g 120 (mixF (hg (ssS S)) (fun _ => 0) c))]) ++ (([(x_9, (.inl (g 2, 120, .inl (ia (up (mixF (stA (avS S k)) (fun _ => 0) c) c 0))) : va_E))]))))) 128 hC [0, 1, 2, 3, 4, 5, 6, 7] [8, 9, 10] [3, 4, 5, 6, 7, 8, 9, 10, 0, 1, 2] (z_runV (nA := 1) hC hN (c_X2_height l D g m b 0 hr tm en (ssLo S) (ssSl S) (ssFa S) (ssS S) (ssF S) (ssW S) (kOf (ssO S) (ssP S)) (tbl tm bu sr lg (ssT S)) td ov c (by omega)) [0, 1, 2, 3, 4, 5, 6, 7] rfl (by decide) gX2_advise_X2_height (by decide +kernel) rfl rfl rfl ⟨by decide, by decide⟩ rfl rfl (nle rfl) dX2_advise_125 ⟨by decide, by decide⟩ 0 rfl rfl) rfl rfl (by decide) (by decide) (fun _ => rfl) (by decide) rfl (k2 := 3) (n2 := 360) rfl rfl (fun z_43 _ p_44 => ?_)
                  subst p_44
                  have y_42 := hg_bd hs (c := c) (by omega)
                  refine z_iast (ws' := (wMo g m b 0 hr tm en (ssLo S) (ssSl S) (ssFa S) (ssS S) (ssF S) (ssW S) (kOf (ssO S) (ssP S)) (tbl tm bu sr lg (ssT S)) td ov) ++ (([(x_7, ar g 120 (up (mixF (brA S k (avS S k)) (fun _ => 0) c) c (-1)))]) ++ (([(x_8, ar g 120 (up (mixF (hg (ssS S)) (fun _ => 0) c) c (hg (ssS S) c)))]) ++ (([(x_9, (.inl (g 2, 120, .inl (ia (up (mixF (stA (avS S k)) (fun _ => 0) c) c 0))) : va_E))]))))) 129 9 hC dX2_advise_128 rfl rfl (by decide) (by omega) rfl ?_
                  refine z_iinc (lv' := [(6, .int (iI (c + 1))), (0, .ref m), (1, .int (iI k)), (2, .int (iI n)), (3, .ref x_7), (4, .ref x_8), (5, .ref x_9)]) 132 6 hC dX2_advise_129 rfl rfl (by decide) rfl ?_
                  refine z_goto 55 hC dX2_advise_132 (by decide) ?_
                  refine z_lv (lv' := [(0, .ref m), (1, .int (iI k)), (2, .int (iI n)), (3, .ref x_7), (4, .ref x_8), (5, .ref x_9), (6, .int (iI (c + 1)))]) [1, 2, 3, 4, 5, 6, 0] rfl ?_
                  refine z_weq (ws' := (wMo g m b 0 hr tm en (ssLo S) (ssSl S) (ssFa S) (ssS S) (ssF S) (ssW S) (kOf (ssO S) (ssP S)) (tbl tm bu sr lg (ssT S)) td ov) ++ (([(x_7, ar g 120 (mixF (brA S k (avS S k)) (fun _ => 0) (c + 1)))]) ++ (([(x_8, ar g 120 (mixF (hg (ssS S)) (fun _ => 0) (c + 1)))]) ++ (([(x_9, (.inl (g 2, 120, .inl (ia (mixF (stA (avS S k)) (fun _ => 0) (c + 1)))) : va_E))]))))) (zEq.cons zE1.rf (zEq.cons zE1.rf (zEq.cons zE1.rf (zEq.cons zE1.rf (zEq.cons zE1.rf (zEq.cons zE1.rf (zEq.cons zE1.rf (zEq.cons zE1.rf (zEq.cons (zE1.arr (by intro j h0 h1; exact mix_s (by first | exact (av0_y (S := S) (k := k) (c := c) (by unfold avQ; omega) (by omega)).2.symm | exact (av0_n (S := S) (k := k) (c := c) (by unfold avQ; omega) (by omega)).2.symm) j)) (zEq.cons (zE1.arr (by intro j h0 h1; exact mix_s (by first | rfl | omega) j)) (zEq.cons (zE1.arr (by intro j h0 h1; exact mix_s (by first | exact (av0_y (S := S) (k := k) (c := c) (by unfold avQ; omega) (by omega)).1.symm | exact (av0_n (S := S) (k := k) (c := c) (by unfold avQ; omega) (by omega)).1.symm) j)) zEq.nil))))))))))) ?_
                  exact ih55 (c + 1) (by omega) (by omega)
                · exfalso; omega
              · skip
                refine z_aloadn 86 hC 0 dX2_advise_85 rfl rfl rfl ?_
                refine z_get 89 0 9 hC hinX2 L16 dX2_advise_86 rfl rfl rfl (by decide) rfl ?_
                refine z_iload 91 hC 6 dX2_advise_89 rfl rfl ?_
                refine z_iald 92 3 hC dX2_advise_91 rfl rfl (by decide) (by omega) ?_
                have b_45 := hw c (by omega) (by omega)
                refine z_if_ne 99 95 hC dX2_advise_92 (by decide) rfl (by omega) (fun c_46 => ?_) (fun c_46 => ?_)
                · skip
                  refine z_iconst 100 hC dX2_advise_99 rfl ?_
                  refine z_zast (ws' := (wMo g m b 0 hr tm en (ssLo S) (ssSl S) (ssFa S) (ssS S) (ssF S) (ssW S) (kOf (ssO S) (ssP S)) (tbl tm bu sr lg (ssT S)) td ov) ++ (([(x_7, ar g 120 (mixF (brA S k (avS S k)) (fun _ => 0) c))]) ++ (([(x_8, ar g 120 (mixF (hg (ssS S)) (fun _ => 0) c))]) ++ (([(x_9, (.inl (g 2, 120, .inl (ia (up (mixF (stA (avS S k)) (fun _ => 0) c) c 0))) : va_E))]))))) 101 10 hC dX2_advise_100 rfl rfl (by decide) (by omega) (by omega) rfl ?_
                  refine z_aloadn 102 hC 3 dX2_advise_101 rfl rfl rfl ?_
                  refine z_iload 104 hC 6 dX2_advise_102 rfl rfl ?_
                  refine z_aload 106 hC 5 dX2_advise_104 rfl rfl ?_
                  refine z_iload 108 hC 6 dX2_advise_106 rfl rfl ?_
                  refine z_zald (v := 0) 109 10 hC dX2_advise_108 rfl rfl (by decide) (by omega) (up_same _ _ _) ?_
                  refine z_if_eq 116 112 hC dX2_advise_109 (by decide) rfl (by omega) (fun c_47 => ?_) (fun c_47 => ?_)
                  · skip
                    refine z_iconst 117 hC dX2_advise_116 rfl ?_
                    refine z_iast (ws' := (wMo g m b 0 hr tm en (ssLo S) (ssSl S) (ssFa S) (ssS S) (ssF S) (ssW S) (kOf (ssO S) (ssP S)) (tbl tm bu sr lg (ssT S)) td ov) ++ (([(x_7, ar g 120 (up (mixF (brA S k (avS S k)) (fun _ => 0) c) c (-1)))]) ++ (([(x_8, ar g 120 (mixF (hg (ssS S)) (fun _ => 0) c))]) ++ (([(x_9, (.inl (g 2, 120, .inl (ia (up (mixF (stA (avS S k)) (fun _ => 0) c) c 0))) : va_E))]))))) 118 8 hC dX2_advise_117 rfl rfl (by decide) (by omega) rfl ?_
                    refine z_aload 120 hC 4 dX2_advise_118 rfl rfl ?_
                    refine z_iload 122 hC 6 dX2_advise_120 rfl rfl ?_
                    have k9 := hg_bd hs (c := c) (by omega)
                    refine z_aloadn 123 hC 0 dX2_advise_122 rfl rfl rfl ?_
                    refine z_iload 125 hC 6 dX2_advise_123 rfl rfl ?_
                    refine z_calli (wr := [(x_7, ar g 120 (up (mixF (brA S k (avS S k)) (fun _ => 0) c) c (-1))), (x_8, ar g 120 (mixF (hg (ssS S)) (fun _ => 0) c)), (x_9, (.inl (g 2, 120, .inl (ia (up (mixF (stA (avS S k)) (fun _ => 0) c) c 0))) : va_E))]) (w2 := fun _ => (wMo g m b 0 hr tm en (ssLo S) (ssSl S) (ssFa S) (ssS S) (ssF S) (ssW S) (kOf (ssO S) (ssP S)) (tbl tm bu sr lg (ssT S)) td ov) ++ (([(x_7, ar g 120 (up (mixF (brA S k (avS S k)) (fun _ => 0) c) c (-1)))]) ++ (([(x_8, ar g 120 (mixF (hg (ssS S)) (fun _ => 0) c))]) ++ (([(x_9, (.inl (g 2, 120, .inl (ia (up (mixF (stA (avS S k)) (fun _ => 0) c) c 0))) : va_E))]))))) 128 hC [0, 1, 2, 3, 4, 5, 6, 7] [8, 9, 10] [3, 4, 5, 6, 7, 8, 9, 10, 0, 1, 2] (z_runV (nA := 1) hC hN (c_X2_height l D g m b 0 hr tm en (ssLo S) (ssSl S) (ssFa S) (ssS S) (ssF S) (ssW S) (kOf (ssO S) (ssP S)) (tbl tm bu sr lg (ssT S)) td ov c (by omega)) [0, 1, 2, 3, 4, 5, 6, 7] rfl (by decide) gX2_advise_X2_height (by decide +kernel) rfl rfl rfl ⟨by decide, by decide⟩ rfl rfl (nle rfl) dX2_advise_125 ⟨by decide, by decide⟩ 0 rfl rfl) rfl rfl (by decide) (by decide) (fun _ => rfl) (by decide) rfl (k2 := 3) (n2 := 360) rfl rfl (fun z_49 _ p_50 => ?_)
                    subst p_50
                    have y_48 := hg_bd hs (c := c) (by omega)
                    refine z_iast (ws' := (wMo g m b 0 hr tm en (ssLo S) (ssSl S) (ssFa S) (ssS S) (ssF S) (ssW S) (kOf (ssO S) (ssP S)) (tbl tm bu sr lg (ssT S)) td ov) ++ (([(x_7, ar g 120 (up (mixF (brA S k (avS S k)) (fun _ => 0) c) c (-1)))]) ++ (([(x_8, ar g 120 (up (mixF (hg (ssS S)) (fun _ => 0) c) c (hg (ssS S) c)))]) ++ (([(x_9, (.inl (g 2, 120, .inl (ia (up (mixF (stA (avS S k)) (fun _ => 0) c) c 0))) : va_E))]))))) 129 9 hC dX2_advise_128 rfl rfl (by decide) (by omega) rfl ?_
                    refine z_iinc (lv' := [(6, .int (iI (c + 1))), (0, .ref m), (1, .int (iI k)), (2, .int (iI n)), (3, .ref x_7), (4, .ref x_8), (5, .ref x_9)]) 132 6 hC dX2_advise_129 rfl rfl (by decide) rfl ?_
                    refine z_goto 55 hC dX2_advise_132 (by decide) ?_
                    refine z_lv (lv' := [(0, .ref m), (1, .int (iI k)), (2, .int (iI n)), (3, .ref x_7), (4, .ref x_8), (5, .ref x_9), (6, .int (iI (c + 1)))]) [1, 2, 3, 4, 5, 6, 0] rfl ?_
                    refine z_weq (ws' := (wMo g m b 0 hr tm en (ssLo S) (ssSl S) (ssFa S) (ssS S) (ssF S) (ssW S) (kOf (ssO S) (ssP S)) (tbl tm bu sr lg (ssT S)) td ov) ++ (([(x_7, ar g 120 (mixF (brA S k (avS S k)) (fun _ => 0) (c + 1)))]) ++ (([(x_8, ar g 120 (mixF (hg (ssS S)) (fun _ => 0) (c + 1)))]) ++ (([(x_9, (.inl (g 2, 120, .inl (ia (mixF (stA (avS S k)) (fun _ => 0) (c + 1)))) : va_E))]))))) (zEq.cons zE1.rf (zEq.cons zE1.rf (zEq.cons zE1.rf (zEq.cons zE1.rf (zEq.cons zE1.rf (zEq.cons zE1.rf (zEq.cons zE1.rf (zEq.cons zE1.rf (zEq.cons (zE1.arr (by intro j h0 h1; exact mix_s (by first | exact (av0_y (S := S) (k := k) (c := c) (by unfold avQ; omega) (by omega)).2.symm | exact (av0_n (S := S) (k := k) (c := c) (by unfold avQ; omega) (by omega)).2.symm) j)) (zEq.cons (zE1.arr (by intro j h0 h1; exact mix_s (by first | rfl | omega) j)) (zEq.cons (zE1.arr (by intro j h0 h1; exact mix_s (by first | exact (av0_y (S := S) (k := k) (c := c) (by unfold avQ; omega) (by omega)).1.symm | exact (av0_n (S := S) (k := k) (c := c) (by unfold avQ; omega) (by omega)).1.symm) j)) zEq.nil))))))))))) ?_
                    exact ih55 (c + 1) (by omega) (by omega)
                  · exfalso; omega
                · skip
                  refine z_iconst 96 hC dX2_advise_95 rfl ?_
                  refine z_goto 100 hC dX2_advise_96 (by decide) ?_
                  refine z_zast (ws' := (wMo g m b 0 hr tm en (ssLo S) (ssSl S) (ssFa S) (ssS S) (ssF S) (ssW S) (kOf (ssO S) (ssP S)) (tbl tm bu sr lg (ssT S)) td ov) ++ (([(x_7, ar g 120 (mixF (brA S k (avS S k)) (fun _ => 0) c))]) ++ (([(x_8, ar g 120 (mixF (hg (ssS S)) (fun _ => 0) c))]) ++ (([(x_9, (.inl (g 2, 120, .inl (ia (up (mixF (stA (avS S k)) (fun _ => 0) c) c 1))) : va_E))]))))) 101 10 hC dX2_advise_100 rfl rfl (by decide) (by omega) (by omega) rfl ?_
                  refine z_aloadn 102 hC 3 dX2_advise_101 rfl rfl rfl ?_
                  refine z_iload 104 hC 6 dX2_advise_102 rfl rfl ?_
                  refine z_aload 106 hC 5 dX2_advise_104 rfl rfl ?_
                  refine z_iload 108 hC 6 dX2_advise_106 rfl rfl ?_
                  refine z_zald (v := 1) 109 10 hC dX2_advise_108 rfl rfl (by decide) (by omega) (up_same _ _ _) ?_
                  refine z_if_eq 116 112 hC dX2_advise_109 (by decide) rfl (by omega) (fun c_51 => ?_) (fun c_51 => ?_)
                  · exfalso; omega
                  · skip
                    refine z_iconst 113 hC dX2_advise_112 rfl ?_
                    refine z_goto 117 hC dX2_advise_113 (by decide) ?_
                    refine z_iast (ws' := (wMo g m b 0 hr tm en (ssLo S) (ssSl S) (ssFa S) (ssS S) (ssF S) (ssW S) (kOf (ssO S) (ssP S)) (tbl tm bu sr lg (ssT S)) td ov) ++ (([(x_7, ar g 120 (up (mixF (brA S k (avS S k)) (fun _ => 0) c) c 0))]) ++ (([(x_8, ar g 120 (mixF (hg (ssS S)) (fun _ => 0) c))]) ++ (([(x_9, (.inl (g 2, 120, .inl (ia (up (mixF (stA (avS S k)) (fun _ => 0) c) c 1))) : va_E))]))))) 118 8 hC dX2_advise_117 rfl rfl (by decide) (by omega) rfl ?_
                    refine z_aload 120 hC 4 dX2_advise_118 rfl rfl ?_
                    refine z_iload 122 hC 6 dX2_advise_120 rfl rfl ?_
                    have k9 := hg_bd hs (c := c) (by omega)
                    refine z_aloadn 123 hC 0 dX2_advise_122 rfl rfl rfl ?_
                    refine z_iload 125 hC 6 dX2_advise_123 rfl rfl ?_
                    refine z_calli (wr := [(x_7, ar g 120 (up (mixF (brA S k (avS S k)) (fun _ => 0) c) c 0)), (x_8, ar g 120 (mixF (hg (ssS S)) (fun _ => 0) c)), (x_9, (.inl (g 2, 120, .inl (ia (up (mixF (stA (avS S k)) (fun _ => 0) c) c 1))) : va_E))]) (w2 := fun _ => (wMo g m b 0 hr tm en (ssLo S) (ssSl S) (ssFa S) (ssS S) (ssF S) (ssW S) (kOf (ssO S) (ssP S)) (tbl tm bu sr lg (ssT S)) td ov) ++ (([(x_7, ar g 120 (up (mixF (brA S k (avS S k)) (fun _ => 0) c) c 0))]) ++ (([(x_8, ar g 120 (mixF (hg (ssS S)) (fun _ => 0) c))]) ++ (([(x_9, (.inl (g 2, 120, .inl (ia (up (mixF (stA (avS S k)) (fun _ => 0) c) c 1))) : va_E))]))))) 128 hC [0, 1, 2, 3, 4, 5, 6, 7] [8, 9, 10] [3, 4, 5, 6, 7, 8, 9, 10, 0, 1, 2] (z_runV (nA := 1) hC hN (c_X2_height l D g m b 0 hr tm en (ssLo S) (ssSl S) (ssFa S) (ssS S) (ssF S) (ssW S) (kOf (ssO S) (ssP S)) (tbl tm bu sr lg (ssT S)) td ov c (by omega)) [0, 1, 2, 3, 4, 5, 6, 7] rfl (by decide) gX2_advise_X2_height (by decide +kernel) rfl rfl rfl ⟨by decide, by decide⟩ rfl rfl (nle rfl) dX2_advise_125 ⟨by decide, by decide⟩ 0 rfl rfl) rfl rfl (by decide) (by decide) (fun _ => rfl) (by decide) rfl (k2 := 3) (n2 := 360) rfl rfl (fun z_53 _ p_54 => ?_)
                    subst p_54
                    have y_52 := hg_bd hs (c := c) (by omega)
                    refine z_iast (ws' := (wMo g m b 0 hr tm en (ssLo S) (ssSl S) (ssFa S) (ssS S) (ssF S) (ssW S) (kOf (ssO S) (ssP S)) (tbl tm bu sr lg (ssT S)) td ov) ++ (([(x_7, ar g 120 (up (mixF (brA S k (avS S k)) (fun _ => 0) c) c 0))]) ++ (([(x_8, ar g 120 (up (mixF (hg (ssS S)) (fun _ => 0) c) c (hg (ssS S) c)))]) ++ (([(x_9, (.inl (g 2, 120, .inl (ia (up (mixF (stA (avS S k)) (fun _ => 0) c) c 1))) : va_E))]))))) 129 9 hC dX2_advise_128 rfl rfl (by decide) (by omega) rfl ?_
                    refine z_iinc (lv' := [(6, .int (iI (c + 1))), (0, .ref m), (1, .int (iI k)), (2, .int (iI n)), (3, .ref x_7), (4, .ref x_8), (5, .ref x_9)]) 132 6 hC dX2_advise_129 rfl rfl (by decide) rfl ?_
                    refine z_goto 55 hC dX2_advise_132 (by decide) ?_
                    refine z_lv (lv' := [(0, .ref m), (1, .int (iI k)), (2, .int (iI n)), (3, .ref x_7), (4, .ref x_8), (5, .ref x_9), (6, .int (iI (c + 1)))]) [1, 2, 3, 4, 5, 6, 0] rfl ?_
                    refine z_weq (ws' := (wMo g m b 0 hr tm en (ssLo S) (ssSl S) (ssFa S) (ssS S) (ssF S) (ssW S) (kOf (ssO S) (ssP S)) (tbl tm bu sr lg (ssT S)) td ov) ++ (([(x_7, ar g 120 (mixF (brA S k (avS S k)) (fun _ => 0) (c + 1)))]) ++ (([(x_8, ar g 120 (mixF (hg (ssS S)) (fun _ => 0) (c + 1)))]) ++ (([(x_9, (.inl (g 2, 120, .inl (ia (mixF (stA (avS S k)) (fun _ => 0) (c + 1)))) : va_E))]))))) (zEq.cons zE1.rf (zEq.cons zE1.rf (zEq.cons zE1.rf (zEq.cons zE1.rf (zEq.cons zE1.rf (zEq.cons zE1.rf (zEq.cons zE1.rf (zEq.cons zE1.rf (zEq.cons (zE1.arr (by intro j h0 h1; exact mix_s (by first | exact (av0_y (S := S) (k := k) (c := c) (by unfold avQ; omega) (by omega)).2.symm | exact (av0_n (S := S) (k := k) (c := c) (by unfold avQ; omega) (by omega)).2.symm) j)) (zEq.cons (zE1.arr (by intro j h0 h1; exact mix_s (by first | rfl | omega) j)) (zEq.cons (zE1.arr (by intro j h0 h1; exact mix_s (by first | exact (av0_y (S := S) (k := k) (c := c) (by unfold avQ; omega) (by omega)).1.symm | exact (av0_n (S := S) (k := k) (c := c) (by unfold avQ; omega) (by omega)).1.symm) j)) zEq.nil))))))))))) ?_
                    exact ih55 (c + 1) (by omega) (by omega)
      refine z_lv (lv' := [(0, .ref m), (1, .int (iI k)), (2, .int (iI n)), (3, .ref x_7), (4, .ref x_8), (5, .ref x_9), (6, .int (iI 0))]) [4, 5, 6, 3, 2, 1, 0] rfl ?_
      refine z_weq (ws' := (wMo g m b 0 hr tm en (ssLo S) (ssSl S) (ssFa S) (ssS S) (ssF S) (ssW S) (kOf (ssO S) (ssP S)) (tbl tm bu sr lg (ssT S)) td ov) ++ (([(x_7, ar g 120 (mixF (brA S k (avS S k)) (fun _ => 0) 0))]) ++ (([(x_8, ar g 120 (mixF (hg (ssS S)) (fun _ => 0) 0))]) ++ (([(x_9, (.inl (g 2, 120, .inl (ia (mixF (stA (avS S k)) (fun _ => 0) 0))) : va_E))]))))) (zEq.cons zE1.rf (zEq.cons zE1.rf (zEq.cons zE1.rf (zEq.cons zE1.rf (zEq.cons zE1.rf (zEq.cons zE1.rf (zEq.cons zE1.rf (zEq.cons zE1.rf (zEq.cons (zE1.arr (by intro j h0 h1; exact mix_0 _ (fun _ => 0) h0)) (zEq.cons (zE1.arr (by intro j h0 h1; exact mix_0 _ (fun _ => 0) h0)) (zEq.cons (zE1.arr (by intro j h0 h1; exact mix_0 _ (fun _ => 0) h0)) zEq.nil))))))))))) ?_
      exact loop55 ((120 - 0 + 1 : Int).toNat) 0 (by omega) (by omega)
    · skip
      refine z_aloadn 30 hC 0 dX2_advise_29 rfl rfl rfl ?_
      refine z_iconst 31 hC dX2_advise_30 rfl ?_
      refine z_calli (wr := []) (w2 := fun _ => wMo g m b 2 hr tm en (ssLo S) (ssSl S) (ssFa S) (ssS S) (ssF S) (ssW S) (kOf (ssO S) (ssP S)) (tbl tm bu sr lg (ssT S)) td ov) 34 hC [0, 1, 2, 3, 4, 5, 6, 7] [] [0, 1, 2, 3, 4, 5, 6, 7] (z_runV (nA := 1) hC hN (c_X2_fail l D g m b 0 hr tm en (ssLo S) (ssSl S) (ssFa S) (ssS S) (ssF S) (ssW S) (kOf (ssO S) (ssP S)) (tbl tm bu sr lg (ssT S)) td ov 2 ) [0, 1, 2, 3, 4, 5, 6, 7] rfl (by decide) gX2_advise_X2_fail (by decide +kernel) rfl rfl rfl ⟨by decide, by decide⟩ rfl rfl (nle rfl) dX2_advise_31 ⟨by decide, by decide⟩ 0 rfl rfl) rfl rfl (by decide) (by decide) (fun _ => rfl) (by decide) rfl (k2 := 0) (n2 := 0) rfl rfl (fun z_55 _ p_56 => ?_)
      subst p_56
      refine z_widen (k2 := 10) (n2 := 866) (by omega) (by omega) ?_
      refine z_weq (ws' := wMo g m b (if ¬ (0 ≤ k ∧ k < tm) then 1 else if ¬ (1 ≤ n ∧ n ≤ 12) then 2 else 0) hr tm en (ssLo S) (ssSl S) (ssFa S) (ssS S) (ssF S) (ssW S) (kOf (ssO S) (ssP S)) (tbl tm bu sr lg (ssT S)) td ov) (zEq.cons (zE1.obj (zfc (by first | omega | rfl | (simp only [up]; omega)) (zfk (zfk (zfk (zfk (zfk (zfk (zfk (zfk (zfk (zfk (zfk (zfk (zfk rfl))))))))))))))) (zEq.cons zE1.rf (zEq.cons zE1.rf (zEq.cons zE1.rf (zEq.cons zE1.rf (zEq.cons zE1.rf (zEq.cons zE1.rf (zEq.cons zE1.rf zEq.nil)))))))) ?_
      exact hret (b, ov) dX2_advise_34 rfl (by intro q9; first | rfl | omega)
  · skip
    refine z_aloadn 14 hC 0 dX2_advise_13 rfl rfl rfl ?_
    refine z_iconst 15 hC dX2_advise_14 rfl ?_
    refine z_calli (wr := []) (w2 := fun _ => wMo g m b 1 hr tm en (ssLo S) (ssSl S) (ssFa S) (ssS S) (ssF S) (ssW S) (kOf (ssO S) (ssP S)) (tbl tm bu sr lg (ssT S)) td ov) 18 hC [0, 1, 2, 3, 4, 5, 6, 7] [] [0, 1, 2, 3, 4, 5, 6, 7] (z_runV (nA := 1) hC hN (c_X2_fail l D g m b 0 hr tm en (ssLo S) (ssSl S) (ssFa S) (ssS S) (ssF S) (ssW S) (kOf (ssO S) (ssP S)) (tbl tm bu sr lg (ssT S)) td ov 1 ) [0, 1, 2, 3, 4, 5, 6, 7] rfl (by decide) gX2_advise_X2_fail (by decide +kernel) rfl rfl rfl ⟨by decide, by decide⟩ rfl rfl (nle rfl) dX2_advise_15 ⟨by decide, by decide⟩ 0 rfl rfl) rfl rfl (by decide) (by decide) (fun _ => rfl) (by decide) rfl (k2 := 0) (n2 := 0) rfl rfl (fun z_57 _ p_58 => ?_)
    subst p_58
    refine z_widen (k2 := 10) (n2 := 866) (by omega) (by omega) ?_
    refine z_weq (ws' := wMo g m b (if ¬ (0 ≤ k ∧ k < tm) then 1 else if ¬ (1 ≤ n ∧ n ≤ 12) then 2 else 0) hr tm en (ssLo S) (ssSl S) (ssFa S) (ssS S) (ssF S) (ssW S) (kOf (ssO S) (ssP S)) (tbl tm bu sr lg (ssT S)) td ov) (zEq.cons (zE1.obj (zfc (by first | omega | rfl | (simp only [up]; omega)) (zfk (zfk (zfk (zfk (zfk (zfk (zfk (zfk (zfk (zfk (zfk (zfk (zfk rfl))))))))))))))) (zEq.cons zE1.rf (zEq.cons zE1.rf (zEq.cons zE1.rf (zEq.cons zE1.rf (zEq.cons zE1.rf (zEq.cons zE1.rf (zEq.cons zE1.rf zEq.nil)))))))) ?_
    exact hret (b, ov) dX2_advise_18 rfl (by intro q9; first | rfl | omega)
