theorem x1 {z : Int} {Ex : String} (h : z = 1) (e : Ex = zXi) : xIAS z Ex := Or.inl ⟨h, e⟩
theorem x2 {z : Int} {Ex : String} (h : z = 2) (e : Ex = zXa) : xIAS z Ex := Or.inr (Or.inl ⟨h, e⟩)
theorem x3 {z : Int} {Ex : String} (h : z = 3) (e : Ex = zXs) : xIAS z Ex := Or.inr (Or.inr ⟨h, e⟩)
theorem y1 {z : Int} {Ex : String} (h : z = 1) (e : Ex = zXa) : xAI z Ex := Or.inl ⟨h, e⟩
theorem y2 {z : Int} {Ex : String} (h : z = 2) (e : Ex = zXi) : xAI z Ex := Or.inr ⟨h, e⟩
theorem Bd_w {f : Int → Int} {N a b c : Int} (h : Bd f N a b) (hb : b ≤ c) : Bd f N a c := fun j h0 h1 => ⟨(h j h0 h1).1, Int.le_trans (h j h0 h1).2 hb⟩
theorem ahN_bd (lg t : Int → Int) (k : Int) {tm : Int} (h : 0 ≤ tm ∧ tm ≤ 4) : 0 ≤ ahN lg t k tm ∧ ahN lg t k tm ≤ 4 := by
  have h2 : Bd (fun j => ahI lg t j k) 4 0 1 := fun j _ _ => by
    show 0 ≤ ahI lg t j k ∧ ahI lg t j k ≤ 1
    unfold ahI
    omega
  have := sumI_bd h2 h.1 h.2
  unfold ahN
  omega
theorem fwI_bd (t : Int → Int) (k : Int) {tm : Int} (h : 0 ≤ tm ∧ tm ≤ 4) : 0 ≤ fwI' t k tm ∧ fwI' t k tm ≤ 4 := by
  have h2 : Bd (fun j => if t j < t k then 1 else 0) 4 0 1 := fun j _ _ => by
    show 0 ≤ (if t j < t k then (1 : Int) else 0) ∧ (if t j < t k then (1 : Int) else 0) ≤ 1
    omega
  have := sumI_bd h2 h.1 h.2
  unfold fwI'
  omega
theorem lgE_bd {lg : Int → Int} (t : Int → Int) {tm : Int} (i : Int) (h : 0 ≤ tm ∧ tm ≤ 4) (hl : Bd lg 4 0 1000000) : Bd (lgE lg t tm i) 4 0 2000000 := by
  intro j a b
  have h1 := hl j a b
  have h2 := fwI_bd t j h
  unfold lgE
  split <;> omega
theorem lgE_s (lg t : Int → Int) (tm i : Int) (j : Int) : up (lgE lg t tm i) i (lgE lg t tm i i + fwI' t i tm) j = lgE lg t tm (i + 1) j := by
  by_cases e : j = i
  · subst e
    rw [up_same]
    unfold lgE
    rw [if_neg (by omega), if_pos (by omega)]
  · rw [up_ne e]
    unfold lgE
    by_cases c : j < i
    · rw [if_pos c, if_pos (by omega)]
    · rw [if_neg c, if_neg (by omega)]
theorem cntS_bd (o : Int → Int) (k : Int) : 0 ≤ cntS o k ∧ cntS o k ≤ 120 := by
  have h2 : Bd (fun j => if o j = k then 1 else 0) 120 0 1 := fun j _ _ => by
    show 0 ≤ (if o j = k then (1 : Int) else 0) ∧ (if o j = k then (1 : Int) else 0) ≤ 1
    omega
  have := sumI_bd h2 (i := 120) (by omega) (by omega)
  unfold cntS
  omega
/-- the least level with which the cell is under water -/
def rchP (s : Int → Int) (c z : Int) : Prop := (0 ≤ z ∧ z ≤ 60) ∧ (z < 60 → wet s z c = 1) ∧ ∀ L : Int, 0 ≤ L → L < z → wet s L c = 0
/-- the trial of an advice: a stick on each free cell of the area, each its own owner -/
def avQ (S : SS) (k j : Int) : Int := if j % 12 / 3 = k ∧ ssO S j = -1 ∧ ssW S j = 0 then 1 else 0
def avO (S : SS) (k i : Int) : Int → Int := fun j => if j < i ∧ avQ S k j = 1 then j else -1
def avP (S : SS) (k i : Int) : Int → Int := fun j => if j < i ∧ avQ S k j = 1 then hg (ssS S) j else 0
def avS (S : SS) (k : Int) : SS := (ssS S, ssF S, ssW S, avO S k 120, avP S k 120, fun _ => 0, ssLo S, ssSl S, ssFa S)
theorem avO_y {S : SS} {k i : Int} (h : avQ S k i = 1) (j : Int) : up (avO S k i) i i j = avO S k (i + 1) j := by
  by_cases e : j = i
  · subst e
    rw [up_same]
    unfold avO
    rw [if_pos ⟨by omega, h⟩]
  · rw [up_ne e]
    unfold avO
    by_cases c : j < i ∧ avQ S k j = 1
    · rw [if_pos c, if_pos ⟨by omega, c.2⟩]
    · rw [if_neg c, if_neg (fun q => c ⟨by omega, q.2⟩)]
theorem avO_n {S : SS} {k i : Int} (h : avQ S k i = 0) (j : Int) : avO S k i j = avO S k (i + 1) j := by
  unfold avO
  by_cases c : j < i ∧ avQ S k j = 1
  · rw [if_pos c, if_pos ⟨by omega, c.2⟩]
  · rw [if_neg c, if_neg]
    intro q
    by_cases e : j = i
    · subst e; omega
    · exact c ⟨by omega, q.2⟩
theorem avP_y {S : SS} {k i : Int} (h : avQ S k i = 1) (j : Int) : up (avP S k i) i (hg (ssS S) i) j = avP S k (i + 1) j := by
  by_cases e : j = i
  · subst e
    rw [up_same]
    unfold avP
    rw [if_pos ⟨by omega, h⟩]
  · rw [up_ne e]
    unfold avP
    by_cases c : j < i ∧ avQ S k j = 1
    · rw [if_pos c, if_pos ⟨by omega, c.2⟩]
    · rw [if_neg c, if_neg (fun q => c ⟨by omega, q.2⟩)]
theorem avP_n {S : SS} {k i : Int} (h : avQ S k i = 0) (j : Int) : avP S k i j = avP S k (i + 1) j := by
  unfold avP
  by_cases c : j < i ∧ avQ S k j = 1
  · rw [if_pos c, if_pos ⟨by omega, c.2⟩]
  · rw [if_neg c, if_neg]
    intro q
    by_cases e : j = i
    · subst e; omega
    · exact c ⟨by omega, q.2⟩
theorem avS_bd {S : SS} (k : Int) (h : SB S) : SB (avS S k) := by
  obtain ⟨hs, hf, hw, ho, hp⟩ := h
  refine ⟨hs, hf, hw, fun j a b => ?_, fun j a b => ?_⟩
  · show -1 ≤ avO S k 120 j ∧ avO S k 120 j ≤ 119
    unfold avO
    split <;> omega
  · have := hg_bd hs (c := j) ⟨a, b⟩
    show 0 ≤ avP S k 120 j ∧ avP S k 120 j ≤ 38
    unfold avP
    split <;> omega
theorem avS_pt {S : SS} (td : Int → Int) (hr k n : Int) (h : SB S) (hn : 0 ≤ n) : Bd (ssT (hrs td hr (avS S k) n)) 120 0 (0 + 600 * n) :=
  hrs_pt td hr (avS_bd k h) (B := 0) (fun _ _ _ => ⟨Int.le_refl 0, Int.le_refl 0⟩) hn
/-- the best cell, and what it brings, among the first i -/
def avB (S : SS) (t : Int → Int) (k i : Int) : Int × Int := foI (fun j x => if avQ S k j = 1 ∧ x.2 < t j then (j, t j) else x) (-1, -1) i
theorem avB_y {S : SS} {t : Int → Int} {k i : Int} (hi : 0 ≤ i) (h : avQ S k i = 1) (h2 : (avB S t k i).2 < t i) : avB S t k (i + 1) = (i, t i) := by
  unfold avB at h2 ⊢
  rw [foI_s _ _ hi, if_pos ⟨h, h2⟩]
theorem avB_n {S : SS} {t : Int → Int} {k i : Int} (hi : 0 ≤ i) (h : avQ S k i = 0 ∨ t i ≤ (avB S t k i).2) : avB S t k (i + 1) = avB S t k i := by
  unfold avB at h ⊢
  rw [foI_s _ _ hi, if_neg]
  intro q
  omega
theorem avB_bd {S : SS} {t : Int → Int} {B : Int} (k : Int) (h : Bd t 120 0 B) (hB : 0 ≤ B) {i : Int} (h0 : 0 ≤ i) (h1 : i ≤ 120) : -1 ≤ (avB S t k i).2 ∧ (avB S t k i).2 ≤ B := by
  have key : ∀ n : Nat, (n : Int) ≤ 120 → -1 ≤ (avB S t k (n : Int)).2 ∧ (avB S t k (n : Int)).2 ≤ B := by
    intro n
    induction n with
    | zero => intro _; exact ⟨Int.le_refl (-1), by show (-1 : Int) ≤ B; omega⟩
    | succ n ih =>
      intro hn
      have e : ((n + 1 : Nat) : Int) = (n : Int) + 1 := by omega
      have h2 := h n (by omega) (by omega)
      have h3 := ih (by omega)
      rw [e]
      by_cases c : avQ S k n = 1 ∧ (avB S t k n).2 < t n
      · rw [avB_y (by omega) c.1 c.2]
        show -1 ≤ t n ∧ t n ≤ B
        omega
      · rw [avB_n (by omega) (by unfold avQ at c ⊢; omega)]
        exact h3
  have := key i.toNat (by omega)
  rwa [Int.toNat_of_nonneg h0] at this
set_option maxHeartbeats 4000000 in
set_option maxRecDepth 100000 in
theorem c_X1_addTeam (l : Launch) (hlf : l.stackTraces = false) (D : va_G) (g : Nat → ClassId) (x : Nat) (b : Nat → Nat) (h h2 : Nat) (a a2 : Nat → Nat) (td bu sr lg : Int → Int) (tm hr en : Int) (S T : SS)  (hI : LI td bu sr lg tm hr S)  : ZXi (S := Unit) l yX1_addTeam wsX1_addTeam ({ frames := 6, cells := 1, slots := 6, locals := 90 }) D g [.ref x] ((wLe g x b h h2 td bu sr lg tm hr en) ++ ((wSh g h a (ssS S) (ssF S) (ssW S) (ssO S) (ssP S) (ssT S) (ssLo S) (ssSl S) (ssFa S)) ++ ((wSh g h2 a2 (ssS T) (ssF T) (ssW T) (ssO T) (ssP T) (ssT T) (ssLo T) (ssSl T) (ssFa T))))) (fun z _ => tm < 4 ∧ z = tm) (fun _ => (wLe g x b h h2 td bu sr lg (tm + 1) hr en) ++ ((wSh g h a (ssS S) (ssF S) (ssW S) (ssO S) (ssP S) (ssT S) (ssLo S) (ssSl S) (ssFa S)) ++ ((wSh g h2 a2 (ssS T) (ssF T) (ssW T) (ssO T) (ssP T) (ssT T) (ssLo T) (ssSl T) (ssFa T))))) (fun Ex => Ex = zXs ∧ 4 ≤ tm) 1 6 := by
  have hinX1 : ∀ w ∈ u_ws RX1 TX1 9, w ∈ wsX1_addTeam := by decide +kernel
  have L43 : Cond.fieldLink RX1 43 "SandcastleLeague" "teams" "I" ∈ wsX1_addTeam := by decide +kernel
  obtain ⟨htd, hbu, hsr, hlg, htm, hhr, hSB, hT⟩ := id hI
  obtain ⟨hs, hf, hw, ho, hp⟩ := id hSB
  refine ZXi.of hlf cX1_addTeam 1 [(0, .ref x)] (by decide +kernel) rfl (nle rfl) rfl rfl ?_
  intro E hC hN hX hret hnew hprop
  refine z_aloadn 1 hC 0 dX1_addTeam_0 rfl rfl rfl ?_
  refine z_get 4 0 6 hC hinX1 L43 dX1_addTeam_1 rfl rfl rfl (by decide) rfl ?_
  refine z_iconst 5 hC dX1_addTeam_4 rfl ?_
  refine z_icmp_lt 18 8 hC dX1_addTeam_5 (by decide) rfl (by omega) (by omega) (fun c_1 => ?_) (fun c_1 => ?_)
  · skip
    refine z_aloadn 19 hC 0 dX1_addTeam_18 rfl rfl rfl ?_
    refine z_dup 20 hC dX1_addTeam_19 rfl rfl ?_
    refine z_get 23 0 6 hC hinX1 L43 dX1_addTeam_20 rfl rfl rfl (by decide) rfl ?_
    refine z_iconst 24 hC dX1_addTeam_23 rfl ?_
    refine z_iadd 25 hC dX1_addTeam_24 rfl ?_
    refine z_put (ty := .int) (ws' := (wLe g x b h h2 td bu sr lg (tm + 1) hr en) ++ ((wSh g h a (ssS S) (ssF S) (ssW S) (ssO S) (ssP S) (ssT S) (ssLo S) (ssSl S) (ssFa S)) ++ ((wSh g h2 a2 (ssS T) (ssF T) (ssW T) (ssO T) (ssP T) (ssT T) (ssLo T) (ssSl T) (ssFa T))))) 28 0 6 hC tyX1 tyX1_ok nmX1 hinX1 L43 dX1_addTeam_25 rfl rfl rfl (by decide) rfl (by decide +kernel) rfl rfl (nle rfl) rfl ?_
    refine z_aloadn 29 hC 0 dX1_addTeam_28 rfl rfl rfl ?_
    refine z_get 32 0 6 hC hinX1 L43 dX1_addTeam_29 rfl rfl rfl (by decide) rfl ?_
    refine z_iconst 33 hC dX1_addTeam_32 rfl ?_
    refine z_isub 34 hC dX1_addTeam_33 rfl ?_
    refine z_widen (k2 := 1) (n2 := 6) (by omega) (by omega) ?_
    exact hret () dX1_addTeam_34 rfl (by omega)
  · skip
    exact hnew (cls := zXs) (text := "there are 4 teams") (by decide +kernel) (by decide +kernel) (by decide +kernel) (by decide +kernel) (by decide +kernel) zn_s zg_s dX1_addTeam_8 dX1_addTeam_11 dX1_addTeam_12 dX1_addTeam_14 dX1_addTeam_17 (by decide) (nle rfl) (by decide) (by decide) (by decide) (by decide) (by exact ⟨rfl, by omega⟩)
set_option maxHeartbeats 4000000 in
set_option maxRecDepth 100000 in
theorem c_X1_setTide (l : Launch) (hlf : l.stackTraces = false) (D : va_G) (g : Nat → ClassId) (x : Nat) (b : Nat → Nat) (h h2 : Nat) (a a2 : Nat → Nat) (td bu sr lg : Int → Int) (tm hr en : Int) (S T : SS) (v : Int) (L : Int) (hI : LI td bu sr lg tm hr S) (hv : -2147483648 ≤ v ∧ v ≤ 2147483647) (hL : -2147483648 ≤ L ∧ L ≤ 2147483647) : ZXi (S := Unit) l yX1_setTide wsX1_setTide ({ frames := 7, cells := 2, slots := 12, locals := 120 }) D g [.ref x, .int (iI v), .int (iI L)] ((wLe g x b h h2 td bu sr lg tm hr en) ++ ((wSh g h a (ssS S) (ssF S) (ssW S) (ssO S) (ssP S) (ssT S) (ssLo S) (ssSl S) (ssFa S)) ++ ((wSh g h2 a2 (ssS T) (ssF T) (ssW T) (ssO T) (ssP T) (ssT T) (ssLo T) (ssSl T) (ssFa T))))) (fun z _ => ((if ¬ (0 ≤ v ∧ v < 12) then 1 else if ¬ (0 ≤ L ∧ L ≤ 30) then 2 else 0 : Int)) = 0 ∧ z = td v) (fun _ => (wLe g x b h h2 (up td v L) bu sr lg tm hr en) ++ ((wSh g h a (ssS S) (ssF S) (ssW S) (ssO S) (ssP S) (ssT S) (ssLo S) (ssSl S) (ssFa S)) ++ ((wSh g h2 a2 (ssS T) (ssF T) (ssW T) (ssO T) (ssP T) (ssT T) (ssLo T) (ssSl T) (ssFa T))))) (fun Ex => xIAS (if ¬ (0 ≤ v ∧ v < 12) then 1 else if ¬ (0 ≤ L ∧ L ≤ 30) then 2 else 0 : Int) Ex) 2 12 := by
  have hinX1 : ∀ w ∈ u_ws RX1 TX1 9, w ∈ wsX1_setTide := by decide +kernel
  have L28 : Cond.fieldLink RX1 28 "SandcastleLeague" "tides" "[I" ∈ wsX1_setTide := by decide +kernel
  obtain ⟨htd, hbu, hsr, hlg, htm, hhr, hSB, hT⟩ := id hI
  obtain ⟨hs, hf, hw, ho, hp⟩ := id hSB
  refine ZXi.of hlf cX1_setTide 4 [(0, .ref x), (1, .int (iI v)), (2, .int (iI L))] (by decide +kernel) rfl (nle rfl) rfl rfl ?_
  intro E hC hN hX hret hnew hprop
  refine z_iloadn 1 hC 1 dX1_setTide_0 rfl rfl rfl ?_
  refine z_if_lt 10 4 hC dX1_setTide_1 (by decide) rfl (by omega) (fun c_1 => ?_) (fun c_1 => ?_)
  · skip
    exact hnew (cls := zXi) (text := "the hour is not 0 to 11") (by decide +kernel) (by decide +kernel) (by decide +kernel) (by decide +kernel) (by decide +kernel) zn_i zg_i dX1_setTide_10 dX1_setTide_13 dX1_setTide_14 dX1_setTide_16 dX1_setTide_19 (by decide) (nle rfl) (by decide) (by decide) (by decide) (by decide) (by first | exact x1 (by omega) rfl | exact x2 (by omega) rfl)
  · skip
    refine z_iloadn 5 hC 1 dX1_setTide_4 rfl rfl rfl ?_
    refine z_bipush 7 hC dX1_setTide_5 (by decide) rfl ?_
    refine z_icmp_lt 20 10 hC dX1_setTide_7 (by decide) rfl (by omega) (by omega) (fun c_2 => ?_) (fun c_2 => ?_)
    · skip
      refine z_iloadn 21 hC 2 dX1_setTide_20 rfl rfl rfl ?_
      refine z_callXv (wr := [(x, .inr (1, [.ref h, .ref h2, .ref (b 0), .ref (b 1), .ref (b 2), .ref (b 3), .int (iI tm), .int (iI hr), .int (iI en)])), ((b 0), ar g 12 td), ((b 1), ar g 4 bu), ((b 2), ar g 4 sr), ((b 3), ar g 4 lg), (h, .inr (0, [.ref (a 0), .ref (a 1), .ref (a 2), .ref (a 3), .ref (a 4), .ref (a 5), .int (iI (ssLo S)), .int (iI (ssSl S)), .int (iI (ssFa S))])), ((a 0), ar g 120 (ssS S)), ((a 1), ar g 120 (ssF S)), ((a 2), ar g 120 (ssW S)), ((a 3), ar g 120 (ssO S)), ((a 4), ar g 120 (ssP S)), ((a 5), ar g 120 (ssT S)), (h2, .inr (0, [.ref (a2 0), .ref (a2 1), .ref (a2 2), .ref (a2 3), .ref (a2 4), .ref (a2 5), .int (iI (ssLo T)), .int (iI (ssSl T)), .int (iI (ssFa T))])), ((a2 0), ar g 120 (ssS T)), ((a2 1), ar g 120 (ssF T)), ((a2 2), ar g 120 (ssW T)), ((a2 3), ar g 120 (ssO T)), ((a2 4), ar g 120 (ssP T)), ((a2 5), ar g 120 (ssT T))]) (w2 := fun _ => (wLe g x b h h2 td bu sr lg tm hr en) ++ ((wSh g h a (ssS S) (ssF S) (ssW S) (ssO S) (ssP S) (ssT S) (ssLo S) (ssSl S) (ssFa S)) ++ ((wSh g h2 a2 (ssS T) (ssF T) (ssW T) (ssO T) (ssP T) (ssT T) (ssLo T) (ssSl T) (ssFa T))))) 24 hC [] [0, 1, 2, 3, 4, 5, 6, 7, 8, 9, 10, 11, 12, 13, 14, 15, 16, 17, 18] [0, 1, 2, 3, 4, 5, 6, 7, 8, 9, 10, 11, 12, 13, 14, 15, 16, 17, 18] [0, 1, 2, 3, 4, 5, 6, 7, 8, 9, 10, 11, 12, 13, 14, 15, 16, 17, 18] (z_runXS (nA := 1) hC hN hX (c_X1_requireLevel l hlf D g L (by omega)) [] rfl (by decide) gX1_setTide_X1_requireLevel (by decide +kernel) rfl rfl rfl ⟨by decide, by decide⟩ rfl rfl (nle rfl) dX1_setTide_21 ⟨by decide, by decide⟩) rfl rfl (by decide) (by decide) rfl (by decide) (fun _ => rfl) (by decide) rfl (k2 := 1) (n2 := 6) rfl rfl (hprop (by decide) (by decide) (by intro Ex q9; have q8 := q9.2; exact x2 (by omega) q9.1)) (fun _ p_3 => ?_)
      refine z_aloadn 25 hC 0 dX1_setTide_24 rfl rfl rfl ?_
      refine z_get 28 0 2 hC hinX1 L28 dX1_setTide_25 rfl rfl rfl (by decide) rfl ?_
      refine z_iloadn 29 hC 1 dX1_setTide_28 rfl rfl rfl ?_
      refine z_iald 30 1 hC dX1_setTide_29 rfl rfl (by decide) (by omega) ?_
      have b_4 := htd v (by omega) (by omega)
      refine z_istoren (lv' := [(3, .int (iI (td v))), (0, .ref x), (1, .int (iI v)), (2, .int (iI L))]) 31 hC dX1_setTide_30 rfl rfl (by decide) rfl ?_
      refine z_aloadn 32 hC 1 dX1_setTide_31 rfl rfl rfl ?_
      refine z_get 35 0 2 hC hinX1 L28 dX1_setTide_32 rfl rfl rfl (by decide) rfl ?_
      refine z_iloadn 36 hC 2 dX1_setTide_35 rfl rfl rfl ?_
      refine z_iloadn 37 hC 3 dX1_setTide_36 rfl rfl rfl ?_
      refine z_iast (ws' := (wLe g x b h h2 (up td v L) bu sr lg tm hr en) ++ ((wSh g h a (ssS S) (ssF S) (ssW S) (ssO S) (ssP S) (ssT S) (ssLo S) (ssSl S) (ssFa S)) ++ ((wSh g h2 a2 (ssS T) (ssF T) (ssW T) (ssO T) (ssP T) (ssT T) (ssLo T) (ssSl T) (ssFa T))))) 38 1 hC dX1_setTide_37 rfl rfl (by decide) (by omega) rfl ?_
      refine z_iloadn 39 hC 0 dX1_setTide_38 rfl rfl rfl ?_
      refine z_widen (k2 := 2) (n2 := 12) (by omega) (by omega) ?_
      exact hret () dX1_setTide_39 rfl (by omega)
    · skip
      exact hnew (cls := zXi) (text := "the hour is not 0 to 11") (by decide +kernel) (by decide +kernel) (by decide +kernel) (by decide +kernel) (by decide +kernel) zn_i zg_i dX1_setTide_10 dX1_setTide_13 dX1_setTide_14 dX1_setTide_16 dX1_setTide_19 (by decide) (nle rfl) (by decide) (by decide) (by decide) (by decide) (by first | exact x1 (by omega) rfl | exact x2 (by omega) rfl)
set_option maxHeartbeats 4000000 in
set_option maxRecDepth 100000 in
theorem c_X1_dig (l : Launch) (hlf : l.stackTraces = false) (D : va_G) (g : Nat → ClassId) (x : Nat) (b : Nat → Nat) (h h2 : Nat) (a a2 : Nat → Nat) (td bu sr lg : Int → Int) (tm hr en : Int) (S T : SS) (k : Int) (cx : Int) (cy : Int) (n : Int) (hI : LI td bu sr lg tm hr S) (hk : -2147483648 ≤ k ∧ k ≤ 2147483647) (hcx : -2147483648 ≤ cx ∧ cx ≤ 2147483647) (hcy : -2147483648 ≤ cy ∧ cy ≤ 2147483647) (hn : -2147483648 ≤ n ∧ n ≤ 2147483647) : ZXi (S := Unit) l yX1_dig wsX1_dig ({ frames := 7, cells := 4, slots := 24, locals := 150 }) D g [.ref x, .int (iI k), .int (iI cx), .int (iI cy), .int (iI n)] ((wLe g x b h h2 td bu sr lg tm hr en) ++ ((wSh g h a (ssS S) (ssF S) (ssW S) (ssO S) (ssP S) (ssT S) (ssLo S) (ssSl S) (ssFa S)) ++ ((wSh g h2 a2 (ssS T) (ssF T) (ssW T) (ssO T) (ssP T) (ssT T) (ssLo T) (ssSl T) (ssFa T))))) (fun z _ => thrD tm sr k cx cy n = 0 ∧ z = min (min n (40 - bu k)) (ssS S (cx + 12 * cy))) (fun _ => (wLe g x b h h2 td (up bu k (bu k + (min (min n (40 - bu k)) (ssS S (cx + 12 * cy))))) (up sr k (sr k - 1)) lg tm hr en) ++ ((wSh g h a (up (ssS S) (cx + 12 * cy) (ssS S (cx + 12 * cy) - (min (min n (40 - bu k)) (ssS S (cx + 12 * cy))))) (up (ssF S) (cx + 12 * cy) 0) (ssW S) (ssO S) (ssP S) (ssT S) (ssLo S) (ssSl S) (ssFa S)) ++ ((wSh g h2 a2 (ssS T) (ssF T) (ssW T) (ssO T) (ssP T) (ssT T) (ssLo T) (ssSl T) (ssFa T))))) (fun Ex => xIAS (thrD tm sr k cx cy n) Ex) 4 24 := by
  have hinX1 : ∀ w ∈ u_ws RX1 TX1 9, w ∈ wsX1_dig := by decide +kernel
  have L10 : Cond.fieldLink RX1 10 "SandcastleLeague" "shore" "LSandcastleLeague$Shore;" ∈ wsX1_dig := by decide +kernel
  have L31 : Cond.fieldLink RX1 31 "SandcastleLeague" "bucket" "[I" ∈ wsX1_dig := by decide +kernel
  have L34 : Cond.fieldLink RX1 34 "SandcastleLeague" "strength" "[I" ∈ wsX1_dig := by decide +kernel
  obtain ⟨htd, hbu, hsr, hlg, htm, hhr, hSB, hT⟩ := id hI
  obtain ⟨hs, hf, hw, ho, hp⟩ := id hSB
  refine ZXi.of hlf cX1_dig 6 [(0, .ref x), (1, .int (iI k)), (2, .int (iI cx)), (3, .int (iI cy)), (4, .int (iI n))] (by decide +kernel) rfl (nle rfl) rfl rfl ?_
  intro E hC hN hX hret hnew hprop
  refine z_aloadn 1 hC 0 dX1_dig_0 rfl rfl rfl ?_
  refine z_iloadn 2 hC 1 dX1_dig_1 rfl rfl rfl ?_
  refine z_callXv (wr := [(h, .inr (0, [.ref (a 0), .ref (a 1), .ref (a 2), .ref (a 3), .ref (a 4), .ref (a 5), .int (iI (ssLo S)), .int (iI (ssSl S)), .int (iI (ssFa S))])), ((a 0), ar g 120 (ssS S)), ((a 1), ar g 120 (ssF S)), ((a 2), ar g 120 (ssW S)), ((a 3), ar g 120 (ssO S)), ((a 4), ar g 120 (ssP S)), ((a 5), ar g 120 (ssT S)), (h2, .inr (0, [.ref (a2 0), .ref (a2 1), .ref (a2 2), .ref (a2 3), .ref (a2 4), .ref (a2 5), .int (iI (ssLo T)), .int (iI (ssSl T)), .int (iI (ssFa T))])), ((a2 0), ar g 120 (ssS T)), ((a2 1), ar g 120 (ssF T)), ((a2 2), ar g 120 (ssW T)), ((a2 3), ar g 120 (ssO T)), ((a2 4), ar g 120 (ssP T)), ((a2 5), ar g 120 (ssT T))]) (w2 := fun _ => (wLe g x b h h2 td bu sr lg tm hr en) ++ ((wSh g h a (ssS S) (ssF S) (ssW S) (ssO S) (ssP S) (ssT S) (ssLo S) (ssSl S) (ssFa S)) ++ ((wSh g h2 a2 (ssS T) (ssF T) (ssW T) (ssO T) (ssP T) (ssT T) (ssLo T) (ssSl T) (ssFa T))))) 5 hC [0, 1, 2, 3, 4] [5, 6, 7, 8, 9, 10, 11, 12, 13, 14, 15, 16, 17, 18] [14, 15, 16, 17, 18, 0, 1, 2, 3, 4, 5, 6, 7, 8, 9, 10, 11, 12, 13] [14, 15, 16, 17, 18, 0, 1, 2, 3, 4, 5, 6, 7, 8, 9, 10, 11, 12, 13] (z_runXV (nA := 1) hC hN hX (c_X1_requireTeam l hlf D g x b h h2 td bu sr lg tm hr en k (by omega) (by omega)) [0, 1, 2, 3, 4] rfl (by decide) gX1_dig_X1_requireTeam (by decide +kernel) rfl rfl rfl ⟨by decide, by decide⟩ rfl rfl (nle rfl) dX1_dig_2 ⟨by decide, by decide⟩ 0 rfl rfl) rfl rfl (by decide) (by decide) rfl (by decide) (fun _ => rfl) (by decide) rfl (k2 := 1) (n2 := 6) rfl rfl (hprop (by decide) (by decide) (by intro Ex q9; have q8 := q9.2; first | exact x1 (by unfold thrD; omega) q9.1 | exact x2 (by unfold thrD; omega) q9.1 | exact x3 (by unfold thrD; omega) q9.1)) (fun _ p_1 => ?_)
  refine z_iloadn 6 hC 1 dX1_dig_5 rfl rfl rfl ?_
  refine z_iloadn 7 hC 2 dX1_dig_6 rfl rfl rfl ?_
  refine z_iloadn 8 hC 3 dX1_dig_7 rfl rfl rfl ?_
  refine z_callXv (wr := [(x, .inr (1, [.ref h, .ref h2, .ref (b 0), .ref (b 1), .ref (b 2), .ref (b 3), .int (iI tm), .int (iI hr), .int (iI en)])), ((b 0), ar g 12 td), ((b 1), ar g 4 bu), ((b 2), ar g 4 sr), ((b 3), ar g 4 lg), (h, .inr (0, [.ref (a 0), .ref (a 1), .ref (a 2), .ref (a 3), .ref (a 4), .ref (a 5), .int (iI (ssLo S)), .int (iI (ssSl S)), .int (iI (ssFa S))])), ((a 0), ar g 120 (ssS S)), ((a 1), ar g 120 (ssF S)), ((a 2), ar g 120 (ssW S)), ((a 3), ar g 120 (ssO S)), ((a 4), ar g 120 (ssP S)), ((a 5), ar g 120 (ssT S)), (h2, .inr (0, [.ref (a2 0), .ref (a2 1), .ref (a2 2), .ref (a2 3), .ref (a2 4), .ref (a2 5), .int (iI (ssLo T)), .int (iI (ssSl T)), .int (iI (ssFa T))])), ((a2 0), ar g 120 (ssS T)), ((a2 1), ar g 120 (ssF T)), ((a2 2), ar g 120 (ssW T)), ((a2 3), ar g 120 (ssO T)), ((a2 4), ar g 120 (ssP T)), ((a2 5), ar g 120 (ssT T))]) (w2 := fun _ => (wLe g x b h h2 td bu sr lg tm hr en) ++ ((wSh g h a (ssS S) (ssF S) (ssW S) (ssO S) (ssP S) (ssT S) (ssLo S) (ssSl S) (ssFa S)) ++ ((wSh g h2 a2 (ssS T) (ssF T) (ssW T) (ssO T) (ssP T) (ssT T) (ssLo T) (ssSl T) (ssFa T))))) 11 hC [] [0, 1, 2, 3, 4, 5, 6, 7, 8, 9, 10, 11, 12, 13, 14, 15, 16, 17, 18] [0, 1, 2, 3, 4, 5, 6, 7, 8, 9, 10, 11, 12, 13, 14, 15, 16, 17, 18] [0, 1, 2, 3, 4, 5, 6, 7, 8, 9, 10, 11, 12, 13, 14, 15, 16, 17, 18] (z_runXS (nA := 3) hC hN hX (c_X1_requireArea l hlf D g k cx cy (by omega) (by omega) (by omega)) [] rfl (by decide) gX1_dig_X1_requireArea (by decide +kernel) rfl rfl rfl ⟨by decide, by decide⟩ rfl rfl (nle rfl) dX1_dig_8 ⟨by decide, by decide⟩) rfl rfl (by decide) (by decide) rfl (by decide) (fun _ => rfl) (by decide) rfl (k2 := 2) (n2 := 12) rfl rfl (hprop (by decide) (by decide) (by intro Ex q9; have q8 := q9.2; first | exact x1 (by unfold thrD; omega) q9.1 | exact x2 (by unfold thrD; omega) q9.1 | exact x3 (by unfold thrD; omega) q9.1)) (fun _ p_2 => ?_)
  refine z_iload 13 hC 4 dX1_dig_11 rfl rfl ?_
  refine z_callXv (wr := [(x, .inr (1, [.ref h, .ref h2, .ref (b 0), .ref (b 1), .ref (b 2), .ref (b 3), .int (iI tm), .int (iI hr), .int (iI en)])), ((b 0), ar g 12 td), ((b 1), ar g 4 bu), ((b 2), ar g 4 sr), ((b 3), ar g 4 lg), (h, .inr (0, [.ref (a 0), .ref (a 1), .ref (a 2), .ref (a 3), .ref (a 4), .ref (a 5), .int (iI (ssLo S)), .int (iI (ssSl S)), .int (iI (ssFa S))])), ((a 0), ar g 120 (ssS S)), ((a 1), ar g 120 (ssF S)), ((a 2), ar g 120 (ssW S)), ((a 3), ar g 120 (ssO S)), ((a 4), ar g 120 (ssP S)), ((a 5), ar g 120 (ssT S)), (h2, .inr (0, [.ref (a2 0), .ref (a2 1), .ref (a2 2), .ref (a2 3), .ref (a2 4), .ref (a2 5), .int (iI (ssLo T)), .int (iI (ssSl T)), .int (iI (ssFa T))])), ((a2 0), ar g 120 (ssS T)), ((a2 1), ar g 120 (ssF T)), ((a2 2), ar g 120 (ssW T)), ((a2 3), ar g 120 (ssO T)), ((a2 4), ar g 120 (ssP T)), ((a2 5), ar g 120 (ssT T))]) (w2 := fun _ => (wLe g x b h h2 td bu sr lg tm hr en) ++ ((wSh g h a (ssS S) (ssF S) (ssW S) (ssO S) (ssP S) (ssT S) (ssLo S) (ssSl S) (ssFa S)) ++ ((wSh g h2 a2 (ssS T) (ssF T) (ssW T) (ssO T) (ssP T) (ssT T) (ssLo T) (ssSl T) (ssFa T))))) 16 hC [] [0, 1, 2, 3, 4, 5, 6, 7, 8, 9, 10, 11, 12, 13, 14, 15, 16, 17, 18] [0, 1, 2, 3, 4, 5, 6, 7, 8, 9, 10, 11, 12, 13, 14, 15, 16, 17, 18] [0, 1, 2, 3, 4, 5, 6, 7, 8, 9, 10, 11, 12, 13, 14, 15, 16, 17, 18] (z_runXS (nA := 1) hC hN hX (c_X1_requireAmount l hlf D g n (by omega)) [] rfl (by decide) gX1_dig_X1_requireAmount (by decide +kernel) rfl rfl rfl ⟨by decide, by decide⟩ rfl rfl (nle rfl) dX1_dig_13 ⟨by decide, by decide⟩) rfl rfl (by decide) (by decide) rfl (by decide) (fun _ => rfl) (by decide) rfl (k2 := 3) (n2 := 18) rfl rfl (hprop (by decide) (by decide) (by intro Ex q9; have q8 := q9.2; first | exact x1 (by unfold thrD; omega) q9.1 | exact x2 (by unfold thrD; omega) q9.1 | exact x3 (by unfold thrD; omega) q9.1)) (fun _ p_3 => ?_)
  refine z_aloadn 17 hC 0 dX1_dig_16 rfl rfl rfl ?_
  refine z_iloadn 18 hC 1 dX1_dig_17 rfl rfl rfl ?_
  refine z_callXv (wr := [(h, .inr (0, [.ref (a 0), .ref (a 1), .ref (a 2), .ref (a 3), .ref (a 4), .ref (a 5), .int (iI (ssLo S)), .int (iI (ssSl S)), .int (iI (ssFa S))])), ((a 0), ar g 120 (ssS S)), ((a 1), ar g 120 (ssF S)), ((a 2), ar g 120 (ssW S)), ((a 3), ar g 120 (ssO S)), ((a 4), ar g 120 (ssP S)), ((a 5), ar g 120 (ssT S)), (h2, .inr (0, [.ref (a2 0), .ref (a2 1), .ref (a2 2), .ref (a2 3), .ref (a2 4), .ref (a2 5), .int (iI (ssLo T)), .int (iI (ssSl T)), .int (iI (ssFa T))])), ((a2 0), ar g 120 (ssS T)), ((a2 1), ar g 120 (ssF T)), ((a2 2), ar g 120 (ssW T)), ((a2 3), ar g 120 (ssO T)), ((a2 4), ar g 120 (ssP T)), ((a2 5), ar g 120 (ssT T))]) (w2 := fun _ => (wLe g x b h h2 td bu sr lg tm hr en) ++ ((wSh g h a (ssS S) (ssF S) (ssW S) (ssO S) (ssP S) (ssT S) (ssLo S) (ssSl S) (ssFa S)) ++ ((wSh g h2 a2 (ssS T) (ssF T) (ssW T) (ssO T) (ssP T) (ssT T) (ssLo T) (ssSl T) (ssFa T))))) 21 hC [0, 1, 2, 3, 4] [5, 6, 7, 8, 9, 10, 11, 12, 13, 14, 15, 16, 17, 18] [14, 15, 16, 17, 18, 0, 1, 2, 3, 4, 5, 6, 7, 8, 9, 10, 11, 12, 13] [14, 15, 16, 17, 18, 0, 1, 2, 3, 4, 5, 6, 7, 8, 9, 10, 11, 12, 13] (z_runXV (nA := 1) hC hN hX (c_X1_requireStrength l hlf D g x b h h2 td bu sr lg tm hr en k (by omega) hsr) [0, 1, 2, 3, 4] rfl (by decide) gX1_dig_X1_requireStrength (by decide +kernel) rfl rfl rfl ⟨by decide, by decide⟩ rfl rfl (nle rfl) dX1_dig_18 ⟨by decide, by decide⟩ 0 rfl rfl) rfl rfl (by decide) (by decide) rfl (by decide) (fun _ => rfl) (by decide) rfl (k2 := 4) (n2 := 24) rfl rfl (hprop (by decide) (by decide) (by intro Ex q9; have q8 := q9.2; first | exact x1 (by unfold thrD; omega) q9.1 | exact x2 (by unfold thrD; omega) q9.1 | exact x3 (by unfold thrD; omega) q9.1)) (fun _ p_4 => ?_)
  refine z_aloadn 22 hC 0 dX1_dig_21 rfl rfl rfl ?_
  refine z_get 25 0 4 hC hinX1 L34 dX1_dig_22 rfl rfl rfl (by decide) rfl ?_
  refine z_iloadn 26 hC 1 dX1_dig_25 rfl rfl rfl ?_
  refine z_dup2 27 hC dX1_dig_26 rfl rfl rfl ?_
  refine z_iald 28 3 hC dX1_dig_27 rfl rfl (by decide) (by omega) ?_
  have b_5 := hsr k (by omega) (by omega)
  refine z_iconst 29 hC dX1_dig_28 rfl ?_
  refine z_isub 30 hC dX1_dig_29 rfl ?_
  refine z_iast (ws' := (wLe g x b h h2 td bu (up sr k ((sr k) - 1)) lg tm hr en) ++ ((wSh g h a (ssS S) (ssF S) (ssW S) (ssO S) (ssP S) (ssT S) (ssLo S) (ssSl S) (ssFa S)) ++ ((wSh g h2 a2 (ssS T) (ssF T) (ssW T) (ssO T) (ssP T) (ssT T) (ssLo T) (ssSl T) (ssFa T))))) 31 3 hC dX1_dig_30 rfl rfl (by decide) (by omega) rfl ?_
  refine z_aloadn 32 hC 0 dX1_dig_31 rfl rfl rfl ?_
  refine z_get 35 0 0 hC hinX1 L10 dX1_dig_32 rfl rfl rfl (by decide) rfl ?_
  refine z_iloadn 36 hC 2 dX1_dig_35 rfl rfl rfl ?_
  refine z_iloadn 37 hC 3 dX1_dig_36 rfl rfl rfl ?_
  refine z_calli (wr := [(x, .inr (1, [.ref h, .ref h2, .ref (b 0), .ref (b 1), .ref (b 2), .ref (b 3), .int (iI tm), .int (iI hr), .int (iI en)])), ((b 0), ar g 12 td), ((b 1), ar g 4 bu), ((b 2), ar g 4 (up sr k ((sr k) - 1))), ((b 3), ar g 4 lg), (h, .inr (0, [.ref (a 0), .ref (a 1), .ref (a 2), .ref (a 3), .ref (a 4), .ref (a 5), .int (iI (ssLo S)), .int (iI (ssSl S)), .int (iI (ssFa S))])), ((a 0), ar g 120 (ssS S)), ((a 1), ar g 120 (ssF S)), ((a 2), ar g 120 (ssW S)), ((a 3), ar g 120 (ssO S)), ((a 4), ar g 120 (ssP S)), ((a 5), ar g 120 (ssT S)), (h2, .inr (0, [.ref (a2 0), .ref (a2 1), .ref (a2 2), .ref (a2 3), .ref (a2 4), .ref (a2 5), .int (iI (ssLo T)), .int (iI (ssSl T)), .int (iI (ssFa T))])), ((a2 0), ar g 120 (ssS T)), ((a2 1), ar g 120 (ssF T)), ((a2 2), ar g 120 (ssW T)), ((a2 3), ar g 120 (ssO T)), ((a2 4), ar g 120 (ssP T)), ((a2 5), ar g 120 (ssT T))]) (w2 := fun _ => (wLe g x b h h2 td bu (up sr k ((sr k) - 1)) lg tm hr en) ++ ((wSh g h a (ssS S) (ssF S) (ssW S) (ssO S) (ssP S) (ssT S) (ssLo S) (ssSl S) (ssFa S)) ++ ((wSh g h2 a2 (ssS T) (ssF T) (ssW T) (ssO T) (ssP T) (ssT T) (ssLo T) (ssSl T) (ssFa T))))) 40 hC [] [0, 1, 2, 3, 4, 5, 6, 7, 8, 9, 10, 11, 12, 13, 14, 15, 16, 17, 18] [0, 1, 2, 3, 4, 5, 6, 7, 8, 9, 10, 11, 12, 13, 14, 15, 16, 17, 18] (z_runS (nA := 2) hC hN (c_X1_cellAt l D g cx cy ) [] rfl (by decide) gX1_dig_X1_cellAt (by decide +kernel) rfl rfl rfl ⟨by decide, by decide⟩ rfl rfl (nle rfl) dX1_dig_37 ⟨by decide, by decide⟩) rfl rfl (by decide) (by decide) (fun _ => rfl) (by decide) rfl (k2 := 4) (n2 := 24) rfl rfl (fun z_6 _ p_7 => ?_)
  subst p_7
  refine z_iload 42 hC 4 dX1_dig_40 rfl rfl ?_
  refine z_bipush 44 hC dX1_dig_42 (by decide) rfl ?_
  refine z_aloadn 45 hC 0 dX1_dig_44 rfl rfl rfl ?_
  refine z_get 48 0 3 hC hinX1 L31 dX1_dig_45 rfl rfl rfl (by decide) rfl ?_
  refine z_iloadn 49 hC 1 dX1_dig_48 rfl rfl rfl ?_
  refine z_iald 50 2 hC dX1_dig_49 rfl rfl (by decide) (by omega) ?_
  have b_8 := hbu k (by omega) (by omega)
  refine z_isub 51 hC dX1_dig_50 rfl ?_
  refine z_mmin 54 hC (by decide +kernel) (by decide +kernel) (by decide +kernel) (by decide +kernel) (by decide) (nle rfl) (by decide) (by decide) (by omega) (by omega) dX1_dig_51 rfl ?_
  refine z_calli (wr := [(x, .inr (1, [.ref h, .ref h2, .ref (b 0), .ref (b 1), .ref (b 2), .ref (b 3), .int (iI tm), .int (iI hr), .int (iI en)])), ((b 0), ar g 12 td), ((b 1), ar g 4 bu), ((b 2), ar g 4 (up sr k ((sr k) - 1))), ((b 3), ar g 4 lg), (h2, .inr (0, [.ref (a2 0), .ref (a2 1), .ref (a2 2), .ref (a2 3), .ref (a2 4), .ref (a2 5), .int (iI (ssLo T)), .int (iI (ssSl T)), .int (iI (ssFa T))])), ((a2 0), ar g 120 (ssS T)), ((a2 1), ar g 120 (ssF T)), ((a2 2), ar g 120 (ssW T)), ((a2 3), ar g 120 (ssO T)), ((a2 4), ar g 120 (ssP T)), ((a2 5), ar g 120 (ssT T))]) (w2 := fun _ => (wLe g x b h h2 td bu (up sr k ((sr k) - 1)) lg tm hr en) ++ ((wSh g h a (up (ssS S) (cx + 12 * cy) ((ssS S) (cx + 12 * cy) - min (min n (40 - (bu k))) ((ssS S) (cx + 12 * cy)))) (up (ssF S) (cx + 12 * cy) 0) (ssW S) (ssO S) (ssP S) (ssT S) (ssLo S) (ssSl S) (ssFa S)) ++ ((wSh g h2 a2 (ssS T) (ssF T) (ssW T) (ssO T) (ssP T) (ssT T) (ssLo T) (ssSl T) (ssFa T))))) 57 hC [5, 6, 7, 8, 9, 10, 11] [0, 1, 2, 3, 4, 12, 13, 14, 15, 16, 17, 18] [0, 1, 2, 3, 4, 12, 13, 14, 15, 16, 17, 18, 5, 6, 7, 8, 9, 10, 11] (z_runV (nA := 2) hC hN (c_X0_takeSand l D g h a (ssS S) (ssF S) (ssW S) (ssO S) (ssP S) (ssT S) (ssLo S) (ssSl S) (ssFa S) (cx + 12 * cy) (min n (40 - (bu k))) (by omega) hs (by omega)) [5, 6, 7, 8, 9, 10, 11] rfl (by decide) gX1_dig_X0_takeSand (by decide +kernel) rfl rfl rfl ⟨by decide, by decide⟩ rfl rfl (nle rfl) dX1_dig_54 ⟨by decide, by decide⟩ 5 rfl rfl) rfl rfl (by decide) (by decide) (fun _ => rfl) (by decide) rfl (k2 := 4) (n2 := 24) rfl rfl (fun z_9 _ p_10 => ?_)
  subst p_10
  refine z_istore (lv' := [(5, .int (iI (min (min n (40 - (bu k))) ((ssS S) (cx + 12 * cy))))), (0, .ref x), (1, .int (iI k)), (2, .int (iI cx)), (3, .int (iI cy)), (4, .int (iI n))]) 59 hC dX1_dig_57 rfl (by decide) rfl ?_
  refine z_aloadn 60 hC 1 dX1_dig_59 rfl rfl rfl ?_
  refine z_get 63 0 3 hC hinX1 L31 dX1_dig_60 rfl rfl rfl (by decide) rfl ?_
  refine z_iloadn 64 hC 2 dX1_dig_63 rfl rfl rfl ?_
  refine z_dup2 65 hC dX1_dig_64 rfl rfl rfl ?_
  refine z_iald 66 2 hC dX1_dig_65 rfl rfl (by decide) (by omega) ?_
  have b_11 := hbu k (by omega) (by omega)
  refine z_iload 68 hC 0 dX1_dig_66 rfl rfl ?_
  refine z_iadd 69 hC dX1_dig_68 rfl ?_
  refine z_iast (ws' := (wLe g x b h h2 td (up bu k ((bu k) + (min (min n (40 - (bu k))) ((ssS S) (cx + 12 * cy))))) (up sr k ((sr k) - 1)) lg tm hr en) ++ ((wSh g h a (up (ssS S) (cx + 12 * cy) ((ssS S) (cx + 12 * cy) - min (min n (40 - (bu k))) ((ssS S) (cx + 12 * cy)))) (up (ssF S) (cx + 12 * cy) 0) (ssW S) (ssO S) (ssP S) (ssT S) (ssLo S) (ssSl S) (ssFa S)) ++ ((wSh g h2 a2 (ssS T) (ssF T) (ssW T) (ssO T) (ssP T) (ssT T) (ssLo T) (ssSl T) (ssFa T))))) 70 2 hC dX1_dig_69 rfl rfl (by decide) (by omega) rfl ?_
  refine z_iload 72 hC 0 dX1_dig_70 rfl rfl ?_
  refine z_weq (ws' := (wLe g x b h h2 td (up bu k (bu k + (min (min n (40 - bu k)) (ssS S (cx + 12 * cy))))) (up sr k (sr k - 1)) lg tm hr en) ++ ((wSh g h a (up (ssS S) (cx + 12 * cy) (ssS S (cx + 12 * cy) - (min (min n (40 - bu k)) (ssS S (cx + 12 * cy))))) (up (ssF S) (cx + 12 * cy) 0) (ssW S) (ssO S) (ssP S) (ssT S) (ssLo S) (ssSl S) (ssFa S)) ++ ((wSh g h2 a2 (ssS T) (ssF T) (ssW T) (ssO T) (ssP T) (ssT T) (ssLo T) (ssSl T) (ssFa T))))) (zEq.cons zE1.rf (zEq.cons zE1.rf (zEq.cons (zE1.arr (by first | (intro j h0 h1; rfl) | (intro j h0 h1; first | rfl | omega))) (zEq.cons (zE1.arr (by first | (intro j h0 h1; rfl) | (intro j h0 h1; first | rfl | omega))) (zEq.cons zE1.rf (zEq.cons zE1.rf (zEq.cons (zE1.arr (by first | (intro j h0 h1; rfl) | (intro j h0 h1; first | rfl | omega))) (zEq.cons zE1.rf (zEq.cons zE1.rf (zEq.cons zE1.rf (zEq.cons zE1.rf (zEq.cons zE1.rf (zEq.cons zE1.rf (zEq.cons zE1.rf (zEq.cons zE1.rf (zEq.cons zE1.rf (zEq.cons zE1.rf (zEq.cons zE1.rf (zEq.cons zE1.rf zEq.nil))))))))))))))))))) ?_
  exact hret () dX1_dig_72 rfl (by exact ⟨by unfold thrD; omega, rfl⟩)
