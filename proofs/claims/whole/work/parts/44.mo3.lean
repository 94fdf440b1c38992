/-! the model's water -/
def ovI (s v : Int → Int) : Prop := Bd v 120 0 99 ∧ (∀ j : Int, 0 ≤ j → j < 12 → v j ≤ hg s j) ∧ ∀ j : Int, 0 ≤ j → j < 120 → ∀ L : Int, L ≤ 99 → v j < L → wetP s L j
def fixd (s v : Int → Int) (j k : Int) : Prop := bsd j k = -1 ∨ v j ≤ max (v (bsd j k)) (hg s j)
def ov0 (s : Int → Int) (i : Int) (v : Int → Int) : Int → Int := fun j => if j < i then (if j < 12 then hg s j else 99) else v j
theorem ov0_s {s v : Int → Int} {i x : Int} (hx : x = if i < 12 then hg s i else 99) (j : Int) : up (ov0 s i v) i x j = ov0 s (i + 1) v j := by
  by_cases e : j = i
  · subst e
    rw [up_same]
    unfold ov0
    rw [if_pos (by omega), hx]
  · rw [up_ne e]
    unfold ov0
    by_cases c : j < i
    · have c1 : j < i + 1 := by omega
      simp only [c, c1, if_true]
    · have c1 : ¬ j < i + 1 := by omega
      simp only [c, c1, if_false]
def ovB (s : Int → Int) : Int → Int := fun j => if j < 12 then hg s j else 99
theorem ovI_0 {s : Int → Int} (hs : Bd s 120 0 20) : ovI s (ovB s) := by
  refine ⟨fun j a b => ?_, fun j a b => ?_, fun j a b L hL hv => ?_⟩
  · have := hg_bd hs (c := j) ⟨a, b⟩
    unfold ovB
    split <;> omega
  · unfold ovB
    rw [if_pos b]
    exact Int.le_refl _
  · unfold ovB at hv
    by_cases c : j < 12
    · rw [if_pos c] at hv
      exact wetP_clo s L j a b hv (Or.inl c)
    · rw [if_neg c] at hv
      omega
theorem ovI_up {s v : Int → Int} (hs : Bd s 120 0 20) (h : ovI s v) {c k : Int} (hc : 0 ≤ c ∧ c < 120) (hk : 0 ≤ k ∧ k < 4) (hb : bsd c k ≠ -1) (hx : max (v (bsd c k)) (hg s c) < v c) : ovI s (up v c (max (v (bsd c k)) (hg s c))) := by
  have hr := bsd_rg hc k
  have h1 := h.1 _ (by omega : 0 ≤ bsd c k) (by omega)
  have h2 := h.1 c hc.1 hc.2
  have h3 := hg_bd hs hc
  refine ⟨Bd_up h.1 (by omega), fun j a b => ?_, fun j a b L hL hv => ?_⟩
  · by_cases e : j = c
    · subst e
      rw [up_same]
      have := h.2.1 j a b
      omega
    · rw [up_ne e]; exact h.2.1 j a b
  · by_cases e : j = c
    · subst e
      rw [up_same] at hv
      exact wetP_clo s L j a b (by omega) (Or.inr ⟨k, hk.1, hk.2, hb, h.2.2 _ (by omega) (by omega) L hL (by omega)⟩)
    · rw [up_ne e] at hv; exact h.2.2 j a b L hL hv
def ovW (s v0 : Int → Int) (c d r : Int) (v : Int → Int) : Prop := ovI s v ∧ (r = 0 ∨ r = 1) ∧ (r = 0 → v = v0 ∧ (∀ j : Int, 0 ≤ j → j < c → ∀ k : Int, 0 ≤ k → k < 4 → fixd s v0 j k) ∧ ∀ k : Int, 0 ≤ k → k < d → fixd s v0 c k) ∧ sumI v 120 ≤ sumI v0 120 ∧ (r = 1 → sumI v 120 < sumI v0 120)
theorem ovW_0 {s v : Int → Int} (h : ovI s v) : ovW s v 0 0 0 v := ⟨h, Or.inl rfl, fun _ => ⟨rfl, fun j a b => absurd b (by omega), fun k a b => absurd b (by omega)⟩, Int.le_refl _, fun e => absurd e (by decide)⟩
theorem ovW_k {s v0 v : Int → Int} {c d r : Int} (h : ovW s v0 c d r v) (hf : fixd s v c d) : ovW s v0 c (d + 1) r v := by
  obtain ⟨h1, h2, h3, h4, h5⟩ := h
  refine ⟨h1, h2, fun e => ?_, h4, h5⟩
  obtain ⟨q1, q2, q3⟩ := h3 e
  refine ⟨q1, q2, fun k a b => ?_⟩
  by_cases ek : k = d
  · subst ek; rw [← q1]; exact hf
  · exact q3 k a (by omega)
theorem ovW_u {s v0 v : Int → Int} (hs : Bd s 120 0 20) {c d r : Int} (h : ovW s v0 c d r v) (hc : 0 ≤ c ∧ c < 120) (hd : 0 ≤ d ∧ d < 4) (hb : bsd c d ≠ -1) (hx : max (v (bsd c d)) (hg s c) < v c) : ovW s v0 c (d + 1) 1 (up v c (max (v (bsd c d)) (hg s c))) := by
  obtain ⟨h1, h2, h3, h4, h5⟩ := h
  have e := sumI_up (f := v) (k := c) (v := max (v (bsd c d)) (hg s c)) (N := 120) hc.1 hc.2
  exact ⟨ovI_up hs h1 hc hd hb hx, Or.inr rfl, fun e => absurd e (by decide), by omega, fun _ => by omega⟩
theorem ovW_n {s v0 v : Int → Int} {c r : Int} (h : ovW s v0 c 4 r v) : ovW s v0 (c + 1) 0 r v := by
  obtain ⟨h1, h2, h3, h4, h5⟩ := h
  refine ⟨h1, h2, fun e => ?_, h4, h5⟩
  obtain ⟨q1, q2, q3⟩ := h3 e
  refine ⟨q1, fun j a b k a1 b1 => ?_, fun k a b => absurd b (by omega)⟩
  by_cases ej : j = c
  · subst ej; exact q3 k a1 b1
  · exact q2 j a (by omega) k a1 b1
def ovC (s v : Int → Int) : Prop := ∀ j : Int, 0 ≤ j → j < 120 → ∀ k : Int, 0 ≤ k → k < 4 → fixd s v j k
theorem ovW_c {s v0 v : Int → Int} {r : Int} (h : ovW s v0 120 0 r v) (e : r = 0) : ovC s v := by
  obtain ⟨q1, q2, q3⟩ := h.2.2.1 e
  intro j a b k a1 b1
  rw [q1]
  exact q2 j a b k a1 b1
def ovQ (s u : Int → Int) : Prop := ∀ j : Int, 0 ≤ j → j < 120 → (0 ≤ u j ∧ u j ≤ 38) ∧ ∀ L : Int, L ≤ 99 → (u j < L ↔ wetP s L j)
theorem wetP_39 {s : Int → Int} (hs : Bd s 120 0 20) : ∀ n : Nat, ∀ c : Int, 0 ≤ c → c < 120 → c / 12 = (n : Int) → wetP s 39 c := by
  intro n
  induction n with
  | zero =>
    intro c a b e
    have := hg_bd hs ⟨a, b⟩
    exact wetP_clo s 39 c a b (by omega) (Or.inl (by omega))
  | succ n ih =>
    intro c a b e
    have := hg_bd hs ⟨a, b⟩
    have eb : bsd c 0 = c - 12 := by unfold bsd; omega
    refine wetP_clo s 39 c a b (by omega) (Or.inr ⟨0, by omega, by omega, by omega, ?_⟩)
    rw [eb]
    exact ih (c - 12) (by omega) (by omega) (by omega)
theorem ovQ_of {s v : Int → Int} (hs : Bd s 120 0 20) (h : ovI s v) (hc : ovC s v) : ovQ s v := by
  have key : ∀ L : Int, L ≤ 99 → clo s L (fun j => 0 ≤ j ∧ j < 120 → v j < L) := by
    intro L hL c a b hh ho _
    rcases ho with x | ⟨k, k0, k1, kn, x⟩
    · have := h.2.1 c a x
      omega
    · have hr := bsd_rg ⟨a, b⟩ k
      have h1 := x ⟨by omega, by omega⟩
      rcases hc c a b k k0 k1 with e | e
      · exact absurd e kn
      · omega
  intro j a b
  refine ⟨⟨(h.1 j a b).1, ?_⟩, fun L hL => ⟨fun q => h.2.2 j a b L hL q, fun q => q _ (key L hL) ⟨a, b⟩⟩⟩
  have := wetP_39 hs (j / 12).toNat j a b (by omega) _ (key 39 (by omega)) ⟨a, b⟩
  omega
set_option maxHeartbeats 4000000 in
set_option maxRecDepth 100000 in
theorem c_X2_findOver (l : Launch) (D : va_G) (g : Nat → ClassId) (m : Nat) (b : Nat → Nat) (th hr tm en lo sl fa : Int) (s f w k q td ov : Int → Int)  (hs : Bd s 120 0 20) : ZMv (S := (Int → Int)) l yX2_findOver wsX2_findOver ({ frames := 1, cells := 0, slots := 0, locals := 80 }) D g [.ref m] (wMo g m b th hr tm en lo sl fa s f w k q td ov) (fun u => ovQ s u) (fun u => wMo g m b th hr tm en lo sl fa s f w k q td u) 0 0 := by
  have hinX2 : ∀ w ∈ u_ws RX2 TX2 14, w ∈ wsX2_findOver := by decide +kernel
  have L28 : Cond.fieldLink RX2 28 "SandcastleLeagueModel" "over" "[I" ∈ wsX2_findOver := by decide +kernel
  refine ZMv.of (ty := .int) (own := RX2) cX2_findOver 5 [(0, .ref m)] (by decide +kernel) rfl (nle rfl) rfl rfl ?_
  intro E hC hN hret
  refine z_iconst 1 hC dX2_findOver_0 rfl ?_
  refine z_istoren (lv' := [(1, .int (iI 0)), (0, .ref m)]) 2 hC dX2_findOver_1 rfl rfl (by decide) rfl ?_
  have loop2 : ∀ (N2 : Nat) (c : Int), 0 ≤ c ∧ c ≤ 120 → (120 - c : Int) < N2 → Z E (wMo g m b th hr tm en lo sl fa s f w k q td (ov0 s c ov)) [(0, .ref m), (1, .int (iI c))] 0 0 2 [] := by
    intro N2
    induction N2 with
    | zero => intro c hc0 hm2; exact absurd hm2 (by omega)
    | succ N2 ih2 =>
      intro c hc0 hm2
      refine z_iloadn 3 hC 1 dX2_findOver_2 rfl rfl rfl ?_
      refine z_bipush 5 hC dX2_findOver_3 (by decide) rfl ?_
      refine z_icmp_ge 36 8 hC dX2_findOver_5 (by decide) rfl (by omega) (by omega) (fun c_1 => ?_) (fun c_1 => ?_)
      · skip
        obtain rfl : c = 120 := by omega
        refine z_weq (ws' := wMo g m b th hr tm en lo sl fa s f w k q td (ovB s)) (zEq.cons zE1.rf (zEq.cons zE1.rf (zEq.cons zE1.rf (zEq.cons zE1.rf (zEq.cons zE1.rf (zEq.cons zE1.rf (zEq.cons zE1.rf (zEq.cons (zE1.arr (by first | (intro j h0 h1; rfl) | (intro j h0 h1; exact if_pos (by omega)))) zEq.nil)))))))) ?_
        refine z_iconst 37 hC dX2_findOver_36 rfl ?_
        refine z_istoren (lv' := [(1, .int (iI 1)), (0, .ref m)]) 38 hC dX2_findOver_37 rfl rfl (by decide) rfl ?_
        have loop38 : ∀ (N38 : Nat) (r0 : Int) (v0 : Int → Int), r0 = 0 ∨ r0 = 1 → ovI s v0 → (r0 = 0 → ovC s v0) → (sumI v0 120 + r0 : Int) < N38 → Z E (wMo g m b th hr tm en lo sl fa s f w k q td v0) [(0, .ref m), (1, .int (iI r0))] 0 0 38 [] := by
          intro N38
          induction N38 with
          | zero => intro r0 v0 hr0 hI hc hm38; exact absurd hm38 (by have := sumI_bd hI.1 (i := 120) (by omega) (by omega); omega)
          | succ N38 ih38 =>
            intro r0 v0 hr0 hI hc hm38
            refine z_iloadn 39 hC 1 dX2_findOver_38 rfl rfl rfl ?_
            refine z_if_eq 137 42 hC dX2_findOver_39 (by decide) rfl (by omega) (fun c_2 => ?_) (fun c_2 => ?_)
            · skip
              exact hret v0 dX2_findOver_137 (by exact ovQ_of hs hI (hc (by omega)))
            · skip
              refine z_iconst 43 hC dX2_findOver_42 rfl ?_
              refine z_istoren (lv' := [(1, .int (iI 0)), (0, .ref m)]) 44 hC dX2_findOver_43 rfl rfl (by decide) rfl ?_
              refine z_iconst 45 hC dX2_findOver_44 rfl ?_
              refine z_istoren (lv' := [(2, .int (iI 0)), (1, .int (iI 0)), (0, .ref m)]) 46 hC dX2_findOver_45 rfl rfl (by decide) rfl ?_
              have loop46 : ∀ (N46 : Nat) (r : Int) (c : Int) (v : Int → Int), 0 ≤ c ∧ c ≤ 120 → ovW s v0 c 0 r v → (120 - c : Int) < N46 → Z E (wMo g m b th hr tm en lo sl fa s f w k q td v) [(0, .ref m), (1, .int (iI r)), (2, .int (iI c))] 0 0 46 [] := by
                intro N46
                induction N46 with
                | zero => intro r c v hc1 hW hm46; exact absurd hm46 (by omega)
                | succ N46 ih46 =>
                  intro r c v hc1 hW hm46
                  have hr1 := hW.2.1
                  refine z_iloadn 47 hC 2 dX2_findOver_46 rfl rfl rfl ?_
                  refine z_bipush 49 hC dX2_findOver_47 (by decide) rfl ?_
                  refine z_icmp_ge 134 52 hC dX2_findOver_49 (by decide) rfl (by omega) (by omega) (fun c_3 => ?_) (fun c_3 => ?_)
                  · skip
                    obtain rfl : c = 120 := by omega
                    refine z_goto 38 hC dX2_findOver_134 (by decide) ?_
                    refine z_lv (lv' := [(0, .ref m), (1, .int (iI r))]) [0, 1] rfl ?_
                    exact ih38 r v (by omega) (by exact hW.1) (by exact fun q => ovW_c hW q) (by (have h4 := hW.2.2.2.1); (have h5 := hW.2.2.2.2); rcases hW.2.1 with e | e; omega; (have := h5 e); omega)
                  · skip
                    refine z_iconst 53 hC dX2_findOver_52 rfl ?_
                    refine z_istoren (lv' := [(3, .int (iI 0)), (0, .ref m), (1, .int (iI r)), (2, .int (iI c))]) 54 hC dX2_findOver_53 rfl rfl (by decide) rfl ?_
                    have loop54 : ∀ (N54 : Nat) (r1 : Int) (d : Int) (v1 : Int → Int), 0 ≤ d ∧ d ≤ 4 → ovW s v0 c d r1 v1 → (4 - d : Int) < N54 → Z E (wMo g m b th hr tm en lo sl fa s f w k q td v1) [(0, .ref m), (1, .int (iI r1)), (2, .int (iI c)), (3, .int (iI d))] 0 0 54 [] := by
                      intro N54
                      induction N54 with
                      | zero => intro r1 d v1 hd hV hm54; exact absurd hm54 (by omega)
                      | succ N54 ih54 =>
                        intro r1 d v1 hd hV hm54
                        have hr2 := hV.2.1
                        have hvb := hV.1.1
                        refine z_iloadn 55 hC 3 dX2_findOver_54 rfl rfl rfl ?_
                        refine z_iconst 56 hC dX2_findOver_55 rfl ?_
                        refine z_icmp_ge 128 59 hC dX2_findOver_56 (by decide) rfl (by omega) (by omega) (fun c_4 => ?_) (fun c_4 => ?_)
                        · skip
                          obtain rfl : d = 4 := by omega
                          refine z_iinc (lv' := [(2, .int (iI (c + 1))), (0, .ref m), (1, .int (iI r1)), (3, .int (iI 4))]) 131 2 hC dX2_findOver_128 rfl rfl (by decide) rfl ?_
                          refine z_goto 46 hC dX2_findOver_131 (by decide) ?_
                          refine z_lv (lv' := [(0, .ref m), (1, .int (iI r1)), (2, .int (iI (c + 1)))]) [1, 2, 0] rfl ?_
                          exact ih46 r1 (c + 1) v1 (by omega) (by exact ovW_n hV) (by omega)
                        · skip
                          refine z_iloadn 60 hC 2 dX2_findOver_59 rfl rfl rfl ?_
                          refine z_iloadn 61 hC 3 dX2_findOver_60 rfl rfl rfl ?_
                          refine z_calli (wr := [(m, .inr (2, [.int (iI th), .int (iI hr), .int (iI tm), .int (iI en), .int (iI lo), .int (iI sl), .int (iI fa), .ref (b 0), .ref (b 1), .ref (b 2), .ref (b 3), .ref (b 4), .ref (b 5), .ref (b 6)])), ((b 0), ar g 120 s), ((b 1), ar g 120 f), ((b 2), ar g 120 w), ((b 3), ar g 120 k), ((b 4), ar g 16 q), ((b 5), ar g 12 td), ((b 6), ar g 120 v1)]) (w2 := fun _ => wMo g m b th hr tm en lo sl fa s f w k q td v1) 64 hC [] [0, 1, 2, 3, 4, 5, 6, 7] [0, 1, 2, 3, 4, 5, 6, 7] (z_runS (nA := 2) hC hN (c_X2_beside l D g c d (by omega) (by omega)) [] rfl (by decide) gX2_findOver_X2_beside (by decide +kernel) rfl rfl rfl ⟨by decide, by decide⟩ rfl rfl (nle rfl) dX2_findOver_61 ⟨by decide, by decide⟩) rfl rfl (by decide) (by decide) (fun _ => rfl) (by decide) rfl (k2 := 0) (n2 := 0) rfl rfl (fun z_6 _ p_7 => ?_)
                          subst p_7
                          have q_5 := bsd_rg (c := c) (by omega) d
                          refine z_istore (lv' := [(4, .int (iI (bsd c d))), (0, .ref m), (1, .int (iI r1)), (2, .int (iI c)), (3, .int (iI d))]) 66 hC dX2_findOver_64 rfl (by decide) rfl ?_
                          refine z_iload 68 hC 0 dX2_findOver_66 rfl rfl ?_
                          refine z_iconst 69 hC dX2_findOver_68 rfl ?_
                          refine z_icmp_eq 122 72 hC dX2_findOver_69 (by decide) rfl (by omega) (by omega) (fun c_8 => ?_) (fun c_8 => ?_)
                          · skip
                            refine z_iinc (lv' := [(3, .int (iI (d + 1))), (4, .int (iI (bsd c d))), (0, .ref m), (1, .int (iI r1)), (2, .int (iI c))]) 125 4 hC dX2_findOver_122 rfl rfl (by decide) rfl ?_
                            refine z_goto 54 hC dX2_findOver_125 (by decide) ?_
                            refine z_lv (lv' := [(0, .ref m), (1, .int (iI r1)), (2, .int (iI c)), (3, .int (iI (d + 1)))]) [2, 3, 4, 0] rfl ?_
                            exact ih54 r1 (d + 1) v1 (by omega) (by first | exact ovW_k hV (Or.inl (by omega)) | exact ovW_k hV (Or.inr (by omega)) | exact ovW_u hs hV (by omega) (by omega) (by omega) (by omega)) (by omega)
                          · skip
                            refine z_aloadn 73 hC 1 dX2_findOver_72 rfl rfl rfl ?_
                            refine z_get 76 0 13 hC hinX2 L28 dX2_findOver_73 rfl rfl rfl (by decide) rfl ?_
                            refine z_iload 78 hC 0 dX2_findOver_76 rfl rfl ?_
                            refine z_iald 79 7 hC dX2_findOver_78 rfl rfl (by decide) (by omega) ?_
                            have b_9 := hvb (bsd c d) (by omega) (by omega)
                            refine z_aloadn 80 hC 1 dX2_findOver_79 rfl rfl rfl ?_
                            refine z_iloadn 81 hC 3 dX2_findOver_80 rfl rfl rfl ?_
                            refine z_calli (wr := []) (w2 := fun _ => wMo g m b th hr tm en lo sl fa s f w k q td v1) 84 hC [0, 1, 2, 3, 4, 5, 6, 7] [] [0, 1, 2, 3, 4, 5, 6, 7] (z_runV (nA := 1) hC hN (c_X2_height l D g m b th hr tm en lo sl fa s f w k q td v1 c (by omega)) [0, 1, 2, 3, 4, 5, 6, 7] rfl (by decide) gX2_findOver_X2_height (by decide +kernel) rfl rfl rfl ⟨by decide, by decide⟩ rfl rfl (nle rfl) dX2_findOver_81 ⟨by decide, by decide⟩ 0 rfl rfl) rfl rfl (by decide) (by decide) (fun _ => rfl) (by decide) rfl (k2 := 0) (n2 := 0) rfl rfl (fun z_11 _ p_12 => ?_)
                            subst p_12
                            have y_10 := hg_bd hs (c := c) (by omega)
                            refine z_mmax 87 hC (by decide +kernel) (by decide +kernel) (by decide +kernel) (by decide +kernel) (by decide) (nle rfl) (by decide) (by decide) (by omega) (by omega) dX2_findOver_84 rfl ?_
                            refine z_aloadn 88 hC 1 dX2_findOver_87 rfl rfl rfl ?_
                            refine z_get 91 0 13 hC hinX2 L28 dX2_findOver_88 rfl rfl rfl (by decide) rfl ?_
                            refine z_iloadn 92 hC 3 dX2_findOver_91 rfl rfl rfl ?_
                            refine z_iald 93 7 hC dX2_findOver_92 rfl rfl (by decide) (by omega) ?_
                            have b_13 := hvb c (by omega) (by omega)
                            refine z_icmp_lt 99 96 hC dX2_findOver_93 (by decide) rfl (by omega) (by omega) (fun c_14 => ?_) (fun c_14 => ?_)
                            · skip
                              refine z_aloadn 100 hC 1 dX2_findOver_99 rfl rfl rfl ?_
                              refine z_get 103 0 13 hC hinX2 L28 dX2_findOver_100 rfl rfl rfl (by decide) rfl ?_
                              refine z_iloadn 104 hC 3 dX2_findOver_103 rfl rfl rfl ?_
                              refine z_aloadn 105 hC 1 dX2_findOver_104 rfl rfl rfl ?_
                              refine z_get 108 0 13 hC hinX2 L28 dX2_findOver_105 rfl rfl rfl (by decide) rfl ?_
                              refine z_iload 110 hC 0 dX2_findOver_108 rfl rfl ?_
                              refine z_iald 111 7 hC dX2_findOver_110 rfl rfl (by decide) (by omega) ?_
                              have b_15 := hvb (bsd c d) (by omega) (by omega)
                              refine z_aloadn 112 hC 1 dX2_findOver_111 rfl rfl rfl ?_
                              refine z_iloadn 113 hC 3 dX2_findOver_112 rfl rfl rfl ?_
                              refine z_calli (wr := []) (w2 := fun _ => wMo g m b th hr tm en lo sl fa s f w k q td v1) 116 hC [0, 1, 2, 3, 4, 5, 6, 7] [] [0, 1, 2, 3, 4, 5, 6, 7] (z_runV (nA := 1) hC hN (c_X2_height l D g m b th hr tm en lo sl fa s f w k q td v1 c (by omega)) [0, 1, 2, 3, 4, 5, 6, 7] rfl (by decide) gX2_findOver_X2_height (by decide +kernel) rfl rfl rfl ⟨by decide, by decide⟩ rfl rfl (nle rfl) dX2_findOver_113 ⟨by decide, by decide⟩ 0 rfl rfl) rfl rfl (by decide) (by decide) (fun _ => rfl) (by decide) rfl (k2 := 0) (n2 := 0) rfl rfl (fun z_17 _ p_18 => ?_)
                              subst p_18
                              have y_16 := hg_bd hs (c := c) (by omega)
                              refine z_mmax 119 hC (by decide +kernel) (by decide +kernel) (by decide +kernel) (by decide +kernel) (by decide) (nle rfl) (by decide) (by decide) (by omega) (by omega) dX2_findOver_116 rfl ?_
                              refine z_iast (ws' := wMo g m b th hr tm en lo sl fa s f w k q td (up v1 c (max (v1 (bsd c d)) (hg s c)))) 120 7 hC dX2_findOver_119 rfl rfl (by decide) (by omega) rfl ?_
                              refine z_iconst 121 hC dX2_findOver_120 rfl ?_
                              refine z_istoren (lv' := [(1, .int (iI 1)), (4, .int (iI (bsd c d))), (0, .ref m), (2, .int (iI c)), (3, .int (iI d))]) 122 hC dX2_findOver_121 rfl rfl (by decide) rfl ?_
                              refine z_iinc (lv' := [(3, .int (iI (d + 1))), (1, .int (iI 1)), (4, .int (iI (bsd c d))), (0, .ref m), (2, .int (iI c))]) 125 4 hC dX2_findOver_122 rfl rfl (by decide) rfl ?_
                              refine z_goto 54 hC dX2_findOver_125 (by decide) ?_
                              refine z_lv (lv' := [(0, .ref m), (1, .int (iI 1)), (2, .int (iI c)), (3, .int (iI (d + 1)))]) [3, 1, 4, 0] rfl ?_
                              exact ih54 1 (d + 1) (up v1 c (max (v1 (bsd c d)) (hg s c))) (by omega) (by first | exact ovW_k hV (Or.inl (by omega)) | exact ovW_k hV (Or.inr (by omega)) | exact ovW_u hs hV (by omega) (by omega) (by omega) (by omega)) (by omega)
                            · skip
                              refine z_goto 122 hC dX2_findOver_96 (by decide) ?_
                              refine z_iinc (lv' := [(3, .int (iI (d + 1))), (4, .int (iI (bsd c d))), (0, .ref m), (1, .int (iI r1)), (2, .int (iI c))]) 125 4 hC dX2_findOver_122 rfl rfl (by decide) rfl ?_
                              refine z_goto 54 hC dX2_findOver_125 (by decide) ?_
                              refine z_lv (lv' := [(0, .ref m), (1, .int (iI r1)), (2, .int (iI c)), (3, .int (iI (d + 1)))]) [2, 3, 4, 0] rfl ?_
                              exact ih54 r1 (d + 1) v1 (by omega) (by first | exact ovW_k hV (Or.inl (by omega)) | exact ovW_k hV (Or.inr (by omega)) | exact ovW_u hs hV (by omega) (by omega) (by omega) (by omega)) (by omega)
                    refine z_lv (lv' := [(0, .ref m), (1, .int (iI r)), (2, .int (iI c)), (3, .int (iI 0))]) [1, 2, 3, 0] rfl ?_
                    exact loop54 ((4 - 0 + 1 : Int).toNat) r 0 v (by omega) (by exact hW) (by omega)
              refine z_lv (lv' := [(0, .ref m), (1, .int (iI 0)), (2, .int (iI 0))]) [2, 1, 0] rfl ?_
              exact loop46 ((120 - 0 + 1 : Int).toNat) 0 0 v0 (by omega) (by exact ovW_0 hI) (by omega)
        refine z_lv (lv' := [(0, .ref m), (1, .int (iI 1))]) [1, 0] rfl ?_
        exact loop38 12000 1 (ovB s) (by omega) (by exact ovI_0 hs) (by intro q; omega) (by have := sumI_bd (ovI_0 hs).1 (i := 120) (by omega) (by omega); omega)
      · skip
        refine z_aloadn 9 hC 0 dX2_findOver_8 rfl rfl rfl ?_
        refine z_get 12 0 13 hC hinX2 L28 dX2_findOver_9 rfl rfl rfl (by decide) rfl ?_
        refine z_iloadn 13 hC 1 dX2_findOver_12 rfl rfl rfl ?_
        refine z_iloadn 14 hC 1 dX2_findOver_13 rfl rfl rfl ?_
        refine z_bipush 16 hC dX2_findOver_14 (by decide) rfl ?_
        refine z_icmp_ge 27 19 hC dX2_findOver_16 (by decide) rfl (by omega) (by omega) (fun c_19 => ?_) (fun c_19 => ?_)
        · skip
          refine z_bipush 29 hC dX2_findOver_27 (by decide) rfl ?_
          refine z_iast (ws' := wMo g m b th hr tm en lo sl fa s f w k q td (up (ov0 s c ov) c 99)) 30 7 hC dX2_findOver_29 rfl rfl (by decide) (by omega) rfl ?_
          refine z_iinc (lv' := [(1, .int (iI (c + 1))), (0, .ref m)]) 33 1 hC dX2_findOver_30 rfl rfl (by decide) rfl ?_
          refine z_goto 2 hC dX2_findOver_33 (by decide) ?_
          refine z_lv (lv' := [(0, .ref m), (1, .int (iI (c + 1)))]) [1, 0] rfl ?_
          refine z_weq (ws' := wMo g m b th hr tm en lo sl fa s f w k q td (ov0 s (c + 1) ov)) (zEq.cons zE1.rf (zEq.cons zE1.rf (zEq.cons zE1.rf (zEq.cons zE1.rf (zEq.cons zE1.rf (zEq.cons zE1.rf (zEq.cons zE1.rf (zEq.cons (zE1.arr (by first | (intro j h0 h1; rfl) | (intro j h0 h1; exact ov0_s (by omega) j))) zEq.nil)))))))) ?_
          exact ih2 (c + 1) (by omega) (by omega)
        · skip
          refine z_aloadn 20 hC 0 dX2_findOver_19 rfl rfl rfl ?_
          refine z_iloadn 21 hC 1 dX2_findOver_20 rfl rfl rfl ?_
          refine z_calli (wr := []) (w2 := fun _ => wMo g m b th hr tm en lo sl fa s f w k q td (ov0 s c ov)) 24 hC [0, 1, 2, 3, 4, 5, 6, 7] [] [0, 1, 2, 3, 4, 5, 6, 7] (z_runV (nA := 1) hC hN (c_X2_height l D g m b th hr tm en lo sl fa s f w k q td (ov0 s c ov) c (by omega)) [0, 1, 2, 3, 4, 5, 6, 7] rfl (by decide) gX2_findOver_X2_height (by decide +kernel) rfl rfl rfl ⟨by decide, by decide⟩ rfl rfl (nle rfl) dX2_findOver_21 ⟨by decide, by decide⟩ 0 rfl rfl) rfl rfl (by decide) (by decide) (fun _ => rfl) (by decide) rfl (k2 := 0) (n2 := 0) rfl rfl (fun z_21 _ p_22 => ?_)
          subst p_22
          have y_20 := hg_bd hs (c := c) (by omega)
          refine z_goto 29 hC dX2_findOver_24 (by decide) ?_
          refine z_iast (ws' := wMo g m b th hr tm en lo sl fa s f w k q td (up (ov0 s c ov) c (hg s c))) 30 7 hC dX2_findOver_29 rfl rfl (by decide) (by omega) rfl ?_
          refine z_iinc (lv' := [(1, .int (iI (c + 1))), (0, .ref m)]) 33 1 hC dX2_findOver_30 rfl rfl (by decide) rfl ?_
          refine z_goto 2 hC dX2_findOver_33 (by decide) ?_
          refine z_lv (lv' := [(0, .ref m), (1, .int (iI (c + 1)))]) [1, 0] rfl ?_
          refine z_weq (ws' := wMo g m b th hr tm en lo sl fa s f w k q td (ov0 s (c + 1) ov)) (zEq.cons zE1.rf (zEq.cons zE1.rf (zEq.cons zE1.rf (zEq.cons zE1.rf (zEq.cons zE1.rf (zEq.cons zE1.rf (zEq.cons zE1.rf (zEq.cons (zE1.arr (by first | (intro j h0 h1; rfl) | (intro j h0 h1; exact ov0_s (by omega) j))) zEq.nil)))))))) ?_
          exact ih2 (c + 1) (by omega) (by omega)
  refine z_lv (lv' := [(0, .ref m), (1, .int (iI 0))]) [1, 0] rfl ?_
  refine z_weq (ws' := wMo g m b th hr tm en lo sl fa s f w k q td (ov0 s 0 ov)) (zEq.cons zE1.rf (zEq.cons zE1.rf (zEq.cons zE1.rf (zEq.cons zE1.rf (zEq.cons zE1.rf (zEq.cons zE1.rf (zEq.cons zE1.rf (zEq.cons (zE1.arr (by first | (intro j h0 h1; rfl) | (intro j h0 h1; exact (if_neg (by omega)).symm))) zEq.nil)))))))) ?_
  exact loop2 ((120 - 0 + 1 : Int).toNat) 0 (by omega) (by omega)
set_option maxHeartbeats 4000000 in
set_option maxRecDepth 100000 in
theorem c_X2_slideAll (l : Launch) (D : va_G) (g : Nat → ClassId) (m : Nat) (b : Nat → Nat) (th hr tm en lo sl fa : Int) (s f w k q td ov : Int → Int)  (hs : Bd s 120 0 20) (hf : Bd f 120 0 5) : ZMv (S := Unit) l yX2_slideAll wsX2_slideAll ({ frames := 1, cells := 0, slots := 0, locals := 80 }) D g [.ref m] (wMo g m b th hr tm en lo sl fa s f w k q td ov) (fun _ => True) (fun _ => wMo g m b th hr tm en lo ((slA f 40 s).2) fa ((slA f 40 s).1) f w k q td ov) 0 0 := by
  have hinX2 : ∀ w ∈ u_ws RX2 TX2 14, w ∈ wsX2_slideAll := by decide +kernel
  have L9 : Cond.fieldLink RX2 9 "SandcastleLeagueModel" "sand" "[I" ∈ wsX2_slideAll := by decide +kernel
  have L13 : Cond.fieldLink RX2 13 "SandcastleLeagueModel" "firm" "[I" ∈ wsX2_slideAll := by decide +kernel
  have L98 : Cond.fieldLink RX2 98 "SandcastleLeagueModel" "slides" "I" ∈ wsX2_slideAll := by decide +kernel
  refine ZMv.of (ty := .int) (own := RX2) cX2_slideAll 7 [(0, .ref m)] (by decide +kernel) rfl (nle rfl) rfl rfl ?_
  intro E hC hN hret
  refine z_aloadn 1 hC 0 dX2_slideAll_0 rfl rfl rfl ?_
  refine z_iconst 2 hC dX2_slideAll_1 rfl ?_
  refine z_put (ty := .int) (ws' := wMo g m b th hr tm en lo 0 fa s f w k q td ov) 5 0 5 hC tyX2 tyX2_ok nmX2 hinX2 L98 dX2_slideAll_2 rfl rfl rfl (by decide) rfl (by decide +kernel) rfl rfl (nle rfl) rfl ?_
  refine z_iconst 6 hC dX2_slideAll_5 rfl ?_
  refine z_istoren (lv' := [(1, .int (iI (-1))), (0, .ref m)]) 7 hC dX2_slideAll_6 rfl rfl (by decide) rfl ?_
  refine z_iconst 8 hC dX2_slideAll_7 rfl ?_
  refine z_istoren (lv' := [(2, .int (iI 0)), (1, .int (iI (-1))), (0, .ref m)]) 9 hC dX2_slideAll_8 rfl rfl (by decide) rfl ?_
  have loop9 : ∀ (N9 : Nat) (p : Int) (y : Int) (i : Int) (v : Int → Int), 0 ≤ i ∧ i ≤ 40 → slI f s i (y - p) y v → -1 ≤ p ∧ y ≤ 120 * i ∧ 0 ≤ y → (40 - i : Int) < N9 → Z E (wMo g m b th hr tm en lo y fa v f w k q td ov) [(0, .ref m), (1, .int (iI p)), (2, .int (iI i))] 0 0 9 [] := by
    intro N9
    induction N9 with
    | zero => intro p y i v hi hI hp hm9; exact absurd hm9 (by omega)
    | succ N9 ih9 =>
      intro p y i v hi hI hp hm9
      have hz0 := hI.1
      have hv := hI.2.1
      refine z_iloadn 10 hC 2 dX2_slideAll_9 rfl rfl rfl ?_
      refine z_bipush 12 hC dX2_slideAll_10 (by decide) rfl ?_
      refine z_icmp_ge 183 15 hC dX2_slideAll_12 (by decide) rfl (by omega) (by omega) (fun c_1 => ?_) (fun c_1 => ?_)
      · skip
        have hd9 := slI_done hI (by omega) (by omega)
        refine z_weq (ws' := wMo g m b th hr tm en lo ((slA f 40 s).2) fa ((slA f 40 s).1) f w k q td ov) (zEq.cons (zE1.obj (zfk (zfk (zfk (zfk (zfk (zfc (by rw [hd9]) (zfk (zfk (zfk (zfk (zfk (zfk (zfk (zfk rfl))))))))))))))) (zEq.cons (zE1.arr (by first | (intro j h0 h1; rfl) | (intro j h0 h1; rw [hd9]))) (zEq.cons zE1.rf (zEq.cons zE1.rf (zEq.cons zE1.rf (zEq.cons zE1.rf (zEq.cons zE1.rf (zEq.cons zE1.rf zEq.nil)))))))) ?_
        exact hret () dX2_slideAll_183 (by trivial)
      · skip
        refine z_aloadn 16 hC 0 dX2_slideAll_15 rfl rfl rfl ?_
        refine z_get 19 0 5 hC hinX2 L98 dX2_slideAll_16 rfl rfl rfl (by decide) rfl ?_
        refine z_iloadn 20 hC 1 dX2_slideAll_19 rfl rfl rfl ?_
        refine z_icmp_eq 183 23 hC dX2_slideAll_20 (by decide) rfl (by omega) (by omega) (fun c_2 => ?_) (fun c_2 => ?_)
        · skip
          have hd9 := slI_done hI (by omega) (by omega)
          refine z_weq (ws' := wMo g m b th hr tm en lo ((slA f 40 s).2) fa ((slA f 40 s).1) f w k q td ov) (zEq.cons (zE1.obj (zfk (zfk (zfk (zfk (zfk (zfc (by rw [hd9]) (zfk (zfk (zfk (zfk (zfk (zfk (zfk (zfk rfl))))))))))))))) (zEq.cons (zE1.arr (by first | (intro j h0 h1; rfl) | (intro j h0 h1; rw [hd9]))) (zEq.cons zE1.rf (zEq.cons zE1.rf (zEq.cons zE1.rf (zEq.cons zE1.rf (zEq.cons zE1.rf (zEq.cons zE1.rf zEq.nil)))))))) ?_
          exact hret () dX2_slideAll_183 (by trivial)
        · skip
          refine z_aloadn 24 hC 0 dX2_slideAll_23 rfl rfl rfl ?_
          refine z_get 27 0 5 hC hinX2 L98 dX2_slideAll_24 rfl rfl rfl (by decide) rfl ?_
          refine z_istoren (lv' := [(1, .int (iI y)), (0, .ref m), (2, .int (iI i))]) 28 hC dX2_slideAll_27 rfl rfl (by decide) rfl ?_
          refine z_iconst 29 hC dX2_slideAll_28 rfl ?_
          refine z_istoren (lv' := [(3, .int (iI 0)), (1, .int (iI y)), (0, .ref m), (2, .int (iI i))]) 30 hC dX2_slideAll_29 rfl rfl (by decide) rfl ?_
          have loop30 : ∀ (N30 : Nat) (c : Int), 0 ≤ c ∧ c ≤ 120 → (120 - c : Int) < N30 → Z E (wMo g m b th hr tm en lo (y + (rnd f v c).2) fa ((rnd f v c).1) f w k q td ov) [(0, .ref m), (1, .int (iI y)), (2, .int (iI i)), (3, .int (iI c))] 0 0 30 [] := by
            intro N30
            induction N30 with
            | zero => intro c hc hm30; exact absurd hm30 (by omega)
            | succ N30 ih30 =>
              intro c hc hm30
              have hu := rnd_bd (f := f) hv hc.1 hc.2
              refine z_iloadn 31 hC 3 dX2_slideAll_30 rfl rfl rfl ?_
              refine z_bipush 33 hC dX2_slideAll_31 (by decide) rfl ?_
              refine z_icmp_ge 177 36 hC dX2_slideAll_33 (by decide) rfl (by omega) (by omega) (fun c_3 => ?_) (fun c_3 => ?_)
              · skip
                obtain rfl : c = 120 := by omega
                refine z_iinc (lv' := [(2, .int (iI (i + 1))), (0, .ref m), (1, .int (iI y)), (3, .int (iI 120))]) 180 2 hC dX2_slideAll_177 rfl rfl (by decide) rfl ?_
                refine z_goto 9 hC dX2_slideAll_180 (by decide) ?_
                refine z_lv (lv' := [(0, .ref m), (1, .int (iI y)), (2, .int (iI (i + 1)))]) [1, 2, 0] rfl ?_
                exact ih9 y (y + (rnd f v 120).2) (i + 1) ((rnd f v 120).1) (by omega) (by (have h9 := slI_s hI (by omega) (by omega)); (have e9 : y + (rnd f v 120).2 - y = (rnd f v 120).2 := by omega); rw [e9]; exact h9) (by have := rnd_ct f v (i := 120) (by omega); omega) (by omega)
              · skip
                refine z_iconst 37 hC dX2_slideAll_36 rfl ?_
                refine z_istore (lv' := [(4, .int (iI (-1))), (0, .ref m), (1, .int (iI y)), (2, .int (iI i)), (3, .int (iI c))]) 39 hC dX2_slideAll_37 rfl (by decide) rfl ?_
                refine z_iconst 40 hC dX2_slideAll_39 rfl ?_
                refine z_istore (lv' := [(5, .int (iI 0)), (4, .int (iI (-1))), (0, .ref m), (1, .int (iI y)), (2, .int (iI i)), (3, .int (iI c))]) 42 hC dX2_slideAll_40 rfl (by decide) rfl ?_
                have loop42 : ∀ (N42 : Nat) (d : Int), 0 ≤ d ∧ d ≤ 4 → (4 - d : Int) < N42 → Z E (wMo g m b th hr tm en lo (y + (rnd f v c).2) fa ((rnd f v c).1) f w k q td ov) [(0, .ref m), (1, .int (iI y)), (2, .int (iI i)), (3, .int (iI c)), (4, .int (iI (lowk (rnd f v c).1 c d))), (5, .int (iI d))] 0 0 42 [] := by
                  intro N42
                  induction N42 with
                  | zero => intro d hd hm42; exact absurd hm42 (by omega)
                  | succ N42 ih42 =>
                    intro d hd hm42
                    have qlk := lowk_rg (rnd f v c).1 (c := c) (by omega) hd.1
                    refine z_iload 44 hC 5 dX2_slideAll_42 rfl rfl ?_
                    refine z_iconst 45 hC dX2_slideAll_44 rfl ?_
                    refine z_icmp_ge 93 48 hC dX2_slideAll_45 (by decide) rfl (by omega) (by omega) (fun c_4 => ?_) (fun c_4 => ?_)
                    · skip
                      obtain rfl : d = 4 := by omega
                      have eL : lowk (rnd f v c).1 c 4 = low (rnd f v c).1 c := rfl
                      rw [eL]
                      have qlow := low_rg (rnd f v c).1 (c := c) (by omega)
                      have qlne := low_ne (rnd f v c).1 (c := c) (by omega)
                      refine z_aloadn 94 hC 0 dX2_slideAll_93 rfl rfl rfl ?_
                      refine z_get 97 0 7 hC hinX2 L9 dX2_slideAll_94 rfl rfl rfl (by decide) rfl ?_
                      refine z_iloadn 98 hC 3 dX2_slideAll_97 rfl rfl rfl ?_
                      refine z_iald 99 1 hC dX2_slideAll_98 rfl rfl (by decide) (by omega) ?_
                      have b_5 := hu c (by omega) (by omega)
                      refine z_if_eq 171 102 hC dX2_slideAll_99 (by decide) rfl (by omega) (fun c_6 => ?_) (fun c_6 => ?_)
                      · skip
                        refine z_iinc (lv' := [(3, .int (iI (c + 1))), (0, .ref m), (1, .int (iI y)), (2, .int (iI i)), (4, .int (iI (low (rnd f v c).1 c))), (5, .int (iI 4))]) 174 3 hC dX2_slideAll_171 rfl rfl (by decide) rfl ?_
                        refine z_goto 30 hC dX2_slideAll_174 (by decide) ?_
                        refine z_lv (lv' := [(0, .ref m), (1, .int (iI y)), (2, .int (iI i)), (3, .int (iI (c + 1)))]) [1, 2, 3, 0] rfl ?_
                        refine z_weq (ws' := wMo g m b th hr tm en lo (y + (rnd f v (c + 1)).2) fa ((rnd f v (c + 1)).1) f w k q td ov) (zEq.cons (zE1.obj (zfk (zfk (zfk (zfk (zfk (zfc (by first | (rw [rnd_n (by omega) (by omega)]; done) | (rw [rnd_y (by omega) (by omega)]; show _ = y + ((rnd f v c).2 + 1); omega)) (zfk (zfk (zfk (zfk (zfk (zfk (zfk (zfk rfl))))))))))))))) (zEq.cons (zE1.arr (by first | (intro j h0 h1; rfl) | (intro j h0 h1; first | rw [rnd_y (by omega) (by omega)] | rw [rnd_n (by omega) (by omega)]))) (zEq.cons zE1.rf (zEq.cons zE1.rf (zEq.cons zE1.rf (zEq.cons zE1.rf (zEq.cons zE1.rf (zEq.cons zE1.rf zEq.nil)))))))) ?_
                        exact ih30 (c + 1) (by omega) (by omega)
                      · skip
                        refine z_aloadn 103 hC 0 dX2_slideAll_102 rfl rfl rfl ?_
                        refine z_iloadn 104 hC 3 dX2_slideAll_103 rfl rfl rfl ?_
                        refine z_calli (wr := []) (w2 := fun _ => wMo g m b th hr tm en lo (y + (rnd f v c).2) fa ((rnd f v c).1) f w k q td ov) 107 hC [0, 1, 2, 3, 4, 5, 6, 7] [] [0, 1, 2, 3, 4, 5, 6, 7] (z_runV (nA := 1) hC hN (c_X2_height l D g m b th hr tm en lo (y + (rnd f v c).2) fa ((rnd f v c).1) f w k q td ov c (by omega)) [0, 1, 2, 3, 4, 5, 6, 7] rfl (by decide) gX2_slideAll_X2_height (by decide +kernel) rfl rfl rfl ⟨by decide, by decide⟩ rfl rfl (nle rfl) dX2_slideAll_104 ⟨by decide, by decide⟩ 0 rfl rfl) rfl rfl (by decide) (by decide) (fun _ => rfl) (by decide) rfl (k2 := 0) (n2 := 0) rfl rfl (fun z_8 _ p_9 => ?_)
                        subst p_9
                        have y_7 := hg_bd hu (c := c) (by omega)
                        refine z_aloadn 108 hC 0 dX2_slideAll_107 rfl rfl rfl ?_
                        refine z_iload 110 hC 4 dX2_slideAll_108 rfl rfl ?_
                        refine z_calli (wr := []) (w2 := fun _ => wMo g m b th hr tm en lo (y + (rnd f v c).2) fa ((rnd f v c).1) f w k q td ov) 113 hC [0, 1, 2, 3, 4, 5, 6, 7] [] [0, 1, 2, 3, 4, 5, 6, 7] (z_runV (nA := 1) hC hN (c_X2_height l D g m b th hr tm en lo (y + (rnd f v c).2) fa ((rnd f v c).1) f w k q td ov (low (rnd f v c).1 c) (by omega)) [0, 1, 2, 3, 4, 5, 6, 7] rfl (by decide) gX2_slideAll_X2_height (by decide +kernel) rfl rfl rfl ⟨by decide, by decide⟩ rfl rfl (nle rfl) dX2_slideAll_110 ⟨by decide, by decide⟩ 0 rfl rfl) rfl rfl (by decide) (by decide) (fun _ => rfl) (by decide) rfl (k2 := 0) (n2 := 0) rfl rfl (fun z_11 _ p_12 => ?_)
                        subst p_12
                        have y_10 := hg_bd hu (c := low (rnd f v c).1 c) (by omega)
                        refine z_iconst 114 hC dX2_slideAll_113 rfl ?_
                        refine z_iadd 115 hC dX2_slideAll_114 rfl ?_
                        refine z_aloadn 116 hC 0 dX2_slideAll_115 rfl rfl rfl ?_
                        refine z_get 119 0 8 hC hinX2 L13 dX2_slideAll_116 rfl rfl rfl (by decide) rfl ?_
                        refine z_iloadn 120 hC 3 dX2_slideAll_119 rfl rfl rfl ?_
                        refine z_iald 121 2 hC dX2_slideAll_120 rfl rfl (by decide) (by omega) ?_
                        have b_13 := hf c (by omega) (by omega)
                        refine z_iadd 122 hC dX2_slideAll_121 rfl ?_
                        refine z_icmp_le 171 125 hC dX2_slideAll_122 (by decide) rfl (by omega) (by omega) (fun c_14 => ?_) (fun c_14 => ?_)
                        · skip
                          refine z_iinc (lv' := [(3, .int (iI (c + 1))), (0, .ref m), (1, .int (iI y)), (2, .int (iI i)), (4, .int (iI (low (rnd f v c).1 c))), (5, .int (iI 4))]) 174 3 hC dX2_slideAll_171 rfl rfl (by decide) rfl ?_
                          refine z_goto 30 hC dX2_slideAll_174 (by decide) ?_
                          refine z_lv (lv' := [(0, .ref m), (1, .int (iI y)), (2, .int (iI i)), (3, .int (iI (c + 1)))]) [1, 2, 3, 0] rfl ?_
                          refine z_weq (ws' := wMo g m b th hr tm en lo (y + (rnd f v (c + 1)).2) fa ((rnd f v (c + 1)).1) f w k q td ov) (zEq.cons (zE1.obj (zfk (zfk (zfk (zfk (zfk (zfc (by first | (rw [rnd_n (by omega) (by omega)]; done) | (rw [rnd_y (by omega) (by omega)]; show _ = y + ((rnd f v c).2 + 1); omega)) (zfk (zfk (zfk (zfk (zfk (zfk (zfk (zfk rfl))))))))))))))) (zEq.cons (zE1.arr (by first | (intro j h0 h1; rfl) | (intro j h0 h1; first | rw [rnd_y (by omega) (by omega)] | rw [rnd_n (by omega) (by omega)]))) (zEq.cons zE1.rf (zEq.cons zE1.rf (zEq.cons zE1.rf (zEq.cons zE1.rf (zEq.cons zE1.rf (zEq.cons zE1.rf zEq.nil)))))))) ?_
                          exact ih30 (c + 1) (by omega) (by omega)
                        · skip
                          refine z_aloadn 126 hC 0 dX2_slideAll_125 rfl rfl rfl ?_
                          refine z_get 129 0 7 hC hinX2 L9 dX2_slideAll_126 rfl rfl rfl (by decide) rfl ?_
                          refine z_iload 131 hC 4 dX2_slideAll_129 rfl rfl ?_
                          refine z_iald 132 1 hC dX2_slideAll_131 rfl rfl (by decide) (by omega) ?_
                          have b_15 := hu (low (rnd f v c).1 c) (by omega) (by omega)
                          refine z_bipush 134 hC dX2_slideAll_132 (by decide) rfl ?_
                          refine z_icmp_ne 140 137 hC dX2_slideAll_134 (by decide) rfl (by omega) (by omega) (fun c_16 => ?_) (fun c_16 => ?_)
                          · skip
                            refine z_aloadn 141 hC 0 dX2_slideAll_140 rfl rfl rfl ?_
                            refine z_get 144 0 7 hC hinX2 L9 dX2_slideAll_141 rfl rfl rfl (by decide) rfl ?_
                            refine z_iloadn 145 hC 3 dX2_slideAll_144 rfl rfl rfl ?_
                            refine z_dup2 146 hC dX2_slideAll_145 rfl rfl rfl ?_
                            refine z_iald 147 1 hC dX2_slideAll_146 rfl rfl (by decide) (by omega) ?_
                            have b_17 := hu c (by omega) (by omega)
                            refine z_iconst 148 hC dX2_slideAll_147 rfl ?_
                            refine z_isub 149 hC dX2_slideAll_148 rfl ?_
                            refine z_iast (ws' := wMo g m b th hr tm en lo (y + (rnd f v c).2) fa (up ((rnd f v c).1) c ((((rnd f v c).1) c) - 1)) f w k q td ov) 150 1 hC dX2_slideAll_149 rfl rfl (by decide) (by omega) rfl ?_
                            refine z_aloadn 151 hC 0 dX2_slideAll_150 rfl rfl rfl ?_
                            refine z_get 154 0 7 hC hinX2 L9 dX2_slideAll_151 rfl rfl rfl (by decide) rfl ?_
                            refine z_iload 156 hC 4 dX2_slideAll_154 rfl rfl ?_
                            refine z_dup2 157 hC dX2_slideAll_156 rfl rfl rfl ?_
                            refine z_iald 158 1 hC dX2_slideAll_157 rfl rfl (by decide) (by omega) ?_
                            refine z_iconst 159 hC dX2_slideAll_158 rfl ?_
                            refine z_iadd 160 hC dX2_slideAll_159 rfl ?_
                            refine z_iast (ws' := wMo g m b th hr tm en lo (y + (rnd f v c).2) fa (up (up ((rnd f v c).1) c ((((rnd f v c).1) c) - 1)) (low (rnd f v c).1 c) (((up ((rnd f v c).1) c ((((rnd f v c).1) c) - 1)) (low (rnd f v c).1 c)) + 1)) f w k q td ov) 161 1 hC dX2_slideAll_160 rfl rfl (by decide) (by omega) rfl ?_
                            refine z_aloadn 162 hC 0 dX2_slideAll_161 rfl rfl rfl ?_
                            refine z_dup 163 hC dX2_slideAll_162 rfl rfl ?_
                            refine z_get 166 0 5 hC hinX2 L98 dX2_slideAll_163 rfl rfl rfl (by decide) rfl ?_
                            refine z_iconst 167 hC dX2_slideAll_166 rfl ?_
                            refine z_iadd 168 hC dX2_slideAll_167 rfl ?_
                            refine z_put (ty := .int) (ws' := wMo g m b th hr tm en lo ((y + (rnd f v c).2) + 1) fa (up (up ((rnd f v c).1) c ((((rnd f v c).1) c) - 1)) (low (rnd f v c).1 c) (((up ((rnd f v c).1) c ((((rnd f v c).1) c) - 1)) (low (rnd f v c).1 c)) + 1)) f w k q td ov) 171 0 5 hC tyX2 tyX2_ok nmX2 hinX2 L98 dX2_slideAll_168 rfl rfl rfl (by decide) rfl (by decide +kernel) rfl rfl (nle rfl) rfl ?_
                            refine z_iinc (lv' := [(3, .int (iI (c + 1))), (0, .ref m), (1, .int (iI y)), (2, .int (iI i)), (4, .int (iI (low (rnd f v c).1 c))), (5, .int (iI 4))]) 174 3 hC dX2_slideAll_171 rfl rfl (by decide) rfl ?_
                            refine z_goto 30 hC dX2_slideAll_174 (by decide) ?_
                            refine z_lv (lv' := [(0, .ref m), (1, .int (iI y)), (2, .int (iI i)), (3, .int (iI (c + 1)))]) [1, 2, 3, 0] rfl ?_
                            refine z_weq (ws' := wMo g m b th hr tm en lo (y + (rnd f v (c + 1)).2) fa ((rnd f v (c + 1)).1) f w k q td ov) (zEq.cons (zE1.obj (zfk (zfk (zfk (zfk (zfk (zfc (by first | (rw [rnd_n (by omega) (by omega)]; done) | (rw [rnd_y (by omega) (by omega)]; show _ = y + ((rnd f v c).2 + 1); omega)) (zfk (zfk (zfk (zfk (zfk (zfk (zfk (zfk rfl))))))))))))))) (zEq.cons (zE1.arr (by first | (intro j h0 h1; rfl) | (intro j h0 h1; first | rw [rnd_y (by omega) (by omega)] | rw [rnd_n (by omega) (by omega)]))) (zEq.cons zE1.rf (zEq.cons zE1.rf (zEq.cons zE1.rf (zEq.cons zE1.rf (zEq.cons zE1.rf (zEq.cons zE1.rf zEq.nil)))))))) ?_
                            exact ih30 (c + 1) (by omega) (by omega)
                          · skip
                            refine z_goto 171 hC dX2_slideAll_137 (by decide) ?_
                            refine z_iinc (lv' := [(3, .int (iI (c + 1))), (0, .ref m), (1, .int (iI y)), (2, .int (iI i)), (4, .int (iI (low (rnd f v c).1 c))), (5, .int (iI 4))]) 174 3 hC dX2_slideAll_171 rfl rfl (by decide) rfl ?_
                            refine z_goto 30 hC dX2_slideAll_174 (by decide) ?_
                            refine z_lv (lv' := [(0, .ref m), (1, .int (iI y)), (2, .int (iI i)), (3, .int (iI (c + 1)))]) [1, 2, 3, 0] rfl ?_
                            refine z_weq (ws' := wMo g m b th hr tm en lo (y + (rnd f v (c + 1)).2) fa ((rnd f v (c + 1)).1) f w k q td ov) (zEq.cons (zE1.obj (zfk (zfk (zfk (zfk (zfk (zfc (by first | (rw [rnd_n (by omega) (by omega)]; done) | (rw [rnd_y (by omega) (by omega)]; show _ = y + ((rnd f v c).2 + 1); omega)) (zfk (zfk (zfk (zfk (zfk (zfk (zfk (zfk rfl))))))))))))))) (zEq.cons (zE1.arr (by first | (intro j h0 h1; rfl) | (intro j h0 h1; first | rw [rnd_y (by omega) (by omega)] | rw [rnd_n (by omega) (by omega)]))) (zEq.cons zE1.rf (zEq.cons zE1.rf (zEq.cons zE1.rf (zEq.cons zE1.rf (zEq.cons zE1.rf (zEq.cons zE1.rf zEq.nil)))))))) ?_
                            exact ih30 (c + 1) (by omega) (by omega)
                    · skip
                      refine z_iloadn 49 hC 3 dX2_slideAll_48 rfl rfl rfl ?_
                      refine z_iload 51 hC 5 dX2_slideAll_49 rfl rfl ?_
                      refine z_calli (wr := [(m, .inr (2, [.int (iI th), .int (iI hr), .int (iI tm), .int (iI en), .int (iI lo), .int (iI (y + (rnd f v c).2)), .int (iI fa), .ref (b 0), .ref (b 1), .ref (b 2), .ref (b 3), .ref (b 4), .ref (b 5), .ref (b 6)])), ((b 0), ar g 120 ((rnd f v c).1)), ((b 1), ar g 120 f), ((b 2), ar g 120 w), ((b 3), ar g 120 k), ((b 4), ar g 16 q), ((b 5), ar g 12 td), ((b 6), ar g 120 ov)]) (w2 := fun _ => wMo g m b th hr tm en lo (y + (rnd f v c).2) fa ((rnd f v c).1) f w k q td ov) 54 hC [] [0, 1, 2, 3, 4, 5, 6, 7] [0, 1, 2, 3, 4, 5, 6, 7] (z_runS (nA := 2) hC hN (c_X2_beside l D g c d (by omega) (by omega)) [] rfl (by decide) gX2_slideAll_X2_beside (by decide +kernel) rfl rfl rfl ⟨by decide, by decide⟩ rfl rfl (nle rfl) dX2_slideAll_51 ⟨by decide, by decide⟩) rfl rfl (by decide) (by decide) (fun _ => rfl) (by decide) rfl (k2 := 0) (n2 := 0) rfl rfl (fun z_19 _ p_20 => ?_)
                      subst p_20
                      have q_18 := bsd_rg (c := c) (by omega) d
                      refine z_istore (lv' := [(6, .int (iI (bsd c d))), (0, .ref m), (1, .int (iI y)), (2, .int (iI i)), (3, .int (iI c)), (4, .int (iI (lowk (rnd f v c).1 c d))), (5, .int (iI d))]) 56 hC dX2_slideAll_54 rfl (by decide) rfl ?_
                      refine z_iload 58 hC 0 dX2_slideAll_56 rfl rfl ?_
                      refine z_iconst 59 hC dX2_slideAll_58 rfl ?_
                      refine z_icmp_eq 87 62 hC dX2_slideAll_59 (by decide) rfl (by omega) (by omega) (fun c_21 => ?_) (fun c_21 => ?_)
                      · skip
                        refine z_iinc (lv' := [(5, .int (iI (d + 1))), (6, .int (iI (bsd c d))), (0, .ref m), (1, .int (iI y)), (2, .int (iI i)), (3, .int (iI c)), (4, .int (iI (lowk (rnd f v c).1 c d)))]) 90 6 hC dX2_slideAll_87 rfl rfl (by decide) rfl ?_
                        refine z_goto 42 hC dX2_slideAll_90 (by decide) ?_
                        refine z_lv (lv' := [(0, .ref m), (1, .int (iI y)), (2, .int (iI i)), (3, .int (iI c)), (4, .int (iI (lowk (rnd f v c).1 c d))), (5, .int (iI (d + 1)))]) [2, 3, 4, 5, 6, 0] rfl ?_
                        refine z_lveq (lv' := [(0, .ref m), (1, .int (iI y)), (2, .int (iI i)), (3, .int (iI c)), (4, .int (iI (lowk (rnd f v c).1 c (d + 1)))), (5, .int (iI (d + 1)))]) (zfk (zfk (zfk (zfk (zlc (by rw [lowk_s (rnd f v c).1 c (by omega)]; omega) (zfk rfl)))))) ?_
                        exact ih42 (d + 1) (by omega) (by omega)
                      · skip
                        refine z_iload 64 hC 5 dX2_slideAll_62 rfl rfl ?_
                        refine z_iconst 65 hC dX2_slideAll_64 rfl ?_
                        refine z_icmp_eq 83 68 hC dX2_slideAll_65 (by decide) rfl (by omega) (by omega) (fun c_22 => ?_) (fun c_22 => ?_)
                        · skip
                          refine z_iload 85 hC 0 dX2_slideAll_83 rfl rfl ?_
                          refine z_istore (lv' := [(4, .int (iI (bsd c d))), (6, .int (iI (bsd c d))), (0, .ref m), (1, .int (iI y)), (2, .int (iI i)), (3, .int (iI c)), (5, .int (iI d))]) 87 hC dX2_slideAll_85 rfl (by decide) rfl ?_
                          refine z_iinc (lv' := [(5, .int (iI (d + 1))), (4, .int (iI (bsd c d))), (6, .int (iI (bsd c d))), (0, .ref m), (1, .int (iI y)), (2, .int (iI i)), (3, .int (iI c))]) 90 6 hC dX2_slideAll_87 rfl rfl (by decide) rfl ?_
                          refine z_goto 42 hC dX2_slideAll_90 (by decide) ?_
                          refine z_lv (lv' := [(0, .ref m), (1, .int (iI y)), (2, .int (iI i)), (3, .int (iI c)), (4, .int (iI (bsd c d))), (5, .int (iI (d + 1)))]) [3, 4, 5, 6, 1, 0] rfl ?_
                          refine z_lveq (lv' := [(0, .ref m), (1, .int (iI y)), (2, .int (iI i)), (3, .int (iI c)), (4, .int (iI (lowk (rnd f v c).1 c (d + 1)))), (5, .int (iI (d + 1)))]) (zfk (zfk (zfk (zfk (zlc (by rw [lowk_s (rnd f v c).1 c (by omega)]; omega) (zfk rfl)))))) ?_
                          exact ih42 (d + 1) (by omega) (by omega)
                        · skip
                          refine z_aloadn 69 hC 1 dX2_slideAll_68 rfl rfl rfl ?_
                          refine z_iload 71 hC 0 dX2_slideAll_69 rfl rfl ?_
                          refine z_calli (wr := []) (w2 := fun _ => wMo g m b th hr tm en lo (y + (rnd f v c).2) fa ((rnd f v c).1) f w k q td ov) 74 hC [0, 1, 2, 3, 4, 5, 6, 7] [] [0, 1, 2, 3, 4, 5, 6, 7] (z_runV (nA := 1) hC hN (c_X2_height l D g m b th hr tm en lo (y + (rnd f v c).2) fa ((rnd f v c).1) f w k q td ov (bsd c d) (by omega)) [0, 1, 2, 3, 4, 5, 6, 7] rfl (by decide) gX2_slideAll_X2_height (by decide +kernel) rfl rfl rfl ⟨by decide, by decide⟩ rfl rfl (nle rfl) dX2_slideAll_71 ⟨by decide, by decide⟩ 0 rfl rfl) rfl rfl (by decide) (by decide) (fun _ => rfl) (by decide) rfl (k2 := 0) (n2 := 0) rfl rfl (fun z_24 _ p_25 => ?_)
                          subst p_25
                          have y_23 := hg_bd hu (c := bsd c d) (by omega)
                          refine z_aloadn 75 hC 1 dX2_slideAll_74 rfl rfl rfl ?_
                          refine z_iload 77 hC 5 dX2_slideAll_75 rfl rfl ?_
                          refine z_calli (wr := []) (w2 := fun _ => wMo g m b th hr tm en lo (y + (rnd f v c).2) fa ((rnd f v c).1) f w k q td ov) 80 hC [0, 1, 2, 3, 4, 5, 6, 7] [] [0, 1, 2, 3, 4, 5, 6, 7] (z_runV (nA := 1) hC hN (c_X2_height l D g m b th hr tm en lo (y + (rnd f v c).2) fa ((rnd f v c).1) f w k q td ov (lowk (rnd f v c).1 c d) (by omega)) [0, 1, 2, 3, 4, 5, 6, 7] rfl (by decide) gX2_slideAll_X2_height (by decide +kernel) rfl rfl rfl ⟨by decide, by decide⟩ rfl rfl (nle rfl) dX2_slideAll_77 ⟨by decide, by decide⟩ 0 rfl rfl) rfl rfl (by decide) (by decide) (fun _ => rfl) (by decide) rfl (k2 := 0) (n2 := 0) rfl rfl (fun z_27 _ p_28 => ?_)
                          subst p_28
                          have y_26 := hg_bd hu (c := lowk (rnd f v c).1 c d) (by omega)
                          refine z_icmp_ge 87 83 hC dX2_slideAll_80 (by decide) rfl (by omega) (by omega) (fun c_29 => ?_) (fun c_29 => ?_)
                          · skip
                            refine z_iinc (lv' := [(5, .int (iI (d + 1))), (6, .int (iI (bsd c d))), (0, .ref m), (1, .int (iI y)), (2, .int (iI i)), (3, .int (iI c)), (4, .int (iI (lowk (rnd f v c).1 c d)))]) 90 6 hC dX2_slideAll_87 rfl rfl (by decide) rfl ?_
                            refine z_goto 42 hC dX2_slideAll_90 (by decide) ?_
                            refine z_lv (lv' := [(0, .ref m), (1, .int (iI y)), (2, .int (iI i)), (3, .int (iI c)), (4, .int (iI (lowk (rnd f v c).1 c d))), (5, .int (iI (d + 1)))]) [2, 3, 4, 5, 6, 0] rfl ?_
                            refine z_lveq (lv' := [(0, .ref m), (1, .int (iI y)), (2, .int (iI i)), (3, .int (iI c)), (4, .int (iI (lowk (rnd f v c).1 c (d + 1)))), (5, .int (iI (d + 1)))]) (zfk (zfk (zfk (zfk (zlc (by rw [lowk_s (rnd f v c).1 c (by omega)]; omega) (zfk rfl)))))) ?_
                            exact ih42 (d + 1) (by omega) (by omega)
                          · skip
                            refine z_iload 85 hC 0 dX2_slideAll_83 rfl rfl ?_
                            refine z_istore (lv' := [(4, .int (iI (bsd c d))), (6, .int (iI (bsd c d))), (0, .ref m), (1, .int (iI y)), (2, .int (iI i)), (3, .int (iI c)), (5, .int (iI d))]) 87 hC dX2_slideAll_85 rfl (by decide) rfl ?_
                            refine z_iinc (lv' := [(5, .int (iI (d + 1))), (4, .int (iI (bsd c d))), (6, .int (iI (bsd c d))), (0, .ref m), (1, .int (iI y)), (2, .int (iI i)), (3, .int (iI c))]) 90 6 hC dX2_slideAll_87 rfl rfl (by decide) rfl ?_
                            refine z_goto 42 hC dX2_slideAll_90 (by decide) ?_
                            refine z_lv (lv' := [(0, .ref m), (1, .int (iI y)), (2, .int (iI i)), (3, .int (iI c)), (4, .int (iI (bsd c d))), (5, .int (iI (d + 1)))]) [3, 4, 5, 6, 1, 0] rfl ?_
                            refine z_lveq (lv' := [(0, .ref m), (1, .int (iI y)), (2, .int (iI i)), (3, .int (iI c)), (4, .int (iI (lowk (rnd f v c).1 c (d + 1)))), (5, .int (iI (d + 1)))]) (zfk (zfk (zfk (zfk (zlc (by rw [lowk_s (rnd f v c).1 c (by omega)]; omega) (zfk rfl)))))) ?_
                            exact ih42 (d + 1) (by omega) (by omega)
                refine z_lv (lv' := [(0, .ref m), (1, .int (iI y)), (2, .int (iI i)), (3, .int (iI c)), (4, .int (iI (-1))), (5, .int (iI 0))]) [2, 3, 4, 5, 1, 0] rfl ?_
                refine z_lveq (lv' := [(0, .ref m), (1, .int (iI y)), (2, .int (iI i)), (3, .int (iI c)), (4, .int (iI (lowk (rnd f v c).1 c 0))), (5, .int (iI 0))]) (zfk (zfk (zfk (zfk (zlc (by rfl) (zfk rfl)))))) ?_
                exact loop42 ((4 - 0 + 1 : Int).toNat) 0 (by omega) (by omega)
          refine z_lv (lv' := [(0, .ref m), (1, .int (iI y)), (2, .int (iI i)), (3, .int (iI 0))]) [2, 1, 3, 0] rfl ?_
          refine z_weq (ws' := wMo g m b th hr tm en lo (y + (rnd f v 0).2) fa ((rnd f v 0).1) f w k q td ov) (zEq.cons (zE1.obj (zfk (zfk (zfk (zfk (zfk (zfc (by first | rfl | (show y = y + 0; omega)) (zfk (zfk (zfk (zfk (zfk (zfk (zfk (zfk rfl))))))))))))))) (zEq.cons (zE1.arr (by first | (intro j h0 h1; rfl) | (intro j h0 h1; rfl))) (zEq.cons zE1.rf (zEq.cons zE1.rf (zEq.cons zE1.rf (zEq.cons zE1.rf (zEq.cons zE1.rf (zEq.cons zE1.rf zEq.nil)))))))) ?_
          exact loop30 ((120 - 0 + 1 : Int).toNat) 0 (by omega) (by omega)
  refine z_lv (lv' := [(0, .ref m), (1, .int (iI (-1))), (2, .int (iI 0))]) [2, 1, 0] rfl ?_
  exact loop9 ((40 - 0 + 1 : Int).toNat) (-1) 0 0 s (by omega) (by exact slI_0 hs) (by omega) (by omega)
set_option maxHeartbeats 4000000 in
set_option maxRecDepth 100000 in
theorem c_X2_falls (l : Launch) (D : va_G) (g : Nat → ClassId) (m : Nat) (b : Nat → Nat) (th hr tm en lo sl fa : Int) (s f w k q td ov : Int → Int) (c : Int) (d : Int) (hs : Bd s 120 0 20) (hw : Bd w 120 0 1) (hc : 0 ≤ c ∧ c < 120) (hd : -1000 ≤ d ∧ d ≤ 1000) : ZMi (S := Unit) l yX2_falls wsX2_falls ({ frames := 1, cells := 0, slots := 0, locals := 40 }) D g [.ref m, .int (iI c), .int (iI d)] (wMo g m b th hr tm en lo sl fa s f w k q td ov) (fun z _ => z = if w c = 1 ∨ hg s c < d - 1 then 1 else 0) (fun _ => wMo g m b th hr tm en lo sl fa s f w k q td ov) 0 0 := by
  have hinX2 : ∀ w ∈ u_ws RX2 TX2 14, w ∈ wsX2_falls := by decide +kernel
  have L16 : Cond.fieldLink RX2 16 "SandcastleLeagueModel" "water" "[I" ∈ wsX2_falls := by decide +kernel
  refine ZMi.of (own := RX2) cX2_falls 3 [(0, .ref m), (1, .int (iI c)), (2, .int (iI d))] (by decide +kernel) rfl (nle rfl) rfl rfl ?_
  intro E hC hN hret
  refine z_aloadn 1 hC 0 dX2_falls_0 rfl rfl rfl ?_
  refine z_get 4 0 9 hC hinX2 L16 dX2_falls_1 rfl rfl rfl (by decide) rfl ?_
  refine z_iloadn 5 hC 1 dX2_falls_4 rfl rfl rfl ?_
  refine z_iald 6 3 hC dX2_falls_5 rfl rfl (by decide) (by omega) ?_
  have b_1 := hw c (by omega) (by omega)
  refine z_iconst 7 hC dX2_falls_6 rfl ?_
  refine z_icmp_eq 21 10 hC dX2_falls_7 (by decide) rfl (by omega) (by omega) (fun c_2 => ?_) (fun c_2 => ?_)
  · skip
    refine z_iconst 22 hC dX2_falls_21 rfl ?_
    refine z_goto 26 hC dX2_falls_22 (by decide) ?_
    exact hret () dX2_falls_26 (by decide) (by omega)
  · skip
    refine z_aloadn 11 hC 0 dX2_falls_10 rfl rfl rfl ?_
    refine z_iloadn 12 hC 1 dX2_falls_11 rfl rfl rfl ?_
    refine z_calli (wr := []) (w2 := fun _ => wMo g m b th hr tm en lo sl fa s f w k q td ov) 15 hC [0, 1, 2, 3, 4, 5, 6, 7] [] [0, 1, 2, 3, 4, 5, 6, 7] (z_runV (nA := 1) hC hN (c_X2_height l D g m b th hr tm en lo sl fa s f w k q td ov c (by omega)) [0, 1, 2, 3, 4, 5, 6, 7] rfl (by decide) gX2_falls_X2_height (by decide +kernel) rfl rfl rfl ⟨by decide, by decide⟩ rfl rfl (nle rfl) dX2_falls_12 ⟨by decide, by decide⟩ 0 rfl rfl) rfl rfl (by decide) (by decide) (fun _ => rfl) (by decide) rfl (k2 := 0) (n2 := 0) rfl rfl (fun z_4 _ p_5 => ?_)
    subst p_5
    have y_3 := hg_bd hs (c := c) (by omega)
    refine z_iloadn 16 hC 2 dX2_falls_15 rfl rfl rfl ?_
    refine z_iconst 17 hC dX2_falls_16 rfl ?_
    refine z_isub 18 hC dX2_falls_17 rfl ?_
    refine z_icmp_ge 25 21 hC dX2_falls_18 (by decide) rfl (by omega) (by omega) (fun c_6 => ?_) (fun c_6 => ?_)
    · skip
      refine z_iconst 26 hC dX2_falls_25 rfl ?_
      exact hret () dX2_falls_26 (by decide) (by omega)
    · skip
      refine z_iconst 22 hC dX2_falls_21 rfl ?_
      refine z_goto 26 hC dX2_falls_22 (by decide) ?_
      exact hret () dX2_falls_26 (by decide) (by omega)
set_option maxHeartbeats 4000000 in
set_option maxRecDepth 100000 in
theorem c_X2_brings (l : Launch) (D : va_G) (g : Nat → ClassId) (m : Nat) (b : Nat → Nat) (th hr tm en lo sl fa : Int) (s f w k q td ov : Int → Int) (c : Int) (hs : Bd s 120 0 20) (hc : 0 ≤ c ∧ c < 120) : ZMi (S := Unit) l yX2_brings wsX2_brings ({ frames := 0, cells := 0, slots := 0, locals := 0 }) D g [.ref m, .int (iI c)] (wMo g m b th hr tm en lo sl fa s f w k q td ov) (fun z _ => z = 1 + s c / 5) (fun _ => wMo g m b th hr tm en lo sl fa s f w k q td ov) 0 0 := by
  have hinX2 : ∀ w ∈ u_ws RX2 TX2 14, w ∈ wsX2_brings := by decide +kernel
  have L9 : Cond.fieldLink RX2 9 "SandcastleLeagueModel" "sand" "[I" ∈ wsX2_brings := by decide +kernel
  refine ZMi.of (own := RX2) cX2_brings 2 [(0, .ref m), (1, .int (iI c))] (by decide +kernel) rfl (nle rfl) rfl rfl ?_
  intro E hC hN hret
  refine z_iconst 1 hC dX2_brings_0 rfl ?_
  refine z_aloadn 2 hC 0 dX2_brings_1 rfl rfl rfl ?_
  refine z_get 5 0 7 hC hinX2 L9 dX2_brings_2 rfl rfl rfl (by decide) rfl ?_
  refine z_iloadn 6 hC 1 dX2_brings_5 rfl rfl rfl ?_
  refine z_iald 7 1 hC dX2_brings_6 rfl rfl (by decide) (by omega) ?_
  have b_1 := hs c (by omega) (by omega)
  refine z_iconst 8 hC dX2_brings_7 rfl ?_
  refine z_idiv 9 hC dX2_brings_8 rfl (by omega) (by omega) ?_
  refine z_iadd 10 hC dX2_brings_9 rfl ?_
  exact hret () dX2_brings_10 rfl (by rfl)
