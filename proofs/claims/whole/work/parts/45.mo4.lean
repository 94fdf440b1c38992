/-! the model's hour -/
theorem SI_hour {tm : Int} (L : Int) {S : SS} (h : SI tm S) : SI tm (hourT L S) := by
  intro j a b
  have h1 := h j a b
  rw [hourT_O, hourT_P]
  unfold hO hP jO jP
  by_cases c : j < 120 ∧ 0 ≤ ssO S j ∧ fal (hS (ssS S) (ssF S) L) (wet (ssS S) L) (ssP S) j = 1
  · rw [if_pos c, if_pos c]
    omega
  · rw [if_neg c, if_neg c]
    exact h1
theorem SI_hrs {tm : Int} (td : Int → Int) (hr : Int) {S : SS} (h : SI tm S) {i : Int} (h0 : 0 ≤ i) : SI tm (hrs td hr S i) := foI_ind (P := fun _ X => SI tm X) h (fun j X _ hX => SI_hour _ hX) h0
theorem sumI_le {f f' : Int → Int} {N : Int} (hN : 0 ≤ N) (h : ∀ j : Int, 0 ≤ j → j < N → f j ≤ f' j) : sumI f N ≤ sumI f' N := sumI_mono hN h
theorem S3_hour {tm : Int} (L : Int) {S : SS} (h : S3 tm S) : S3 tm (hourT L S) := by
  intro t a b
  have h1 := h t a b
  refine Int.le_trans ?_ h1
  unfold cntS
  refine sumI_le (by omega) (fun j c d => ?_)
  rw [hourT_O]
  unfold hO jO
  split <;> omega
theorem S3_hrs {tm : Int} (td : Int → Int) (hr : Int) {S : SS} (h : S3 tm S) {i : Int} (h0 : 0 ≤ i) : S3 tm (hrs td hr S i) := foI_ind (P := fun _ X => S3 tm X) h (fun j X _ hX => S3_hour _ hX) h0
noncomputable def wtp (s w : Int → Int) (L i : Int) : Int → Int := fun j => if j < i then wet s L j else w j
theorem wtp_s {s w : Int → Int} {L i x : Int} (hx : x = wet s L i) (j : Int) : up (wtp s w L i) i x j = wtp s w L (i + 1) j := by
  by_cases e : j = i
  · subst e
    rw [up_same]
    unfold wtp
    rw [if_pos (by omega), hx]
  · rw [up_ne e]
    unfold wtp
    by_cases c : j < i
    · have c1 : j < i + 1 := by omega
      simp only [c, c1, if_true]
    · have c1 : ¬ j < i + 1 := by omega
      simp only [c, c1, if_false]
theorem wet_ov {s u : Int → Int} (h : ovQ s u) {j L : Int} (hj : 0 ≤ j ∧ j < 120) (hL : L ≤ 99) : wet s L j = if u j < L then 1 else 0 := by
  have h1 := (h j hj.1 hj.2).2 L hL
  by_cases c : u j < L
  · rw [if_pos c, wet_1 (h1.mp c)]
  · rw [if_neg c, wet_0 (fun q => c (h1.mpr q))]
def srQ (sr : Int → Int) (i : Int) : Int → Int := fun j => if j < i then 20 else sr j
theorem srQ_s (sr : Int → Int) {i : Int} (j : Int) : up (srQ sr i) i 20 j = srQ sr (i + 1) j := by
  by_cases e : j = i
  · subst e
    rw [up_same]
    unfold srQ
    rw [if_pos (by omega)]
  · rw [up_ne e]
    unfold srQ
    by_cases c : j < i
    · have c1 : j < i + 1 := by omega
      simp only [c, c1, if_true]
    · have c1 : ¬ j < i + 1 := by omega
      simp only [c, c1, if_false]
theorem tbl_c {tm : Int} {bu sr lg t bu2 sr2 lg2 t2 : Int → Int} (h1 : ∀ j : Int, 0 ≤ j → j < tm → bu j = bu2 j) (h2 : ∀ j : Int, 0 ≤ j → j < tm → sr j = sr2 j) (h3 : ∀ j : Int, 0 ≤ j → j < tm → lg j = lg2 j) (h4 : ∀ j : Int, 0 ≤ j → j < tm → t j = t2 j) (j : Int) (hj : 0 ≤ j) : tbl tm bu sr lg t j = tbl tm bu2 sr2 lg2 t2 j := by
  unfold tbl
  by_cases c : tm ≤ j / 4
  · rw [if_pos c, if_pos c]
  · rw [if_neg c, if_neg c, h1 _ (by omega) (by omega), h2 _ (by omega) (by omega), h3 _ (by omega) (by omega), h4 _ (by omega) (by omega)]
theorem kJ_k {s w o p : Int → Int} {i : Int} (ho : o i < 0) (j : Int) : kOf (jO s w o p i) (jP s w o p i) j = kOf (jO s w o p (i + 1)) (jP s w o p (i + 1)) j := by
  unfold kOf
  rw [jO_n ho, jP_n ho]
theorem kJ_f {s w o p : Int → Int} {i : Int} (hf : fal s w p i = 0) (j : Int) : kOf (jO s w o p i) (jP s w o p i) j = kOf (jO s w o p (i + 1)) (jP s w o p (i + 1)) j := by
  unfold kOf
  rw [jO_k hf, jP_k hf]
theorem kJ_y {s w o p : Int → Int} {i : Int} (ho : 0 ≤ o i) (hf : fal s w p i = 1) (j : Int) : up (kOf (jO s w o p i) (jP s w o p i)) i 0 j = kOf (jO s w o p (i + 1)) (jP s w o p (i + 1)) j := by
  unfold kOf
  rw [← jO_y ho hf, ← jP_y ho hf]
  by_cases e : j = i
  · subst e
    rw [up_same, up_same, if_pos rfl]
  · rw [up_ne e, up_ne e, up_ne e]
theorem jT_o {s w o p t : Int → Int} {i x : Int} (hi : 0 ≤ i) (ho : 0 ≤ o i) (hx : x = o i) (hf : fal s w p i = 0) (j : Int) : up (jT s w o p t i) x (jT s w o p t i x + (1 + s i / 5)) j = jT s w o p t (i + 1) j := by
  subst hx
  exact jT_y hi ho hf j
theorem jO_0 (s w o p : Int → Int) : ∀ j : Int, 0 ≤ j → jO s w o p 0 j = o j := fun j h => if_neg (fun q => by omega)
theorem jP_0 (s w o p : Int → Int) : ∀ j : Int, 0 ≤ j → jP s w o p 0 j = p j := fun j h => if_neg (fun q => by omega)
theorem kJ_0 (s w o p : Int → Int) (j : Int) (h : 0 ≤ j) : kOf o p j = kOf (jO s w o p 0) (jP s w o p 0) j := by
  unfold kOf
  rw [jO_0 s w o p j h, jP_0 s w o p j h]
theorem jT_0 (s w o p t : Int → Int) (x : Int) : jT s w o p t 0 x = t x := Int.add_zero _
set_option maxHeartbeats 4000000 in
set_option maxRecDepth 100000 in
theorem c_X2_hourOn (l : Launch) (D : va_G) (g : Nat → ClassId) (m : Nat) (b : Nat → Nat) (th hr tm en : Int) (td bu sr lg ov : Int → Int) (S : SS) (htd : Bd td 12 0 30) (htm : 0 ≤ tm ∧ tm ≤ 4) (hhr : 0 ≤ hr ∧ hr ≤ 2000000) (hSB : SB S) (hSI : SI tm S) : ZMv (S := (Int → Int)) l yX2_hourOn wsX2_hourOn ({ frames := 3, cells := 0, slots := 0, locals := 160 }) D g [.ref m] (wMo g m b th hr tm en (ssLo S) (ssSl S) (ssFa S) (ssS S) (ssF S) (ssW S) (kOf (ssO S) (ssP S)) (tbl tm bu sr lg (ssT S)) td ov) (fun _ => True) (fun u => wMo g m b th (hr + 1) tm en (ssLo (hourT (td (hr % 12)) S)) (ssSl (hourT (td (hr % 12)) S)) (ssFa (hourT (td (hr % 12)) S)) (ssS (hourT (td (hr % 12)) S)) (ssF (hourT (td (hr % 12)) S)) (ssW (hourT (td (hr % 12)) S)) (kOf (ssO (hourT (td (hr % 12)) S)) (ssP (hourT (td (hr % 12)) S))) (tbl tm bu (fun _ => 20) lg (ssT (hourT (td (hr % 12)) S))) td u) 0 0 := by
  have hinX2 : ∀ w ∈ u_ws RX2 TX2 14, w ∈ wsX2_hourOn := by decide +kernel
  have L9 : Cond.fieldLink RX2 9 "SandcastleLeagueModel" "sand" "[I" ∈ wsX2_hourOn := by decide +kernel
  have L13 : Cond.fieldLink RX2 13 "SandcastleLeagueModel" "firm" "[I" ∈ wsX2_hourOn := by decide +kernel
  have L16 : Cond.fieldLink RX2 16 "SandcastleLeagueModel" "water" "[I" ∈ wsX2_hourOn := by decide +kernel
  have L19 : Cond.fieldLink RX2 19 "SandcastleLeagueModel" "sticks" "[I" ∈ wsX2_hourOn := by decide +kernel
  have L22 : Cond.fieldLink RX2 22 "SandcastleLeagueModel" "table" "[I" ∈ wsX2_hourOn := by decide +kernel
  have L25 : Cond.fieldLink RX2 25 "SandcastleLeagueModel" "tides" "[I" ∈ wsX2_hourOn := by decide +kernel
  have L28 : Cond.fieldLink RX2 28 "SandcastleLeagueModel" "over" "[I" ∈ wsX2_hourOn := by decide +kernel
  have L39 : Cond.fieldLink RX2 39 "SandcastleLeagueModel" "teams" "I" ∈ wsX2_hourOn := by decide +kernel
  have L92 : Cond.fieldLink RX2 92 "SandcastleLeagueModel" "hour" "I" ∈ wsX2_hourOn := by decide +kernel
  have L95 : Cond.fieldLink RX2 95 "SandcastleLeagueModel" "lost" "I" ∈ wsX2_hourOn := by decide +kernel
  have L101 : Cond.fieldLink RX2 101 "SandcastleLeagueModel" "fallen" "I" ∈ wsX2_hourOn := by decide +kernel
  obtain ⟨hs, hf, hw, ho, hp⟩ := id hSB
  refine ZMv.of (ty := .int) (own := RX2) cX2_hourOn 4 [(0, .ref m)] (by decide +kernel) rfl (nle rfl) rfl rfl ?_
  intro E hC hN hret
  refine z_aloadn 1 hC 0 dX2_hourOn_0 rfl rfl rfl ?_
  refine z_get 4 0 12 hC hinX2 L25 dX2_hourOn_1 rfl rfl rfl (by decide) rfl ?_
  refine z_aloadn 5 hC 0 dX2_hourOn_4 rfl rfl rfl ?_
  refine z_get 8 0 1 hC hinX2 L92 dX2_hourOn_5 rfl rfl rfl (by decide) rfl ?_
  refine z_bipush 10 hC dX2_hourOn_8 (by decide) rfl ?_
  refine z_irem 11 hC dX2_hourOn_10 rfl (by omega) (by omega) ?_
  refine z_iald 12 6 hC dX2_hourOn_11 rfl rfl (by decide) (by omega) ?_
  have b_1 := htd (hr % 12) (by omega) (by omega)
  refine z_istoren (lv' := [(1, .int (iI (td (hr % 12)))), (0, .ref m)]) 13 hC dX2_hourOn_12 rfl rfl (by decide) rfl ?_
  have bL := htd (hr % 12) (by omega) (by omega)
  obtain ⟨L, hLe⟩ : ∃ L9 : Int, L9 = td (hr % 12) := ⟨_, rfl⟩
  rw [← hLe] at bL ⊢
  refine z_aloadn 14 hC 1 dX2_hourOn_13 rfl rfl rfl ?_
  refine z_callv (wr := []) (w2 := fun u_2 => wMo g m b th hr tm en (ssLo S) (ssSl S) (ssFa S) (ssS S) (ssF S) (ssW S) (kOf (ssO S) (ssP S)) (tbl tm bu sr lg (ssT S)) td u_2) 17 hC [0, 1, 2, 3, 4, 5, 6, 7] [] [0, 1, 2, 3, 4, 5, 6, 7] (z_runV (nA := 0) hC hN (c_X2_findOver l D g m b th hr tm en (ssLo S) (ssSl S) (ssFa S) (ssS S) (ssF S) (ssW S) (kOf (ssO S) (ssP S)) (tbl tm bu sr lg (ssT S)) td ov  hs) [0, 1, 2, 3, 4, 5, 6, 7] rfl (by decide) gX2_hourOn_X2_findOver (by decide +kernel) rfl rfl rfl ⟨by decide, by decide⟩ rfl rfl (nle rfl) dX2_hourOn_14 ⟨by decide, by decide⟩ 0 rfl rfl) rfl rfl (by decide) (by decide) (fun _ => rfl) (by decide) rfl (k2 := 0) (n2 := 0) rfl rfl (fun u_2 p_3 => ?_)
  have hov := p_3
  refine z_iconst 18 hC dX2_hourOn_17 rfl ?_
  refine z_istoren (lv' := [(2, .int (iI 0)), (1, .int (iI L)), (0, .ref m)]) 19 hC dX2_hourOn_18 rfl rfl (by decide) rfl ?_
  have loop19 : ∀ (N19 : Nat) (c : Int), 0 ≤ c ∧ c ≤ 120 → (120 - c : Int) < N19 → Z E (wMo g m b th hr tm en (ssLo S) (ssSl S) (ssFa S) (ssS S) (ssF S) (wtp (ssS S) (ssW S) L c) (kOf (ssO S) (ssP S)) (tbl tm bu sr lg (ssT S)) td u_2) [(0, .ref m), (1, .int (iI L)), (2, .int (iI c))] 0 0 19 [] := by
    intro N19
    induction N19 with
    | zero => intro c hc hm19; exact absurd hm19 (by omega)
    | succ N19 ih19 =>
      intro c hc hm19
      refine z_iloadn 20 hC 2 dX2_hourOn_19 rfl rfl rfl ?_
      refine z_bipush 22 hC dX2_hourOn_20 (by decide) rfl ?_
      refine z_icmp_ge 52 25 hC dX2_hourOn_22 (by decide) rfl (by omega) (by omega) (fun c_4 => ?_) (fun c_4 => ?_)
      · skip
        obtain rfl : c = 120 := by omega
        refine z_iconst 53 hC dX2_hourOn_52 rfl ?_
        refine z_istoren (lv' := [(2, .int (iI 0)), (0, .ref m), (1, .int (iI L))]) 54 hC dX2_hourOn_53 rfl rfl (by decide) rfl ?_
        have loop54 : ∀ (N54 : Nat) (c : Int), 0 ≤ c ∧ c ≤ 120 → (120 - c : Int) < N54 → Z E (wMo g m b th hr tm en (ssLo S + wshL (ssS S) (ssF S) (wet (ssS S) L) L c) (ssSl S) (ssFa S) (wsh (ssS S) (ssF S) (wet (ssS S) L) L c) (wshF (ssF S) (wet (ssS S) L) c) (wet (ssS S) L) (kOf (ssO S) (ssP S)) (tbl tm bu sr lg (ssT S)) td u_2) [(0, .ref m), (1, .int (iI L)), (2, .int (iI c))] 0 0 54 [] := by
          intro N54
          induction N54 with
          | zero => intro c hc hm54; exact absurd hm54 (by omega)
          | succ N54 ih54 =>
            intro c hc hm54
            have e1 := wsh_at (ssS S) (ssF S) (wet (ssS S) L) L c
            have e2 := wshF_at (ssF S) (wet (ssS S) L) c
            have hv := wsh_bd (ssF S) (wet (ssS S) L) L c hs
            have hu := wshF_bd (wet (ssS S) L) c hf
            have e3 : hg (wsh (ssS S) (ssF S) (wet (ssS S) L) L c) c = hg (ssS S) c := by unfold hg; rw [e1]
            refine z_iloadn 55 hC 2 dX2_hourOn_54 rfl rfl rfl ?_
            refine z_bipush 57 hC dX2_hourOn_55 (by decide) rfl ?_
            refine z_icmp_ge 150 60 hC dX2_hourOn_57 (by decide) rfl (by omega) (by omega) (fun c_5 => ?_) (fun c_5 => ?_)
            · skip
              obtain rfl : c = 120 := by omega
              refine z_aloadn 151 hC 0 dX2_hourOn_150 rfl rfl rfl ?_
              refine z_callv (wr := []) (w2 := fun _ => wMo g m b th hr tm en (ssLo S + wshL (ssS S) (ssF S) (wet (ssS S) L) L 120) ((slA (wshF (ssF S) (wet (ssS S) L) 120) 40 (wsh (ssS S) (ssF S) (wet (ssS S) L) L 120)).2) (ssFa S) ((slA (wshF (ssF S) (wet (ssS S) L) 120) 40 (wsh (ssS S) (ssF S) (wet (ssS S) L) L 120)).1) (wshF (ssF S) (wet (ssS S) L) 120) (wet (ssS S) L) (kOf (ssO S) (ssP S)) (tbl tm bu sr lg (ssT S)) td u_2) 154 hC [0, 1, 2, 3, 4, 5, 6, 7] [] [0, 1, 2, 3, 4, 5, 6, 7] (z_runV (nA := 0) hC hN (c_X2_slideAll l D g m b th hr tm en (ssLo S + wshL (ssS S) (ssF S) (wet (ssS S) L) L 120) (ssSl S) (ssFa S) (wsh (ssS S) (ssF S) (wet (ssS S) L) L 120) (wshF (ssF S) (wet (ssS S) L) 120) (wet (ssS S) L) (kOf (ssO S) (ssP S)) (tbl tm bu sr lg (ssT S)) td u_2  (wsh_bd (ssF S) (wet (ssS S) L) L 120 hs) (wshF_bd (wet (ssS S) L) 120 hf)) [0, 1, 2, 3, 4, 5, 6, 7] rfl (by decide) gX2_hourOn_X2_slideAll (by decide +kernel) rfl rfl rfl ⟨by decide, by decide⟩ rfl rfl (nle rfl) dX2_hourOn_151 ⟨by decide, by decide⟩ 0 rfl rfl) rfl rfl (by decide) (by decide) (fun _ => rfl) (by decide) rfl (k2 := 0) (n2 := 0) rfl rfl (fun _ p_6 => ?_)
              refine z_iconst 155 hC dX2_hourOn_154 rfl ?_
              refine z_istoren (lv' := [(2, .int (iI 0)), (0, .ref m), (1, .int (iI L))]) 156 hC dX2_hourOn_155 rfl rfl (by decide) rfl ?_
              have loop156 : ∀ (N156 : Nat) (c : Int), 0 ≤ c ∧ c ≤ 120 → (120 - c : Int) < N156 → Z E (wMo g m b th hr tm en (ssLo S + hLo (ssS S) (ssF S) L) (hSl (ssS S) (ssF S) L) (ssFa S + jF (hS (ssS S) (ssF S) L) (wet (ssS S) L) (ssO S) (ssP S) c) (hS (ssS S) (ssF S) L) (hF (ssS S) (ssF S) L) (wet (ssS S) L) (kOf (jO (hS (ssS S) (ssF S) L) (wet (ssS S) L) (ssO S) (ssP S) c) (jP (hS (ssS S) (ssF S) L) (wet (ssS S) L) (ssO S) (ssP S) c)) (tbl tm bu sr lg (jT (hS (ssS S) (ssF S) L) (wet (ssS S) L) (ssO S) (ssP S) (ssT S) c)) td u_2) [(0, .ref m), (1, .int (iI L)), (2, .int (iI c))] 0 0 156 [] := by
                intro N156
                induction N156 with
                | zero => intro c hc hm156; exact absurd hm156 (by omega)
                | succ N156 ih156 =>
                  intro c hc hm156
                  have e1 : jO (hS (ssS S) (ssF S) L) (wet (ssS S) L) (ssO S) (ssP S) c c = ssO S c := if_neg (fun q => by omega)
                  have e2 : jP (hS (ssS S) (ssF S) L) (wet (ssS S) L) (ssO S) (ssP S) c c = ssP S c := if_neg (fun q => by omega)
                  have e3 : kOf (jO (hS (ssS S) (ssF S) L) (wet (ssS S) L) (ssO S) (ssP S) c) (jP (hS (ssS S) (ssF S) L) (wet (ssS S) L) (ssO S) (ssP S) c) c = kOf (ssO S) (ssP S) c := by unfold kOf; rw [e1, e2]
                  have e4 : kOf (ssO S) (ssP S) c = if ssO S c = -1 then 0 else ssP S c + 1 := rfl
                  refine z_iloadn 157 hC 2 dX2_hourOn_156 rfl rfl rfl ?_
                  refine z_bipush 159 hC dX2_hourOn_157 (by decide) rfl ?_
                  refine z_icmp_ge 230 162 hC dX2_hourOn_159 (by decide) rfl (by omega) (by omega) (fun c_7 => ?_) (fun c_7 => ?_)
                  · skip
                    obtain rfl : c = 120 := by omega
                    refine z_iconst 231 hC dX2_hourOn_230 rfl ?_
                    refine z_istoren (lv' := [(2, .int (iI 0)), (0, .ref m), (1, .int (iI L))]) 232 hC dX2_hourOn_231 rfl rfl (by decide) rfl ?_
                    have loop232 : ∀ (N232 : Nat) (c : Int), 0 ≤ c ∧ c ≤ tm → (tm - c : Int) < N232 → Z E (wMo g m b th hr tm en (ssLo S + hLo (ssS S) (ssF S) L) (hSl (ssS S) (ssF S) L) (ssFa S + jF (hS (ssS S) (ssF S) L) (wet (ssS S) L) (ssO S) (ssP S) 120) (hS (ssS S) (ssF S) L) (hF (ssS S) (ssF S) L) (wet (ssS S) L) (kOf (jO (hS (ssS S) (ssF S) L) (wet (ssS S) L) (ssO S) (ssP S) 120) (jP (hS (ssS S) (ssF S) L) (wet (ssS S) L) (ssO S) (ssP S) 120)) (tbl tm bu (srQ sr c) lg (jT (hS (ssS S) (ssF S) L) (wet (ssS S) L) (ssO S) (ssP S) (ssT S) 120)) td u_2) [(0, .ref m), (1, .int (iI L)), (2, .int (iI c))] 0 0 232 [] := by
                      intro N232
                      induction N232 with
                      | zero => intro c hc hm232; exact absurd hm232 (by omega)
                      | succ N232 ih232 =>
                        intro c hc hm232
                        refine z_iloadn 233 hC 2 dX2_hourOn_232 rfl rfl rfl ?_
                        refine z_aloadn 234 hC 0 dX2_hourOn_233 rfl rfl rfl ?_
                        refine z_get 237 0 2 hC hinX2 L39 dX2_hourOn_234 rfl rfl rfl (by decide) rfl ?_
                        refine z_icmp_ge 258 240 hC dX2_hourOn_237 (by decide) rfl (by omega) (by omega) (fun c_8 => ?_) (fun c_8 => ?_)
                        · skip
                          obtain rfl : tm = c := by omega
                          refine z_aloadn 259 hC 0 dX2_hourOn_258 rfl rfl rfl ?_
                          refine z_dup 260 hC dX2_hourOn_259 rfl rfl ?_
                          refine z_get 263 0 1 hC hinX2 L92 dX2_hourOn_260 rfl rfl rfl (by decide) rfl ?_
                          refine z_iconst 264 hC dX2_hourOn_263 rfl ?_
                          refine z_iadd 265 hC dX2_hourOn_264 rfl ?_
                          refine z_put (ty := .int) (ws' := wMo g m b th (hr + 1) tm en (ssLo S + hLo (ssS S) (ssF S) L) (hSl (ssS S) (ssF S) L) (ssFa S + jF (hS (ssS S) (ssF S) L) (wet (ssS S) L) (ssO S) (ssP S) 120) (hS (ssS S) (ssF S) L) (hF (ssS S) (ssF S) L) (wet (ssS S) L) (kOf (jO (hS (ssS S) (ssF S) L) (wet (ssS S) L) (ssO S) (ssP S) 120) (jP (hS (ssS S) (ssF S) L) (wet (ssS S) L) (ssO S) (ssP S) 120)) (tbl tm bu (srQ sr tm) lg (jT (hS (ssS S) (ssF S) L) (wet (ssS S) L) (ssO S) (ssP S) (ssT S) 120)) td u_2) 268 0 1 hC tyX2 tyX2_ok nmX2 hinX2 L92 dX2_hourOn_265 rfl rfl rfl (by decide) rfl (by decide +kernel) rfl rfl (nle rfl) rfl ?_
                          refine z_weq (ws' := wMo g m b th (hr + 1) tm en (ssLo (hourT (td (hr % 12)) S)) (ssSl (hourT (td (hr % 12)) S)) (ssFa (hourT (td (hr % 12)) S)) (ssS (hourT (td (hr % 12)) S)) (ssF (hourT (td (hr % 12)) S)) (ssW (hourT (td (hr % 12)) S)) (kOf (ssO (hourT (td (hr % 12)) S)) (ssP (hourT (td (hr % 12)) S))) (tbl tm bu (fun _ => 20) lg (ssT (hourT (td (hr % 12)) S))) td u_2) (zEq.cons (zE1.obj (zfk (zfk (zfk (zfk (zfc (by rw [← hLe]; dsimp only [ssLo, ssSl, ssFa, hourT, hFa]) (zfc (by rw [← hLe]; dsimp only [ssLo, ssSl, ssFa, hourT, hFa]) (zfc (by rw [← hLe]; dsimp only [ssLo, ssSl, ssFa, hourT, hFa]) (zfk (zfk (zfk (zfk (zfk (zfk (zfk rfl))))))))))))))) (zEq.cons (zE1.arr (by intro j h0 h1; rw [hourT_S, hLe])) (zEq.cons (zE1.arr (by intro j h0 h1; rw [hourT_F, hLe])) (zEq.cons (zE1.arr (by intro j h0 h1; rw [hourT_W, hLe])) (zEq.cons (zE1.arr (by intro j h0 h1; rw [hourT_O, hourT_P, ← hLe]; unfold hO hP; rfl)) (zEq.cons (zE1.arr (by intro j h0 h1; rw [hourT_T, ← hLe]; unfold hT; exact tbl_c (fun _ _ _ => rfl) (fun q _ h9 => if_pos h9) (fun _ _ _ => rfl) (fun _ _ _ => rfl) j h0)) (zEq.cons zE1.rf (zEq.cons zE1.rf zEq.nil)))))))) ?_
                          exact hret u_2 dX2_hourOn_268 (by trivial)
                        · skip
                          refine z_aloadn 241 hC 0 dX2_hourOn_240 rfl rfl rfl ?_
                          refine z_get 244 0 11 hC hinX2 L22 dX2_hourOn_241 rfl rfl rfl (by decide) rfl ?_
                          refine z_iconst 245 hC dX2_hourOn_244 rfl ?_
                          refine z_iloadn 246 hC 2 dX2_hourOn_245 rfl rfl rfl ?_
                          refine z_imul 247 hC dX2_hourOn_246 rfl ?_
                          refine z_iconst 248 hC dX2_hourOn_247 rfl ?_
                          refine z_iadd 249 hC dX2_hourOn_248 rfl ?_
                          refine z_bipush 251 hC dX2_hourOn_249 (by decide) rfl ?_
                          refine z_iast (ws' := wMo g m b th hr tm en (ssLo S + hLo (ssS S) (ssF S) L) (hSl (ssS S) (ssF S) L) (ssFa S + jF (hS (ssS S) (ssF S) L) (wet (ssS S) L) (ssO S) (ssP S) 120) (hS (ssS S) (ssF S) L) (hF (ssS S) (ssF S) L) (wet (ssS S) L) (kOf (jO (hS (ssS S) (ssF S) L) (wet (ssS S) L) (ssO S) (ssP S) 120) (jP (hS (ssS S) (ssF S) L) (wet (ssS S) L) (ssO S) (ssP S) 120)) (up (tbl tm bu (srQ sr c) lg (jT (hS (ssS S) (ssF S) L) (wet (ssS S) L) (ssO S) (ssP S) (ssT S) 120)) ((4 * c) + 1) 20) td u_2) 252 5 hC dX2_hourOn_251 rfl rfl (by decide) (by omega) rfl ?_
                          refine z_iinc (lv' := [(2, .int (iI (c + 1))), (0, .ref m), (1, .int (iI L))]) 255 2 hC dX2_hourOn_252 rfl rfl (by decide) rfl ?_
                          refine z_goto 232 hC dX2_hourOn_255 (by decide) ?_
                          refine z_lv (lv' := [(0, .ref m), (1, .int (iI L)), (2, .int (iI (c + 1)))]) [1, 2, 0] rfl ?_
                          refine z_weq (ws' := wMo g m b th hr tm en (ssLo S + hLo (ssS S) (ssF S) L) (hSl (ssS S) (ssF S) L) (ssFa S + jF (hS (ssS S) (ssF S) L) (wet (ssS S) L) (ssO S) (ssP S) 120) (hS (ssS S) (ssF S) L) (hF (ssS S) (ssF S) L) (wet (ssS S) L) (kOf (jO (hS (ssS S) (ssF S) L) (wet (ssS S) L) (ssO S) (ssP S) 120) (jP (hS (ssS S) (ssF S) L) (wet (ssS S) L) (ssO S) (ssP S) 120)) (tbl tm bu (srQ sr (c + 1)) lg (jT (hS (ssS S) (ssF S) L) (wet (ssS S) L) (ssO S) (ssP S) (ssT S) 120)) td u_2) (zEq.cons zE1.rf (zEq.cons zE1.rf (zEq.cons zE1.rf (zEq.cons zE1.rf (zEq.cons zE1.rf (zEq.cons (zE1.arr (by intro j h0 h1; rw [tbl_u1 (by omega)]; exact tbl_c (fun _ _ _ => rfl) (fun q _ _ => srQ_s sr q) (fun _ _ _ => rfl) (fun _ _ _ => rfl) j h0)) (zEq.cons zE1.rf (zEq.cons zE1.rf zEq.nil)))))))) ?_
                          exact ih232 (c + 1) (by omega) (by omega)
                    refine z_lv (lv' := [(0, .ref m), (1, .int (iI L)), (2, .int (iI 0))]) [1, 2, 0] rfl ?_
                    refine z_weq (ws' := wMo g m b th hr tm en (ssLo S + hLo (ssS S) (ssF S) L) (hSl (ssS S) (ssF S) L) (ssFa S + jF (hS (ssS S) (ssF S) L) (wet (ssS S) L) (ssO S) (ssP S) 120) (hS (ssS S) (ssF S) L) (hF (ssS S) (ssF S) L) (wet (ssS S) L) (kOf (jO (hS (ssS S) (ssF S) L) (wet (ssS S) L) (ssO S) (ssP S) 120) (jP (hS (ssS S) (ssF S) L) (wet (ssS S) L) (ssO S) (ssP S) 120)) (tbl tm bu (srQ sr 0) lg (jT (hS (ssS S) (ssF S) L) (wet (ssS S) L) (ssO S) (ssP S) (ssT S) 120)) td u_2) (zEq.cons zE1.rf (zEq.cons zE1.rf (zEq.cons zE1.rf (zEq.cons zE1.rf (zEq.cons zE1.rf (zEq.cons (zE1.arr (by intro j h0 h1; exact tbl_c (fun _ _ _ => rfl) (fun q _ _ => (if_neg (by omega)).symm) (fun _ _ _ => rfl) (fun _ _ _ => rfl) j h0)) (zEq.cons zE1.rf (zEq.cons zE1.rf zEq.nil)))))))) ?_
                    exact loop232 ((tm - 0 + 1 : Int).toNat) 0 (by omega) (by omega)
                  · skip
                    have r1 := hSI c (by omega) (by omega)
                    have r2 := hp c (by omega) (by omega)
                    have r3 := wet_01 (ssS S) L c
                    have r4 := hS_bd (f := ssF S) L hs c (by omega) (by omega)
                    have r5 := hg_bd (hS_bd (f := ssF S) L hs) (c := c) (by omega)
                    refine z_aloadn 163 hC 0 dX2_hourOn_162 rfl rfl rfl ?_
                    refine z_get 166 0 10 hC hinX2 L19 dX2_hourOn_163 rfl rfl rfl (by decide) rfl ?_
                    refine z_iloadn 167 hC 2 dX2_hourOn_166 rfl rfl rfl ?_
                    refine z_iald 168 4 hC dX2_hourOn_167 rfl rfl (by decide) (by omega) ?_
                    refine z_if_ne 174 171 hC dX2_hourOn_168 (by decide) rfl (by omega) (fun c_9 => ?_) (fun c_9 => ?_)
                    · skip
                      refine z_aloadn 175 hC 0 dX2_hourOn_174 rfl rfl rfl ?_
                      refine z_iloadn 176 hC 2 dX2_hourOn_175 rfl rfl rfl ?_
                      refine z_aloadn 177 hC 0 dX2_hourOn_176 rfl rfl rfl ?_
                      refine z_get 180 0 10 hC hinX2 L19 dX2_hourOn_177 rfl rfl rfl (by decide) rfl ?_
                      refine z_iloadn 181 hC 2 dX2_hourOn_180 rfl rfl rfl ?_
                      refine z_iald 182 4 hC dX2_hourOn_181 rfl rfl (by decide) (by omega) ?_
                      refine z_iconst 183 hC dX2_hourOn_182 rfl ?_
                      refine z_isub 184 hC dX2_hourOn_183 rfl ?_
                      refine z_calli (wr := []) (w2 := fun _ => wMo g m b th hr tm en (ssLo S + hLo (ssS S) (ssF S) L) (hSl (ssS S) (ssF S) L) (ssFa S + jF (hS (ssS S) (ssF S) L) (wet (ssS S) L) (ssO S) (ssP S) c) (hS (ssS S) (ssF S) L) (hF (ssS S) (ssF S) L) (wet (ssS S) L) (kOf (jO (hS (ssS S) (ssF S) L) (wet (ssS S) L) (ssO S) (ssP S) c) (jP (hS (ssS S) (ssF S) L) (wet (ssS S) L) (ssO S) (ssP S) c)) (tbl tm bu sr lg (jT (hS (ssS S) (ssF S) L) (wet (ssS S) L) (ssO S) (ssP S) (ssT S) c)) td u_2) 187 hC [0, 1, 2, 3, 4, 5, 6, 7] [] [0, 1, 2, 3, 4, 5, 6, 7] (z_runV (nA := 2) hC hN (c_X2_falls l D g m b th hr tm en (ssLo S + hLo (ssS S) (ssF S) L) (hSl (ssS S) (ssF S) L) (ssFa S + jF (hS (ssS S) (ssF S) L) (wet (ssS S) L) (ssO S) (ssP S) c) (hS (ssS S) (ssF S) L) (hF (ssS S) (ssF S) L) (wet (ssS S) L) (kOf (jO (hS (ssS S) (ssF S) L) (wet (ssS S) L) (ssO S) (ssP S) c) (jP (hS (ssS S) (ssF S) L) (wet (ssS S) L) (ssO S) (ssP S) c)) (tbl tm bu sr lg (jT (hS (ssS S) (ssF S) L) (wet (ssS S) L) (ssO S) (ssP S) (ssT S) c)) td u_2 c (((kOf (jO (hS (ssS S) (ssF S) L) (wet (ssS S) L) (ssO S) (ssP S) c) (jP (hS (ssS S) (ssF S) L) (wet (ssS S) L) (ssO S) (ssP S) c)) c) - 1) (hS_bd L hs) (wet_bd (ssS S) L) (by omega) (by omega)) [0, 1, 2, 3, 4, 5, 6, 7] rfl (by decide) gX2_hourOn_X2_falls (by decide +kernel) rfl rfl rfl ⟨by decide, by decide⟩ rfl rfl (nle rfl) dX2_hourOn_184 ⟨by decide, by decide⟩ 0 rfl rfl) rfl rfl (by decide) (by decide) (fun _ => rfl) (by decide) rfl (k2 := 0) (n2 := 0) rfl rfl (fun z_10 _ p_11 => ?_)
                      subst p_11
                      refine z_if_eq 210 190 hC dX2_hourOn_187 (by decide) rfl (by omega) (fun c_12 => ?_) (fun c_12 => ?_)
                      · skip
                        refine z_aloadn 211 hC 0 dX2_hourOn_210 rfl rfl rfl ?_
                        refine z_iloadn 212 hC 2 dX2_hourOn_211 rfl rfl rfl ?_
                        refine z_calli (wr := [(m, .inr (2, [.int (iI th), .int (iI hr), .int (iI tm), .int (iI en), .int (iI (ssLo S + hLo (ssS S) (ssF S) L)), .int (iI (hSl (ssS S) (ssF S) L)), .int (iI (ssFa S + jF (hS (ssS S) (ssF S) L) (wet (ssS S) L) (ssO S) (ssP S) c)), .ref (b 0), .ref (b 1), .ref (b 2), .ref (b 3), .ref (b 4), .ref (b 5), .ref (b 6)])), ((b 0), ar g 120 (hS (ssS S) (ssF S) L)), ((b 1), ar g 120 (hF (ssS S) (ssF S) L)), ((b 2), ar g 120 (wet (ssS S) L)), ((b 3), ar g 120 (kOf (jO (hS (ssS S) (ssF S) L) (wet (ssS S) L) (ssO S) (ssP S) c) (jP (hS (ssS S) (ssF S) L) (wet (ssS S) L) (ssO S) (ssP S) c))), ((b 4), ar g 16 (tbl tm bu sr lg (jT (hS (ssS S) (ssF S) L) (wet (ssS S) L) (ssO S) (ssP S) (ssT S) c))), ((b 5), ar g 12 td), ((b 6), ar g 120 u_2)]) (w2 := fun _ => wMo g m b th hr tm en (ssLo S + hLo (ssS S) (ssF S) L) (hSl (ssS S) (ssF S) L) (ssFa S + jF (hS (ssS S) (ssF S) L) (wet (ssS S) L) (ssO S) (ssP S) c) (hS (ssS S) (ssF S) L) (hF (ssS S) (ssF S) L) (wet (ssS S) L) (kOf (jO (hS (ssS S) (ssF S) L) (wet (ssS S) L) (ssO S) (ssP S) c) (jP (hS (ssS S) (ssF S) L) (wet (ssS S) L) (ssO S) (ssP S) c)) (tbl tm bu sr lg (jT (hS (ssS S) (ssF S) L) (wet (ssS S) L) (ssO S) (ssP S) (ssT S) c)) td u_2) 215 hC [] [0, 1, 2, 3, 4, 5, 6, 7] [0, 1, 2, 3, 4, 5, 6, 7] (z_runS (nA := 1) hC hN (c_X2_teamOf l D g c (by omega)) [] rfl (by decide) gX2_hourOn_X2_teamOf (by decide +kernel) rfl rfl rfl ⟨by decide, by decide⟩ rfl rfl (nle rfl) dX2_hourOn_212 ⟨by decide, by decide⟩) rfl rfl (by decide) (by decide) (fun _ => rfl) (by decide) rfl (k2 := 0) (n2 := 0) rfl rfl (fun z_13 _ p_14 => ?_)
                        subst p_14
                        refine z_iconst 216 hC dX2_hourOn_215 rfl ?_
                        refine z_aloadn 217 hC 0 dX2_hourOn_216 rfl rfl rfl ?_
                        refine z_iloadn 218 hC 2 dX2_hourOn_217 rfl rfl rfl ?_
                        refine z_calli (wr := []) (w2 := fun _ => wMo g m b th hr tm en (ssLo S + hLo (ssS S) (ssF S) L) (hSl (ssS S) (ssF S) L) (ssFa S + jF (hS (ssS S) (ssF S) L) (wet (ssS S) L) (ssO S) (ssP S) c) (hS (ssS S) (ssF S) L) (hF (ssS S) (ssF S) L) (wet (ssS S) L) (kOf (jO (hS (ssS S) (ssF S) L) (wet (ssS S) L) (ssO S) (ssP S) c) (jP (hS (ssS S) (ssF S) L) (wet (ssS S) L) (ssO S) (ssP S) c)) (tbl tm bu sr lg (jT (hS (ssS S) (ssF S) L) (wet (ssS S) L) (ssO S) (ssP S) (ssT S) c)) td u_2) 221 hC [0, 1, 2, 3, 4, 5, 6, 7] [] [0, 1, 2, 3, 4, 5, 6, 7] (z_runV (nA := 1) hC hN (c_X2_brings l D g m b th hr tm en (ssLo S + hLo (ssS S) (ssF S) L) (hSl (ssS S) (ssF S) L) (ssFa S + jF (hS (ssS S) (ssF S) L) (wet (ssS S) L) (ssO S) (ssP S) c) (hS (ssS S) (ssF S) L) (hF (ssS S) (ssF S) L) (wet (ssS S) L) (kOf (jO (hS (ssS S) (ssF S) L) (wet (ssS S) L) (ssO S) (ssP S) c) (jP (hS (ssS S) (ssF S) L) (wet (ssS S) L) (ssO S) (ssP S) c)) (tbl tm bu sr lg (jT (hS (ssS S) (ssF S) L) (wet (ssS S) L) (ssO S) (ssP S) (ssT S) c)) td u_2 c (hS_bd L hs) (by omega)) [0, 1, 2, 3, 4, 5, 6, 7] rfl (by decide) gX2_hourOn_X2_brings (by decide +kernel) rfl rfl rfl ⟨by decide, by decide⟩ rfl rfl (nle rfl) dX2_hourOn_218 ⟨by decide, by decide⟩ 0 rfl rfl) rfl rfl (by decide) (by decide) (fun _ => rfl) (by decide) rfl (k2 := 0) (n2 := 0) rfl rfl (fun z_15 _ p_16 => ?_)
                        subst p_16
                        refine z_callv (wr := []) (w2 := fun _ => wMo g m b th hr tm en (ssLo S + hLo (ssS S) (ssF S) L) (hSl (ssS S) (ssF S) L) (ssFa S + jF (hS (ssS S) (ssF S) L) (wet (ssS S) L) (ssO S) (ssP S) c) (hS (ssS S) (ssF S) L) (hF (ssS S) (ssF S) L) (wet (ssS S) L) (kOf (jO (hS (ssS S) (ssF S) L) (wet (ssS S) L) (ssO S) (ssP S) c) (jP (hS (ssS S) (ssF S) L) (wet (ssS S) L) (ssO S) (ssP S) c)) (up (tbl tm bu sr lg (jT (hS (ssS S) (ssF S) L) (wet (ssS S) L) (ssO S) (ssP S) (ssT S) c)) (4 * (c % 12 / 3) + 2) ((tbl tm bu sr lg (jT (hS (ssS S) (ssF S) L) (wet (ssS S) L) (ssO S) (ssP S) (ssT S) c)) (4 * (c % 12 / 3) + 2) + (1 + (hS (ssS S) (ssF S) L) c / 5))) td u_2) 224 hC [0, 1, 2, 3, 4, 5, 6, 7] [] [0, 1, 2, 3, 4, 5, 6, 7] (z_runV (nA := 3) hC hN (c_X2_add l D g m b th hr tm en (ssLo S + hLo (ssS S) (ssF S) L) (hSl (ssS S) (ssF S) L) (ssFa S + jF (hS (ssS S) (ssF S) L) (wet (ssS S) L) (ssO S) (ssP S) c) (hS (ssS S) (ssF S) L) (hF (ssS S) (ssF S) L) (wet (ssS S) L) (kOf (jO (hS (ssS S) (ssF S) L) (wet (ssS S) L) (ssO S) (ssP S) c) (jP (hS (ssS S) (ssF S) L) (wet (ssS S) L) (ssO S) (ssP S) c)) (tbl tm bu sr lg (jT (hS (ssS S) (ssF S) L) (wet (ssS S) L) (ssO S) (ssP S) (ssT S) c)) td u_2 (c % 12 / 3) 2 (1 + (hS (ssS S) (ssF S) L) c / 5) (by omega) (by omega)) [0, 1, 2, 3, 4, 5, 6, 7] rfl (by decide) gX2_hourOn_X2_add (by decide +kernel) rfl rfl rfl ⟨by decide, by decide⟩ rfl rfl (nle rfl) dX2_hourOn_221 ⟨by decide, by decide⟩ 0 rfl rfl) rfl rfl (by decide) (by decide) (fun _ => rfl) (by decide) rfl (k2 := 0) (n2 := 0) rfl rfl (fun _ p_17 => ?_)
                        refine z_weq (ws' := wMo g m b th hr tm en (ssLo S + hLo (ssS S) (ssF S) L) (hSl (ssS S) (ssF S) L) (ssFa S + jF (hS (ssS S) (ssF S) L) (wet (ssS S) L) (ssO S) (ssP S) c) (hS (ssS S) (ssF S) L) (hF (ssS S) (ssF S) L) (wet (ssS S) L) (kOf (jO (hS (ssS S) (ssF S) L) (wet (ssS S) L) (ssO S) (ssP S) c) (jP (hS (ssS S) (ssF S) L) (wet (ssS S) L) (ssO S) (ssP S) c)) (tbl tm bu sr lg (up (jT (hS (ssS S) (ssF S) L) (wet (ssS S) L) (ssO S) (ssP S) (ssT S) c) (c % 12 / 3) ((jT (hS (ssS S) (ssF S) L) (wet (ssS S) L) (ssO S) (ssP S) (ssT S) c) (c % 12 / 3) + (1 + (hS (ssS S) (ssF S) L) c / 5)))) td u_2) (zEq.cons zE1.rf (zEq.cons zE1.rf (zEq.cons zE1.rf (zEq.cons zE1.rf (zEq.cons zE1.rf (zEq.cons (zE1.arr (by intro j h0 h1; rw [tbl_2 (by omega)]; exact tbl_u2 (by omega) j)) (zEq.cons zE1.rf (zEq.cons zE1.rf zEq.nil)))))))) ?_
                        refine z_iinc (lv' := [(2, .int (iI (c + 1))), (0, .ref m), (1, .int (iI L))]) 227 2 hC dX2_hourOn_224 rfl rfl (by decide) rfl ?_
                        refine z_goto 156 hC dX2_hourOn_227 (by decide) ?_
                        refine z_lv (lv' := [(0, .ref m), (1, .int (iI L)), (2, .int (iI (c + 1)))]) [1, 2, 0] rfl ?_
                        refine z_weq (ws' := wMo g m b th hr tm en (ssLo S + hLo (ssS S) (ssF S) L) (hSl (ssS S) (ssF S) L) (ssFa S + jF (hS (ssS S) (ssF S) L) (wet (ssS S) L) (ssO S) (ssP S) (c + 1)) (hS (ssS S) (ssF S) L) (hF (ssS S) (ssF S) L) (wet (ssS S) L) (kOf (jO (hS (ssS S) (ssF S) L) (wet (ssS S) L) (ssO S) (ssP S) (c + 1)) (jP (hS (ssS S) (ssF S) L) (wet (ssS S) L) (ssO S) (ssP S) (c + 1))) (tbl tm bu sr lg (jT (hS (ssS S) (ssF S) L) (wet (ssS S) L) (ssO S) (ssP S) (ssT S) (c + 1))) td u_2) (zEq.cons (zE1.obj (zfk (zfk (zfk (zfk (zfk (zfk (zfc (by first | exact jF_n (by omega) (by omega) | exact jF_y (by omega) (by omega) (by unfold fal; omega) | exact jF_k (by omega) (by unfold fal; omega)) (zfk (zfk (zfk (zfk (zfk (zfk (zfk rfl))))))))))))))) (zEq.cons zE1.rf (zEq.cons zE1.rf (zEq.cons zE1.rf (zEq.cons (zE1.arr (by intro j h0 h1; first | exact kJ_k (by omega) j | exact kJ_f (by unfold fal; omega) j | exact kJ_y (by omega) (by unfold fal; omega) j)) (zEq.cons (zE1.arr (by intro j h0 h1; first | exact tbl_c (fun _ _ _ => rfl) (fun _ _ _ => rfl) (fun _ _ _ => rfl) (fun q _ _ => jT_n (by omega) (by omega) q (by omega)) j h0 | exact tbl_c (fun _ _ _ => rfl) (fun _ _ _ => rfl) (fun _ _ _ => rfl) (fun q _ _ => jT_k (by omega) (by unfold fal; omega) q) j h0 | exact tbl_c (fun _ _ _ => rfl) (fun _ _ _ => rfl) (fun _ _ _ => rfl) (fun q _ _ => jT_o (by omega) (by omega) (by omega) (by unfold fal; omega) q) j h0)) (zEq.cons zE1.rf (zEq.cons zE1.rf zEq.nil)))))))) ?_
                        exact ih156 (c + 1) (by omega) (by omega)
                      · skip
                        refine z_aloadn 191 hC 0 dX2_hourOn_190 rfl rfl rfl ?_
                        refine z_get 194 0 10 hC hinX2 L19 dX2_hourOn_191 rfl rfl rfl (by decide) rfl ?_
                        refine z_iloadn 195 hC 2 dX2_hourOn_194 rfl rfl rfl ?_
                        refine z_iconst 196 hC dX2_hourOn_195 rfl ?_
                        refine z_iast (ws' := wMo g m b th hr tm en (ssLo S + hLo (ssS S) (ssF S) L) (hSl (ssS S) (ssF S) L) (ssFa S + jF (hS (ssS S) (ssF S) L) (wet (ssS S) L) (ssO S) (ssP S) c) (hS (ssS S) (ssF S) L) (hF (ssS S) (ssF S) L) (wet (ssS S) L) (up (kOf (jO (hS (ssS S) (ssF S) L) (wet (ssS S) L) (ssO S) (ssP S) c) (jP (hS (ssS S) (ssF S) L) (wet (ssS S) L) (ssO S) (ssP S) c)) c 0) (tbl tm bu sr lg (jT (hS (ssS S) (ssF S) L) (wet (ssS S) L) (ssO S) (ssP S) (ssT S) c)) td u_2) 197 4 hC dX2_hourOn_196 rfl rfl (by decide) (by omega) rfl ?_
                        refine z_aloadn 198 hC 0 dX2_hourOn_197 rfl rfl rfl ?_
                        refine z_dup 199 hC dX2_hourOn_198 rfl rfl ?_
                        refine z_get 202 0 6 hC hinX2 L101 dX2_hourOn_199 rfl rfl rfl (by decide) rfl ?_
                        refine z_iconst 203 hC dX2_hourOn_202 rfl ?_
                        refine z_iadd 204 hC dX2_hourOn_203 rfl ?_
                        refine z_put (ty := .int) (ws' := wMo g m b th hr tm en (ssLo S + hLo (ssS S) (ssF S) L) (hSl (ssS S) (ssF S) L) ((ssFa S + jF (hS (ssS S) (ssF S) L) (wet (ssS S) L) (ssO S) (ssP S) c) + 1) (hS (ssS S) (ssF S) L) (hF (ssS S) (ssF S) L) (wet (ssS S) L) (up (kOf (jO (hS (ssS S) (ssF S) L) (wet (ssS S) L) (ssO S) (ssP S) c) (jP (hS (ssS S) (ssF S) L) (wet (ssS S) L) (ssO S) (ssP S) c)) c 0) (tbl tm bu sr lg (jT (hS (ssS S) (ssF S) L) (wet (ssS S) L) (ssO S) (ssP S) (ssT S) c)) td u_2) 207 0 6 hC tyX2 tyX2_ok nmX2 hinX2 L101 dX2_hourOn_204 rfl rfl rfl (by decide) rfl (by decide +kernel) rfl rfl (nle rfl) rfl ?_
                        refine z_goto 224 hC dX2_hourOn_207 (by decide) ?_
                        refine z_iinc (lv' := [(2, .int (iI (c + 1))), (0, .ref m), (1, .int (iI L))]) 227 2 hC dX2_hourOn_224 rfl rfl (by decide) rfl ?_
                        refine z_goto 156 hC dX2_hourOn_227 (by decide) ?_
                        refine z_lv (lv' := [(0, .ref m), (1, .int (iI L)), (2, .int (iI (c + 1)))]) [1, 2, 0] rfl ?_
                        refine z_weq (ws' := wMo g m b th hr tm en (ssLo S + hLo (ssS S) (ssF S) L) (hSl (ssS S) (ssF S) L) (ssFa S + jF (hS (ssS S) (ssF S) L) (wet (ssS S) L) (ssO S) (ssP S) (c + 1)) (hS (ssS S) (ssF S) L) (hF (ssS S) (ssF S) L) (wet (ssS S) L) (kOf (jO (hS (ssS S) (ssF S) L) (wet (ssS S) L) (ssO S) (ssP S) (c + 1)) (jP (hS (ssS S) (ssF S) L) (wet (ssS S) L) (ssO S) (ssP S) (c + 1))) (tbl tm bu sr lg (jT (hS (ssS S) (ssF S) L) (wet (ssS S) L) (ssO S) (ssP S) (ssT S) (c + 1))) td u_2) (zEq.cons (zE1.obj (zfk (zfk (zfk (zfk (zfk (zfk (zfc (by first | exact jF_n (by omega) (by omega) | exact jF_y (by omega) (by omega) (by unfold fal; omega) | exact jF_k (by omega) (by unfold fal; omega)) (zfk (zfk (zfk (zfk (zfk (zfk (zfk rfl))))))))))))))) (zEq.cons zE1.rf (zEq.cons zE1.rf (zEq.cons zE1.rf (zEq.cons (zE1.arr (by intro j h0 h1; first | exact kJ_k (by omega) j | exact kJ_f (by unfold fal; omega) j | exact kJ_y (by omega) (by unfold fal; omega) j)) (zEq.cons (zE1.arr (by intro j h0 h1; first | exact tbl_c (fun _ _ _ => rfl) (fun _ _ _ => rfl) (fun _ _ _ => rfl) (fun q _ _ => jT_n (by omega) (by omega) q (by omega)) j h0 | exact tbl_c (fun _ _ _ => rfl) (fun _ _ _ => rfl) (fun _ _ _ => rfl) (fun q _ _ => jT_k (by omega) (by unfold fal; omega) q) j h0 | exact tbl_c (fun _ _ _ => rfl) (fun _ _ _ => rfl) (fun _ _ _ => rfl) (fun q _ _ => jT_o (by omega) (by omega) (by omega) (by unfold fal; omega) q) j h0)) (zEq.cons zE1.rf (zEq.cons zE1.rf zEq.nil)))))))) ?_
                        exact ih156 (c + 1) (by omega) (by omega)
                    · skip
                      refine z_goto 224 hC dX2_hourOn_171 (by decide) ?_
                      refine z_iinc (lv' := [(2, .int (iI (c + 1))), (0, .ref m), (1, .int (iI L))]) 227 2 hC dX2_hourOn_224 rfl rfl (by decide) rfl ?_
                      refine z_goto 156 hC dX2_hourOn_227 (by decide) ?_
                      refine z_lv (lv' := [(0, .ref m), (1, .int (iI L)), (2, .int (iI (c + 1)))]) [1, 2, 0] rfl ?_
                      refine z_weq (ws' := wMo g m b th hr tm en (ssLo S + hLo (ssS S) (ssF S) L) (hSl (ssS S) (ssF S) L) (ssFa S + jF (hS (ssS S) (ssF S) L) (wet (ssS S) L) (ssO S) (ssP S) (c + 1)) (hS (ssS S) (ssF S) L) (hF (ssS S) (ssF S) L) (wet (ssS S) L) (kOf (jO (hS (ssS S) (ssF S) L) (wet (ssS S) L) (ssO S) (ssP S) (c + 1)) (jP (hS (ssS S) (ssF S) L) (wet (ssS S) L) (ssO S) (ssP S) (c + 1))) (tbl tm bu sr lg (jT (hS (ssS S) (ssF S) L) (wet (ssS S) L) (ssO S) (ssP S) (ssT S) (c + 1))) td u_2) (zEq.cons (zE1.obj (zfk (zfk (zfk (zfk (zfk (zfk (zfc (by first | exact jF_n (by omega) (by omega) | exact jF_y (by omega) (by omega) (by unfold fal; omega) | exact jF_k (by omega) (by unfold fal; omega)) (zfk (zfk (zfk (zfk (zfk (zfk (zfk rfl))))))))))))))) (zEq.cons zE1.rf (zEq.cons zE1.rf (zEq.cons zE1.rf (zEq.cons (zE1.arr (by intro j h0 h1; first | exact kJ_k (by omega) j | exact kJ_f (by unfold fal; omega) j | exact kJ_y (by omega) (by unfold fal; omega) j)) (zEq.cons (zE1.arr (by intro j h0 h1; first | exact tbl_c (fun _ _ _ => rfl) (fun _ _ _ => rfl) (fun _ _ _ => rfl) (fun q _ _ => jT_n (by omega) (by omega) q (by omega)) j h0 | exact tbl_c (fun _ _ _ => rfl) (fun _ _ _ => rfl) (fun _ _ _ => rfl) (fun q _ _ => jT_k (by omega) (by unfold fal; omega) q) j h0 | exact tbl_c (fun _ _ _ => rfl) (fun _ _ _ => rfl) (fun _ _ _ => rfl) (fun q _ _ => jT_o (by omega) (by omega) (by omega) (by unfold fal; omega) q) j h0)) (zEq.cons zE1.rf (zEq.cons zE1.rf zEq.nil)))))))) ?_
                      exact ih156 (c + 1) (by omega) (by omega)
              refine z_lv (lv' := [(0, .ref m), (1, .int (iI L)), (2, .int (iI 0))]) [1, 2, 0] rfl ?_
              refine z_weq (ws' := wMo g m b th hr tm en (ssLo S + hLo (ssS S) (ssF S) L) (hSl (ssS S) (ssF S) L) (ssFa S + jF (hS (ssS S) (ssF S) L) (wet (ssS S) L) (ssO S) (ssP S) 0) (hS (ssS S) (ssF S) L) (hF (ssS S) (ssF S) L) (wet (ssS S) L) (kOf (jO (hS (ssS S) (ssF S) L) (wet (ssS S) L) (ssO S) (ssP S) 0) (jP (hS (ssS S) (ssF S) L) (wet (ssS S) L) (ssO S) (ssP S) 0)) (tbl tm bu sr lg (jT (hS (ssS S) (ssF S) L) (wet (ssS S) L) (ssO S) (ssP S) (ssT S) 0)) td u_2) (zEq.cons (zE1.obj (zfk (zfk (zfk (zfk (zfc (by unfold hLo; rfl) (zfc (by unfold hSl hF hW1; rfl) (zfc (by exact (Int.add_zero _).symm) (zfk (zfk (zfk (zfk (zfk (zfk (zfk rfl))))))))))))))) (zEq.cons (zE1.arr (by intro j h0 h1; unfold hS hF hW1; rfl)) (zEq.cons (zE1.arr (by intro j h0 h1; unfold hF; rfl)) (zEq.cons zE1.rf (zEq.cons (zE1.arr (by intro j h0 h1; exact kJ_0 _ _ _ _ j h0)) (zEq.cons (zE1.arr (by intro j h0 h1; exact tbl_c (fun _ _ _ => rfl) (fun _ _ _ => rfl) (fun _ _ _ => rfl) (fun q _ _ => (jT_0 _ _ _ _ _ q).symm) j h0)) (zEq.cons zE1.rf (zEq.cons zE1.rf zEq.nil)))))))) ?_
              exact loop156 ((120 - 0 + 1 : Int).toNat) 0 (by omega) (by omega)
            · skip
              have q4 := wet_01 (ssS S) L c
              refine z_aloadn 61 hC 0 dX2_hourOn_60 rfl rfl rfl ?_
              refine z_get 64 0 9 hC hinX2 L16 dX2_hourOn_61 rfl rfl rfl (by decide) rfl ?_
              refine z_iloadn 65 hC 2 dX2_hourOn_64 rfl rfl rfl ?_
              refine z_iald 66 3 hC dX2_hourOn_65 rfl rfl (by decide) (by omega) ?_
              refine z_if_ne 72 69 hC dX2_hourOn_66 (by decide) rfl (by omega) (fun c_18 => ?_) (fun c_18 => ?_)
              · skip
                have q5 := wet_lt (s := ssS S) (L := L) (c := c) (by omega)
                have q6 := hg_bd hs (c := c) (by omega)
                have q7 := hs c (by omega) (by omega)
                have q8 := hf c (by omega) (by omega)
                have hmx : max 0 (wshF (ssF S) (wet (ssS S) L) c c - 1) = if 0 < wshF (ssF S) (wet (ssS S) L) c c then wshF (ssF S) (wet (ssS S) L) c c - 1 else wshF (ssF S) (wet (ssS S) L) c c := by omega
                refine z_iconst 73 hC dX2_hourOn_72 rfl ?_
                refine z_aloadn 74 hC 0 dX2_hourOn_73 rfl rfl rfl ?_
                refine z_get 77 0 7 hC hinX2 L9 dX2_hourOn_74 rfl rfl rfl (by decide) rfl ?_
                refine z_iloadn 78 hC 2 dX2_hourOn_77 rfl rfl rfl ?_
                refine z_iald 79 1 hC dX2_hourOn_78 rfl rfl (by decide) (by omega) ?_
                have b_19 := hv c (by omega) (by omega)
                refine z_iconst 80 hC dX2_hourOn_79 rfl ?_
                refine z_iloadn 81 hC 1 dX2_hourOn_80 rfl rfl rfl ?_
                refine z_aloadn 82 hC 0 dX2_hourOn_81 rfl rfl rfl ?_
                refine z_iloadn 83 hC 2 dX2_hourOn_82 rfl rfl rfl ?_
                refine z_calli (wr := []) (w2 := fun _ => wMo g m b th hr tm en (ssLo S + wshL (ssS S) (ssF S) (wet (ssS S) L) L c) (ssSl S) (ssFa S) (wsh (ssS S) (ssF S) (wet (ssS S) L) L c) (wshF (ssF S) (wet (ssS S) L) c) (wet (ssS S) L) (kOf (ssO S) (ssP S)) (tbl tm bu sr lg (ssT S)) td u_2) 86 hC [0, 1, 2, 3, 4, 5, 6, 7] [] [0, 1, 2, 3, 4, 5, 6, 7] (z_runV (nA := 1) hC hN (c_X2_height l D g m b th hr tm en (ssLo S + wshL (ssS S) (ssF S) (wet (ssS S) L) L c) (ssSl S) (ssFa S) (wsh (ssS S) (ssF S) (wet (ssS S) L) L c) (wshF (ssF S) (wet (ssS S) L) c) (wet (ssS S) L) (kOf (ssO S) (ssP S)) (tbl tm bu sr lg (ssT S)) td u_2 c (by omega)) [0, 1, 2, 3, 4, 5, 6, 7] rfl (by decide) gX2_hourOn_X2_height (by decide +kernel) rfl rfl rfl ⟨by decide, by decide⟩ rfl rfl (nle rfl) dX2_hourOn_83 ⟨by decide, by decide⟩ 0 rfl rfl) rfl rfl (by decide) (by decide) (fun _ => rfl) (by decide) rfl (k2 := 0) (n2 := 0) rfl rfl (fun z_21 _ p_22 => ?_)
                subst p_22
                have y_20 := hg_bd hv (c := c) (by omega)
                refine z_isub 87 hC dX2_hourOn_86 rfl ?_
                refine z_iconst 88 hC dX2_hourOn_87 rfl ?_
                refine z_idiv 89 hC dX2_hourOn_88 rfl (by omega) (by omega) ?_
                refine z_iadd 90 hC dX2_hourOn_89 rfl ?_
                refine z_aloadn 91 hC 0 dX2_hourOn_90 rfl rfl rfl ?_
                refine z_get 94 0 8 hC hinX2 L13 dX2_hourOn_91 rfl rfl rfl (by decide) rfl ?_
                refine z_iloadn 95 hC 2 dX2_hourOn_94 rfl rfl rfl ?_
                refine z_iald 96 2 hC dX2_hourOn_95 rfl rfl (by decide) (by omega) ?_
                have b_23 := hu c (by omega) (by omega)
                refine z_iconst 97 hC dX2_hourOn_96 rfl ?_
                refine z_idiv 98 hC dX2_hourOn_97 rfl (by omega) (by omega) ?_
                refine z_isub 99 hC dX2_hourOn_98 rfl ?_
                refine z_mmin 102 hC (by decide +kernel) (by decide +kernel) (by decide +kernel) (by decide +kernel) (by decide) (nle rfl) (by decide) (by decide) (by omega) (by omega) dX2_hourOn_99 rfl ?_
                refine z_mmax 105 hC (by decide +kernel) (by decide +kernel) (by decide +kernel) (by decide +kernel) (by decide) (nle rfl) (by decide) (by decide) (by omega) (by omega) dX2_hourOn_102 rfl ?_
                refine z_istoren (lv' := [(3, .int (iI (max 0 (min ((wsh (ssS S) (ssF S) (wet (ssS S) L) L c) c) ((1 + ((L - (hg (wsh (ssS S) (ssF S) (wet (ssS S) L) L c) c)) / 3)) - (((wshF (ssF S) (wet (ssS S) L) c) c) / 2)))))), (0, .ref m), (1, .int (iI L)), (2, .int (iI c))]) 106 hC dX2_hourOn_105 rfl rfl (by decide) rfl ?_
                refine z_aloadn 107 hC 1 dX2_hourOn_106 rfl rfl rfl ?_
                refine z_get 110 0 7 hC hinX2 L9 dX2_hourOn_107 rfl rfl rfl (by decide) rfl ?_
                refine z_iloadn 111 hC 3 dX2_hourOn_110 rfl rfl rfl ?_
                refine z_dup2 112 hC dX2_hourOn_111 rfl rfl rfl ?_
                refine z_iald 113 1 hC dX2_hourOn_112 rfl rfl (by decide) (by omega) ?_
                have b_24 := hv c (by omega) (by omega)
                refine z_iloadn 114 hC 0 dX2_hourOn_113 rfl rfl rfl ?_
                refine z_isub 115 hC dX2_hourOn_114 rfl ?_
                refine z_iast (ws' := wMo g m b th hr tm en (ssLo S + wshL (ssS S) (ssF S) (wet (ssS S) L) L c) (ssSl S) (ssFa S) (up (wsh (ssS S) (ssF S) (wet (ssS S) L) L c) c (((wsh (ssS S) (ssF S) (wet (ssS S) L) L c) c) - (max 0 (min ((wsh (ssS S) (ssF S) (wet (ssS S) L) L c) c) ((1 + ((L - (hg (wsh (ssS S) (ssF S) (wet (ssS S) L) L c) c)) / 3)) - (((wshF (ssF S) (wet (ssS S) L) c) c) / 2)))))) (wshF (ssF S) (wet (ssS S) L) c) (wet (ssS S) L) (kOf (ssO S) (ssP S)) (tbl tm bu sr lg (ssT S)) td u_2) 116 1 hC dX2_hourOn_115 rfl rfl (by decide) (by omega) rfl ?_
                refine z_aloadn 117 hC 1 dX2_hourOn_116 rfl rfl rfl ?_
                refine z_dup 118 hC dX2_hourOn_117 rfl rfl ?_
                refine z_get 121 0 4 hC hinX2 L95 dX2_hourOn_118 rfl rfl rfl (by decide) rfl ?_
                refine z_iloadn 122 hC 0 dX2_hourOn_121 rfl rfl rfl ?_
                refine z_iadd 123 hC dX2_hourOn_122 rfl ?_
                refine z_put (ty := .int) (ws' := wMo g m b th hr tm en ((ssLo S + wshL (ssS S) (ssF S) (wet (ssS S) L) L c) + (max 0 (min ((wsh (ssS S) (ssF S) (wet (ssS S) L) L c) c) ((1 + ((L - (hg (wsh (ssS S) (ssF S) (wet (ssS S) L) L c) c)) / 3)) - (((wshF (ssF S) (wet (ssS S) L) c) c) / 2))))) (ssSl S) (ssFa S) (up (wsh (ssS S) (ssF S) (wet (ssS S) L) L c) c (((wsh (ssS S) (ssF S) (wet (ssS S) L) L c) c) - (max 0 (min ((wsh (ssS S) (ssF S) (wet (ssS S) L) L c) c) ((1 + ((L - (hg (wsh (ssS S) (ssF S) (wet (ssS S) L) L c) c)) / 3)) - (((wshF (ssF S) (wet (ssS S) L) c) c) / 2)))))) (wshF (ssF S) (wet (ssS S) L) c) (wet (ssS S) L) (kOf (ssO S) (ssP S)) (tbl tm bu sr lg (ssT S)) td u_2) 126 0 4 hC tyX2 tyX2_ok nmX2 hinX2 L95 dX2_hourOn_123 rfl rfl rfl (by decide) rfl (by decide +kernel) rfl rfl (nle rfl) rfl ?_
                refine z_aloadn 127 hC 1 dX2_hourOn_126 rfl rfl rfl ?_
                refine z_get 130 0 8 hC hinX2 L13 dX2_hourOn_127 rfl rfl rfl (by decide) rfl ?_
                refine z_iloadn 131 hC 3 dX2_hourOn_130 rfl rfl rfl ?_
                refine z_iconst 132 hC dX2_hourOn_131 rfl ?_
                refine z_aloadn 133 hC 1 dX2_hourOn_132 rfl rfl rfl ?_
                refine z_get 136 0 8 hC hinX2 L13 dX2_hourOn_133 rfl rfl rfl (by decide) rfl ?_
                refine z_iloadn 137 hC 3 dX2_hourOn_136 rfl rfl rfl ?_
                refine z_iald 138 2 hC dX2_hourOn_137 rfl rfl (by decide) (by omega) ?_
                have b_25 := hu c (by omega) (by omega)
                refine z_iconst 139 hC dX2_hourOn_138 rfl ?_
                refine z_isub 140 hC dX2_hourOn_139 rfl ?_
                refine z_mmax 143 hC (by decide +kernel) (by decide +kernel) (by decide +kernel) (by decide +kernel) (by decide) (nle rfl) (by decide) (by decide) (by omega) (by omega) dX2_hourOn_140 rfl ?_
                refine z_iast (ws' := wMo g m b th hr tm en ((ssLo S + wshL (ssS S) (ssF S) (wet (ssS S) L) L c) + (max 0 (min ((wsh (ssS S) (ssF S) (wet (ssS S) L) L c) c) ((1 + ((L - (hg (wsh (ssS S) (ssF S) (wet (ssS S) L) L c) c)) / 3)) - (((wshF (ssF S) (wet (ssS S) L) c) c) / 2))))) (ssSl S) (ssFa S) (up (wsh (ssS S) (ssF S) (wet (ssS S) L) L c) c (((wsh (ssS S) (ssF S) (wet (ssS S) L) L c) c) - (max 0 (min ((wsh (ssS S) (ssF S) (wet (ssS S) L) L c) c) ((1 + ((L - (hg (wsh (ssS S) (ssF S) (wet (ssS S) L) L c) c)) / 3)) - (((wshF (ssF S) (wet (ssS S) L) c) c) / 2)))))) (up (wshF (ssF S) (wet (ssS S) L) c) c (max 0 (((wshF (ssF S) (wet (ssS S) L) c) c) - 1))) (wet (ssS S) L) (kOf (ssO S) (ssP S)) (tbl tm bu sr lg (ssT S)) td u_2) 144 2 hC dX2_hourOn_143 rfl rfl (by decide) (by omega) rfl ?_
                refine z_iinc (lv' := [(2, .int (iI (c + 1))), (3, .int (iI (max 0 (min ((wsh (ssS S) (ssF S) (wet (ssS S) L) L c) c) ((1 + ((L - (hg (wsh (ssS S) (ssF S) (wet (ssS S) L) L c) c)) / 3)) - (((wshF (ssF S) (wet (ssS S) L) c) c) / 2)))))), (0, .ref m), (1, .int (iI L))]) 147 3 hC dX2_hourOn_144 rfl rfl (by decide) rfl ?_
                refine z_goto 54 hC dX2_hourOn_147 (by decide) ?_
                refine z_lv (lv' := [(0, .ref m), (1, .int (iI L)), (2, .int (iI (c + 1)))]) [2, 3, 0] rfl ?_
                refine z_weq (ws' := wMo g m b th hr tm en (ssLo S + wshL (ssS S) (ssF S) (wet (ssS S) L) L (c + 1)) (ssSl S) (ssFa S) (wsh (ssS S) (ssF S) (wet (ssS S) L) L (c + 1)) (wshF (ssF S) (wet (ssS S) L) (c + 1)) (wet (ssS S) L) (kOf (ssO S) (ssP S)) (tbl tm bu sr lg (ssT S)) td u_2) (zEq.cons (zE1.obj (zfk (zfk (zfk (zfk (zfc (by first | exact congrArg (fun x => ssLo S + x) (wshL_k (by omega) (by omega)) | (rw [Int.add_assoc]; exact congrArg (fun x => ssLo S + x) (wshL_s (by omega) (by omega) (by unfold ls; omega)))) (zfk (zfk (zfk (zfk (zfk (zfk (zfk (zfk (zfk rfl))))))))))))))) (zEq.cons (zE1.arr (by intro j h0 h1; first | exact wsh_k (by omega) j | exact wsh_s (by omega) (by unfold ls; omega) j)) (zEq.cons (zE1.arr (by intro j h0 h1; first | exact wshF_k (by omega) j | (rw [hmx]; exact wshF_s (by omega) j))) (zEq.cons zE1.rf (zEq.cons zE1.rf (zEq.cons zE1.rf (zEq.cons zE1.rf (zEq.cons zE1.rf zEq.nil)))))))) ?_
                exact ih54 (c + 1) (by omega) (by omega)
              · skip
                refine z_goto 144 hC dX2_hourOn_69 (by decide) ?_
                refine z_iinc (lv' := [(2, .int (iI (c + 1))), (0, .ref m), (1, .int (iI L))]) 147 2 hC dX2_hourOn_144 rfl rfl (by decide) rfl ?_
                refine z_goto 54 hC dX2_hourOn_147 (by decide) ?_
                refine z_lv (lv' := [(0, .ref m), (1, .int (iI L)), (2, .int (iI (c + 1)))]) [1, 2, 0] rfl ?_
                refine z_weq (ws' := wMo g m b th hr tm en (ssLo S + wshL (ssS S) (ssF S) (wet (ssS S) L) L (c + 1)) (ssSl S) (ssFa S) (wsh (ssS S) (ssF S) (wet (ssS S) L) L (c + 1)) (wshF (ssF S) (wet (ssS S) L) (c + 1)) (wet (ssS S) L) (kOf (ssO S) (ssP S)) (tbl tm bu sr lg (ssT S)) td u_2) (zEq.cons (zE1.obj (zfk (zfk (zfk (zfk (zfc (by first | exact congrArg (fun x => ssLo S + x) (wshL_k (by omega) (by omega)) | (rw [Int.add_assoc]; exact congrArg (fun x => ssLo S + x) (wshL_s (by omega) (by omega) (by unfold ls; omega)))) (zfk (zfk (zfk (zfk (zfk (zfk (zfk (zfk (zfk rfl))))))))))))))) (zEq.cons (zE1.arr (by intro j h0 h1; first | exact wsh_k (by omega) j | exact wsh_s (by omega) (by unfold ls; omega) j)) (zEq.cons (zE1.arr (by intro j h0 h1; first | exact wshF_k (by omega) j | (rw [hmx]; exact wshF_s (by omega) j))) (zEq.cons zE1.rf (zEq.cons zE1.rf (zEq.cons zE1.rf (zEq.cons zE1.rf (zEq.cons zE1.rf zEq.nil)))))))) ?_
                exact ih54 (c + 1) (by omega) (by omega)
        refine z_lv (lv' := [(0, .ref m), (1, .int (iI L)), (2, .int (iI 0))]) [1, 2, 0] rfl ?_
        refine z_weq (ws' := wMo g m b th hr tm en (ssLo S + wshL (ssS S) (ssF S) (wet (ssS S) L) L 0) (ssSl S) (ssFa S) (wsh (ssS S) (ssF S) (wet (ssS S) L) L 0) (wshF (ssF S) (wet (ssS S) L) 0) (wet (ssS S) L) (kOf (ssO S) (ssP S)) (tbl tm bu sr lg (ssT S)) td u_2) (zEq.cons (zE1.obj (zfk (zfk (zfk (zfk (zfc (by exact (Int.add_zero _).symm) (zfk (zfk (zfk (zfk (zfk (zfk (zfk (zfk (zfk rfl))))))))))))))) (zEq.cons (zE1.arr (by intro j h0 h1; exact (if_neg (fun q => by omega)).symm)) (zEq.cons (zE1.arr (by intro j h0 h1; exact (if_neg (fun q => by omega)).symm)) (zEq.cons (zE1.arr (by intro j h0 h1; exact if_pos (by omega))) (zEq.cons zE1.rf (zEq.cons zE1.rf (zEq.cons zE1.rf (zEq.cons zE1.rf zEq.nil)))))))) ?_
        exact loop54 ((120 - 0 + 1 : Int).toNat) 0 (by omega) (by omega)
      · skip
        have qo := (hov c (by omega) (by omega)).1
        refine z_aloadn 26 hC 0 dX2_hourOn_25 rfl rfl rfl ?_
        refine z_get 29 0 9 hC hinX2 L16 dX2_hourOn_26 rfl rfl rfl (by decide) rfl ?_
        refine z_iloadn 30 hC 2 dX2_hourOn_29 rfl rfl rfl ?_
        refine z_aloadn 31 hC 0 dX2_hourOn_30 rfl rfl rfl ?_
        refine z_get 34 0 13 hC hinX2 L28 dX2_hourOn_31 rfl rfl rfl (by decide) rfl ?_
        refine z_iloadn 35 hC 2 dX2_hourOn_34 rfl rfl rfl ?_
        refine z_iald 36 7 hC dX2_hourOn_35 rfl rfl (by decide) (by omega) ?_
        refine z_iloadn 37 hC 1 dX2_hourOn_36 rfl rfl rfl ?_
        refine z_icmp_ge 44 40 hC dX2_hourOn_37 (by decide) rfl (by omega) (by omega) (fun c_26 => ?_) (fun c_26 => ?_)
        · skip
          refine z_iconst 45 hC dX2_hourOn_44 rfl ?_
          refine z_iast (ws' := wMo g m b th hr tm en (ssLo S) (ssSl S) (ssFa S) (ssS S) (ssF S) (up (wtp (ssS S) (ssW S) L c) c 0) (kOf (ssO S) (ssP S)) (tbl tm bu sr lg (ssT S)) td u_2) 46 3 hC dX2_hourOn_45 rfl rfl (by decide) (by omega) rfl ?_
          refine z_iinc (lv' := [(2, .int (iI (c + 1))), (0, .ref m), (1, .int (iI L))]) 49 2 hC dX2_hourOn_46 rfl rfl (by decide) rfl ?_
          refine z_goto 19 hC dX2_hourOn_49 (by decide) ?_
          refine z_lv (lv' := [(0, .ref m), (1, .int (iI L)), (2, .int (iI (c + 1)))]) [1, 2, 0] rfl ?_
          refine z_weq (ws' := wMo g m b th hr tm en (ssLo S) (ssSl S) (ssFa S) (ssS S) (ssF S) (wtp (ssS S) (ssW S) L (c + 1)) (kOf (ssO S) (ssP S)) (tbl tm bu sr lg (ssT S)) td u_2) (zEq.cons zE1.rf (zEq.cons zE1.rf (zEq.cons zE1.rf (zEq.cons (zE1.arr (by intro j h0 h1; exact wtp_s (by rw [wet_ov hov (by omega) (by omega)]; omega) j)) (zEq.cons zE1.rf (zEq.cons zE1.rf (zEq.cons zE1.rf (zEq.cons zE1.rf zEq.nil)))))))) ?_
          exact ih19 (c + 1) (by omega) (by omega)
        · skip
          refine z_iconst 41 hC dX2_hourOn_40 rfl ?_
          refine z_goto 45 hC dX2_hourOn_41 (by decide) ?_
          refine z_iast (ws' := wMo g m b th hr tm en (ssLo S) (ssSl S) (ssFa S) (ssS S) (ssF S) (up (wtp (ssS S) (ssW S) L c) c 1) (kOf (ssO S) (ssP S)) (tbl tm bu sr lg (ssT S)) td u_2) 46 3 hC dX2_hourOn_45 rfl rfl (by decide) (by omega) rfl ?_
          refine z_iinc (lv' := [(2, .int (iI (c + 1))), (0, .ref m), (1, .int (iI L))]) 49 2 hC dX2_hourOn_46 rfl rfl (by decide) rfl ?_
          refine z_goto 19 hC dX2_hourOn_49 (by decide) ?_
          refine z_lv (lv' := [(0, .ref m), (1, .int (iI L)), (2, .int (iI (c + 1)))]) [1, 2, 0] rfl ?_
          refine z_weq (ws' := wMo g m b th hr tm en (ssLo S) (ssSl S) (ssFa S) (ssS S) (ssF S) (wtp (ssS S) (ssW S) L (c + 1)) (kOf (ssO S) (ssP S)) (tbl tm bu sr lg (ssT S)) td u_2) (zEq.cons zE1.rf (zEq.cons zE1.rf (zEq.cons zE1.rf (zEq.cons (zE1.arr (by intro j h0 h1; exact wtp_s (by rw [wet_ov hov (by omega) (by omega)]; omega) j)) (zEq.cons zE1.rf (zEq.cons zE1.rf (zEq.cons zE1.rf (zEq.cons zE1.rf zEq.nil)))))))) ?_
          exact ih19 (c + 1) (by omega) (by omega)
  refine z_lv (lv' := [(0, .ref m), (1, .int (iI L)), (2, .int (iI 0))]) [2, 1, 0] rfl ?_
  refine z_weq (ws' := wMo g m b th hr tm en (ssLo S) (ssSl S) (ssFa S) (ssS S) (ssF S) (wtp (ssS S) (ssW S) L 0) (kOf (ssO S) (ssP S)) (tbl tm bu sr lg (ssT S)) td u_2) (zEq.cons zE1.rf (zEq.cons zE1.rf (zEq.cons zE1.rf (zEq.cons (zE1.arr (by intro j h0 h1; exact (if_neg (by omega)).symm)) (zEq.cons zE1.rf (zEq.cons zE1.rf (zEq.cons zE1.rf (zEq.cons zE1.rf zEq.nil)))))))) ?_
  exact loop19 ((120 - 0 + 1 : Int).toNat) 0 (by omega) (by omega)
