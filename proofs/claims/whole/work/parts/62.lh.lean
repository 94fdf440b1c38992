abbrev lo1 (g : Nat → ClassId) (f : Nat → Int64) : va_E := .inl (g 1, 1, .inr (.inl f))
set_option maxHeartbeats 4000000 in
set_option maxRecDepth 100000 in
theorem h_addTeam (l : Launch) (hlf : l.stackTraces = false) (D : va_G) (g : Nat → ClassId) (x : Nat) (b : Nat → Nat) (h h2 : Nat) (a a2 : Nat → Nat) (td bu sr lg : Int → Int) (tm hr en : Int) (S T : SS)  (hI : LI td bu sr lg tm hr S)  (o : Nat) (f : Nat → Int64) : ZHi (S := Option (Unit × Int)) l yL_addTeam wsL_addTeam ({ frames := 7, cells := 1, slots := 6, locals := 111 }) D g [.ref x, .ref o] (((wLe g x b h h2 td bu sr lg tm hr en) ++ ((wSh g h a (ssS S) (ssF S) (ssW S) (ssO S) (ssP S) (ssT S) (ssLo S) (ssSl S) (ssFa S)) ++ ((wSh g h2 a2 (ssS T) (ssF T) (ssW T) (ssO T) (ssP T) (ssT T) (ssLo T) (ssSl T) (ssFa T))))) ++ [(o, lo1 g f)]) (fun k9 u9 => match u9 with | none => k9 = 1 ∧ 4 ≤ tm | some q => k9 = 0 ∧ (fun z _ => tm < 4 ∧ z = tm) q.2 q.1) (fun u9 => zO u9 (((wLe g x b h h2 td bu sr lg tm hr en) ++ ((wSh g h a (ssS S) (ssF S) (ssW S) (ssO S) (ssP S) (ssT S) (ssLo S) (ssSl S) (ssFa S)) ++ ((wSh g h2 a2 (ssS T) (ssF T) (ssW T) (ssO T) (ssP T) (ssT T) (ssLo T) (ssSl T) (ssFa T))))) ++ [(o, lo1 g f)]) (fun q => ((wLe g x b h h2 td bu sr lg (tm + 1) hr en) ++ ((wSh g h a (ssS S) (ssF S) (ssW S) (ssO S) (ssP S) (ssT S) (ssLo S) (ssSl S) (ssFa S)) ++ ((wSh g h2 a2 (ssS T) (ssF T) (ssW T) (ssO T) (ssP T) (ssT T) (ssLo T) (ssSl T) (ssFa T))))) ++ [(o, lo1 g (vp_updL f 0 (lI q.2)))])) 1 6 := by
  refine ZHi.of (own := RL) cL_addTeam 3 [(0, .ref x), (1, .ref o)] (by decide +kernel) rfl (nle rfl) rfl rfl ?_
  intro E hC hN hX hH hret
  refine z_aloadn 1 hC 1 dL_addTeam_0 rfl rfl rfl ?_
  refine z_iconst 2 hC dL_addTeam_1 rfl ?_
  refine z_aloadn 3 hC 0 dL_addTeam_2 rfl rfl rfl ?_
  have kx : ZThr E (((wLe g x b h h2 td bu sr lg tm hr en) ++ ((wSh g h a (ssS S) (ssF S) (ssW S) (ssO S) (ssP S) (ssT S) (ssLo S) (ssSl S) (ssFa S)) ++ ((wSh g h2 a2 (ssS T) (ssF T) (ssW T) (ssO T) (ssP T) (ssT T) (ssLo T) (ssSl T) (ssFa T))))) ++ [(o, lo1 g f)]) [(0, .ref x), (1, .ref o)] 1 6 3 [.int (iI 0), .ref o] (fun Ex => Ex = zXs ∧ 4 ≤ tm) := by
    refine ZThr.by (fun Ex h => ?_)
    obtain ⟨rfl, h1⟩ := h
    · refine z_catch (Ex := zXs) hC hN hH [] (0, 8, 11, 13) [] rfl (fun _ h => absurd h List.not_mem_nil) (by decide) (by decide) (by decide +kernel) (by decide +kernel) (fun q9 => ?_)
      refine z_astoren (lv' := [(2, .ref q9), (0, .ref x), (1, .ref o)]) 12 hC dL_addTeam_11 rfl rfl (by decide) rfl ?_
      refine z_iconst 13 hC dL_addTeam_12 rfl ?_
      exact hret none dL_addTeam_13 ⟨rfl, h1⟩
  refine z_callXi (wr := [(o, lo1 g f)]) (w2 := fun _ => ((wLe g x b h h2 td bu sr lg (tm + 1) hr en) ++ ((wSh g h a (ssS S) (ssF S) (ssW S) (ssO S) (ssP S) (ssT S) (ssLo S) (ssSl S) (ssFa S)) ++ ((wSh g h2 a2 (ssS T) (ssF T) (ssW T) (ssO T) (ssP T) (ssT T) (ssLo T) (ssSl T) (ssFa T))))) ++ [(o, lo1 g f)]) 6 hC [0, 1, 2, 3, 4, 5, 6, 7, 8, 9, 10, 11, 12, 13, 14, 15, 16, 17, 18] [19] [1, 2, 3, 4, 5, 6, 7, 8, 9, 10, 11, 12, 13, 14, 15, 16, 17, 18, 19, 0] [1, 2, 3, 4, 5, 6, 7, 8, 9, 10, 11, 12, 13, 14, 15, 16, 17, 18, 19, 0] (z_runXV (nA := 0) hC hN hX (c_X1_addTeam l hlf D g x b h h2 a a2 td bu sr lg tm hr en S T hI) [0, 1, 2, 3, 4, 5, 6, 7, 8, 9, 10, 11, 12, 13, 14, 15, 16, 17, 18] rfl (by decide) gL_addTeam_X1_addTeam (by decide +kernel) rfl rfl rfl ⟨by decide, by decide⟩ rfl rfl (nle rfl) dL_addTeam_3 ⟨by decide, by decide⟩ 0 rfl rfl) rfl rfl (by decide) (by decide) rfl (by decide) (fun _ => rfl) (by decide) rfl (k2 := 1) (n2 := 6) rfl rfl kx (fun z u hz => ?_)
  refine z_i2l 7 hC dL_addTeam_6 rfl ?_
  refine z_last (ws' := ((wLe g x b h h2 td bu sr lg (tm + 1) hr en) ++ ((wSh g h a (ssS S) (ssF S) (ssW S) (ssO S) (ssP S) (ssT S) (ssLo S) (ssSl S) (ssFa S)) ++ ((wSh g h2 a2 (ssS T) (ssF T) (ssW T) (ssO T) (ssP T) (ssT T) (ssLo T) (ssSl T) (ssFa T))))) ++ [(o, lo1 g (vp_updL f 0 (lI z)))]) 8 19 hC dL_addTeam_7 rfl rfl (by decide) (by decide) rfl ?_
  refine z_goto 14 hC dL_addTeam_8 (by decide) ?_
  refine z_iconst 15 hC dL_addTeam_14 rfl ?_
  exact hret (some (u, z)) dL_addTeam_15 ⟨rfl, hz⟩
set_option maxHeartbeats 4000000 in
set_option maxRecDepth 100000 in
theorem h_setTide (l : Launch) (hlf : l.stackTraces = false) (D : va_G) (g : Nat → ClassId) (x : Nat) (b : Nat → Nat) (h h2 : Nat) (a a2 : Nat → Nat) (td bu sr lg : Int → Int) (tm hr en : Int) (S T : SS) (v : Int) (L : Int) (hI : LI td bu sr lg tm hr S) (hv : -2147483648 ≤ v ∧ v ≤ 2147483647) (hL : -2147483648 ≤ L ∧ L ≤ 2147483647) (o : Nat) (f : Nat → Int64) : ZHi (S := Option (Unit × Int)) l yL_setTide wsL_setTide ({ frames := 8, cells := 2, slots := 12, locals := 144 }) D g [.ref x, .int (iI v), .int (iI L), .ref o] (((wLe g x b h h2 td bu sr lg tm hr en) ++ ((wSh g h a (ssS S) (ssF S) (ssW S) (ssO S) (ssP S) (ssT S) (ssLo S) (ssSl S) (ssFa S)) ++ ((wSh g h2 a2 (ssS T) (ssF T) (ssW T) (ssO T) (ssP T) (ssT T) (ssLo T) (ssSl T) (ssFa T))))) ++ [(o, lo1 g f)]) (fun k9 u9 => match u9 with | none => k9 = ((if ¬ (0 ≤ v ∧ v < 12) then 1 else if ¬ (0 ≤ L ∧ L ≤ 30) then 2 else 0 : Int)) ∧ ((if ¬ (0 ≤ v ∧ v < 12) then 1 else if ¬ (0 ≤ L ∧ L ≤ 30) then 2 else 0 : Int)) ≠ 0 | some q => k9 = 0 ∧ (fun z _ => ((if ¬ (0 ≤ v ∧ v < 12) then 1 else if ¬ (0 ≤ L ∧ L ≤ 30) then 2 else 0 : Int)) = 0 ∧ z = td v) q.2 q.1) (fun u9 => zO u9 (((wLe g x b h h2 td bu sr lg tm hr en) ++ ((wSh g h a (ssS S) (ssF S) (ssW S) (ssO S) (ssP S) (ssT S) (ssLo S) (ssSl S) (ssFa S)) ++ ((wSh g h2 a2 (ssS T) (ssF T) (ssW T) (ssO T) (ssP T) (ssT T) (ssLo T) (ssSl T) (ssFa T))))) ++ [(o, lo1 g f)]) (fun q => ((wLe g x b h h2 (up td v L) bu sr lg tm hr en) ++ ((wSh g h a (ssS S) (ssF S) (ssW S) (ssO S) (ssP S) (ssT S) (ssLo S) (ssSl S) (ssFa S)) ++ ((wSh g h2 a2 (ssS T) (ssF T) (ssW T) (ssO T) (ssP T) (ssT T) (ssLo T) (ssSl T) (ssFa T))))) ++ [(o, lo1 g (vp_updL f 0 (lI q.2)))])) 2 12 := by
  refine ZHi.of (own := RL) cL_setTide 5 [(0, .ref x), (1, .int (iI v)), (2, .int (iI L)), (3, .ref o)] (by decide +kernel) rfl (nle rfl) rfl rfl ?_
  intro E hC hN hX hH hret
  refine z_aloadn 1 hC 3 dL_setTide_0 rfl rfl rfl ?_
  refine z_iconst 2 hC dL_setTide_1 rfl ?_
  refine z_aloadn 3 hC 0 dL_setTide_2 rfl rfl rfl ?_
  refine z_iloadn 4 hC 1 dL_setTide_3 rfl rfl rfl ?_
  refine z_iloadn 5 hC 2 dL_setTide_4 rfl rfl rfl ?_
  have kx : ZThr E (((wLe g x b h h2 td bu sr lg tm hr en) ++ ((wSh g h a (ssS S) (ssF S) (ssW S) (ssO S) (ssP S) (ssT S) (ssLo S) (ssSl S) (ssFa S)) ++ ((wSh g h2 a2 (ssS T) (ssF T) (ssW T) (ssO T) (ssP T) (ssT T) (ssLo T) (ssSl T) (ssFa T))))) ++ [(o, lo1 g f)]) [(0, .ref x), (1, .int (iI v)), (2, .int (iI L)), (3, .ref o)] 2 12 5 [.int (iI 0), .ref o] (fun Ex => xIAS (if ¬ (0 ≤ v ∧ v < 12) then 1 else if ¬ (0 ≤ L ∧ L ≤ 30) then 2 else 0 : Int) Ex) := by
    refine ZThr.by (fun Ex h => ?_)
    obtain ⟨h1, rfl⟩ | ⟨h1, rfl⟩ | ⟨h1, rfl⟩ := h
    · refine z_catch (Ex := zXi) hC hN hH [] (0, 10, 13, 19) [(0, 10, 17, 21)] rfl (fun _ h => absurd h List.not_mem_nil) (by decide) (by decide) (by decide +kernel) (by decide +kernel) (fun q9 => ?_)
      refine z_astore (lv' := [(4, .ref q9), (0, .ref x), (1, .int (iI v)), (2, .int (iI L)), (3, .ref o)]) 15 hC dL_setTide_13 rfl (by decide) rfl ?_
      refine z_iconst 16 hC dL_setTide_15 rfl ?_
      exact hret none dL_setTide_16 ⟨h1.symm, fun h9 => absurd (h1.symm.trans h9) (by decide)⟩
    · refine z_catch (Ex := zXa) hC hN hH [(0, 10, 13, 19)] (0, 10, 17, 21) [] rfl (List.forall_mem_cons.mpr ⟨⟨by decide, zXi, by decide +kernel, by decide +kernel⟩, fun _ h => absurd h List.not_mem_nil⟩) (by decide) (by decide) (by decide +kernel) (by decide +kernel) (fun q9 => ?_)
      refine z_astore (lv' := [(4, .ref q9), (0, .ref x), (1, .int (iI v)), (2, .int (iI L)), (3, .ref o)]) 19 hC dL_setTide_17 rfl (by decide) rfl ?_
      refine z_iconst 20 hC dL_setTide_19 rfl ?_
      exact hret none dL_setTide_20 ⟨h1.symm, fun h9 => absurd (h1.symm.trans h9) (by decide)⟩
    · exfalso; first | omega | (split at h1 <;> omega)
  refine z_callXi (wr := [(o, lo1 g f)]) (w2 := fun _ => ((wLe g x b h h2 (up td v L) bu sr lg tm hr en) ++ ((wSh g h a (ssS S) (ssF S) (ssW S) (ssO S) (ssP S) (ssT S) (ssLo S) (ssSl S) (ssFa S)) ++ ((wSh g h2 a2 (ssS T) (ssF T) (ssW T) (ssO T) (ssP T) (ssT T) (ssLo T) (ssSl T) (ssFa T))))) ++ [(o, lo1 g f)]) 8 hC [0, 1, 2, 3, 4, 5, 6, 7, 8, 9, 10, 11, 12, 13, 14, 15, 16, 17, 18] [19] [1, 2, 3, 4, 5, 6, 7, 8, 9, 10, 11, 12, 13, 14, 15, 16, 17, 18, 19, 0] [1, 2, 3, 4, 5, 6, 7, 8, 9, 10, 11, 12, 13, 14, 15, 16, 17, 18, 19, 0] (z_runXV (nA := 2) hC hN hX (c_X1_setTide l hlf D g x b h h2 a a2 td bu sr lg tm hr en S T v L hI hv hL) [0, 1, 2, 3, 4, 5, 6, 7, 8, 9, 10, 11, 12, 13, 14, 15, 16, 17, 18] rfl (by decide) gL_setTide_X1_setTide (by decide +kernel) rfl rfl rfl ⟨by decide, by decide⟩ rfl rfl (nle rfl) dL_setTide_5 ⟨by decide, by decide⟩ 0 rfl rfl) rfl rfl (by decide) (by decide) rfl (by decide) (fun _ => rfl) (by decide) rfl (k2 := 2) (n2 := 12) rfl rfl kx (fun z u hz => ?_)
  refine z_i2l 9 hC dL_setTide_8 rfl ?_
  refine z_last (ws' := ((wLe g x b h h2 (up td v L) bu sr lg tm hr en) ++ ((wSh g h a (ssS S) (ssF S) (ssW S) (ssO S) (ssP S) (ssT S) (ssLo S) (ssSl S) (ssFa S)) ++ ((wSh g h2 a2 (ssS T) (ssF T) (ssW T) (ssO T) (ssP T) (ssT T) (ssLo T) (ssSl T) (ssFa T))))) ++ [(o, lo1 g (vp_updL f 0 (lI z)))]) 10 19 hC dL_setTide_9 rfl rfl (by decide) (by decide) rfl ?_
  refine z_goto 21 hC dL_setTide_10 (by decide) ?_
  refine z_iconst 22 hC dL_setTide_21 rfl ?_
  exact hret (some (u, z)) dL_setTide_22 ⟨rfl, hz⟩
set_option maxHeartbeats 4000000 in
set_option maxRecDepth 100000 in
theorem h_dig (l : Launch) (hlf : l.stackTraces = false) (D : va_G) (g : Nat → ClassId) (x : Nat) (b : Nat → Nat) (h h2 : Nat) (a a2 : Nat → Nat) (td bu sr lg : Int → Int) (tm hr en : Int) (S T : SS) (k : Int) (cx : Int) (cy : Int) (n : Int) (hI : LI td bu sr lg tm hr S) (hk : -2147483648 ≤ k ∧ k ≤ 2147483647) (hcx : -2147483648 ≤ cx ∧ cx ≤ 2147483647) (hcy : -2147483648 ≤ cy ∧ cy ≤ 2147483647) (hn : -2147483648 ≤ n ∧ n ≤ 2147483647) (o : Nat) (f : Nat → Int64) : ZHi (S := Option (Unit × Int)) l yL_dig wsL_dig ({ frames := 8, cells := 4, slots := 24, locals := 176 }) D g [.ref x, .int (iI k), .int (iI cx), .int (iI cy), .int (iI n), .ref o] (((wLe g x b h h2 td bu sr lg tm hr en) ++ ((wSh g h a (ssS S) (ssF S) (ssW S) (ssO S) (ssP S) (ssT S) (ssLo S) (ssSl S) (ssFa S)) ++ ((wSh g h2 a2 (ssS T) (ssF T) (ssW T) (ssO T) (ssP T) (ssT T) (ssLo T) (ssSl T) (ssFa T))))) ++ [(o, lo1 g f)]) (fun k9 u9 => match u9 with | none => k9 = ((thrD tm sr k cx cy n)) ∧ ((thrD tm sr k cx cy n)) ≠ 0 | some q => k9 = 0 ∧ (fun z _ => thrD tm sr k cx cy n = 0 ∧ z = min (min n (40 - bu k)) (ssS S (cx + 12 * cy))) q.2 q.1) (fun u9 => zO u9 (((wLe g x b h h2 td bu sr lg tm hr en) ++ ((wSh g h a (ssS S) (ssF S) (ssW S) (ssO S) (ssP S) (ssT S) (ssLo S) (ssSl S) (ssFa S)) ++ ((wSh g h2 a2 (ssS T) (ssF T) (ssW T) (ssO T) (ssP T) (ssT T) (ssLo T) (ssSl T) (ssFa T))))) ++ [(o, lo1 g f)]) (fun q => ((wLe g x b h h2 td (up bu k (bu k + (min (min n (40 - bu k)) (ssS S (cx + 12 * cy))))) (up sr k (sr k - 1)) lg tm hr en) ++ ((wSh g h a (up (ssS S) (cx + 12 * cy) (ssS S (cx + 12 * cy) - (min (min n (40 - bu k)) (ssS S (cx + 12 * cy))))) (up (ssF S) (cx + 12 * cy) 0) (ssW S) (ssO S) (ssP S) (ssT S) (ssLo S) (ssSl S) (ssFa S)) ++ ((wSh g h2 a2 (ssS T) (ssF T) (ssW T) (ssO T) (ssP T) (ssT T) (ssLo T) (ssSl T) (ssFa T))))) ++ [(o, lo1 g (vp_updL f 0 (lI q.2)))])) 4 24 := by
  refine ZHi.of (own := RL) cL_dig 7 [(0, .ref x), (1, .int (iI k)), (2, .int (iI cx)), (3, .int (iI cy)), (4, .int (iI n)), (5, .ref o)] (by decide +kernel) rfl (nle rfl) rfl rfl ?_
  intro E hC hN hX hH hret
  refine z_aload 2 hC 5 dL_dig_0 rfl rfl ?_
  refine z_iconst 3 hC dL_dig_2 rfl ?_
  refine z_aloadn 4 hC 0 dL_dig_3 rfl rfl rfl ?_
  refine z_iloadn 5 hC 1 dL_dig_4 rfl rfl rfl ?_
  refine z_iloadn 6 hC 2 dL_dig_5 rfl rfl rfl ?_
  refine z_iloadn 7 hC 3 dL_dig_6 rfl rfl rfl ?_
  refine z_iload 9 hC 4 dL_dig_7 rfl rfl ?_
  have kx : ZThr E (((wLe g x b h h2 td bu sr lg tm hr en) ++ ((wSh g h a (ssS S) (ssF S) (ssW S) (ssO S) (ssP S) (ssT S) (ssLo S) (ssSl S) (ssFa S)) ++ ((wSh g h2 a2 (ssS T) (ssF T) (ssW T) (ssO T) (ssP T) (ssT T) (ssLo T) (ssSl T) (ssFa T))))) ++ [(o, lo1 g f)]) [(0, .ref x), (1, .int (iI k)), (2, .int (iI cx)), (3, .int (iI cy)), (4, .int (iI n)), (5, .ref o)] 4 24 9 [.int (iI 0), .ref o] (fun Ex => xIAS (thrD tm sr k cx cy n) Ex) := by
    refine ZThr.by (fun Ex h => ?_)
    obtain ⟨h1, rfl⟩ | ⟨h1, rfl⟩ | ⟨h1, rfl⟩ := h
    · refine z_catch (Ex := zXi) hC hN hH [] (0, 14, 17, 19) [(0, 14, 21, 21), (0, 14, 25, 13)] rfl (fun _ h => absurd h List.not_mem_nil) (by decide) (by decide) (by decide +kernel) (by decide +kernel) (fun q9 => ?_)
      refine z_astore (lv' := [(6, .ref q9), (0, .ref x), (1, .int (iI k)), (2, .int (iI cx)), (3, .int (iI cy)), (4, .int (iI n)), (5, .ref o)]) 19 hC dL_dig_17 rfl (by decide) rfl ?_
      refine z_iconst 20 hC dL_dig_19 rfl ?_
      exact hret none dL_dig_20 ⟨h1.symm, fun h9 => absurd (h1.symm.trans h9) (by decide)⟩
    · refine z_catch (Ex := zXa) hC hN hH [(0, 14, 17, 19)] (0, 14, 21, 21) [(0, 14, 25, 13)] rfl (List.forall_mem_cons.mpr ⟨⟨by decide, zXi, by decide +kernel, by decide +kernel⟩, fun _ h => absurd h List.not_mem_nil⟩) (by decide) (by decide) (by decide +kernel) (by decide +kernel) (fun q9 => ?_)
      refine z_astore (lv' := [(6, .ref q9), (0, .ref x), (1, .int (iI k)), (2, .int (iI cx)), (3, .int (iI cy)), (4, .int (iI n)), (5, .ref o)]) 23 hC dL_dig_21 rfl (by decide) rfl ?_
      refine z_iconst 24 hC dL_dig_23 rfl ?_
      exact hret none dL_dig_24 ⟨h1.symm, fun h9 => absurd (h1.symm.trans h9) (by decide)⟩
    · refine z_catch (Ex := zXs) hC hN hH [(0, 14, 17, 19), (0, 14, 21, 21)] (0, 14, 25, 13) [] rfl (List.forall_mem_cons.mpr ⟨⟨by decide, zXi, by decide +kernel, by decide +kernel⟩, List.forall_mem_cons.mpr ⟨⟨by decide, zXa, by decide +kernel, by decide +kernel⟩, fun _ h => absurd h List.not_mem_nil⟩⟩) (by decide) (by decide) (by decide +kernel) (by decide +kernel) (fun q9 => ?_)
      refine z_astore (lv' := [(6, .ref q9), (0, .ref x), (1, .int (iI k)), (2, .int (iI cx)), (3, .int (iI cy)), (4, .int (iI n)), (5, .ref o)]) 27 hC dL_dig_25 rfl (by decide) rfl ?_
      refine z_iconst 28 hC dL_dig_27 rfl ?_
      exact hret none dL_dig_28 ⟨h1.symm, fun h9 => absurd (h1.symm.trans h9) (by decide)⟩
  refine z_callXi (wr := [(o, lo1 g f)]) (w2 := fun _ => ((wLe g x b h h2 td (up bu k (bu k + (min (min n (40 - bu k)) (ssS S (cx + 12 * cy))))) (up sr k (sr k - 1)) lg tm hr en) ++ ((wSh g h a (up (ssS S) (cx + 12 * cy) (ssS S (cx + 12 * cy) - (min (min n (40 - bu k)) (ssS S (cx + 12 * cy))))) (up (ssF S) (cx + 12 * cy) 0) (ssW S) (ssO S) (ssP S) (ssT S) (ssLo S) (ssSl S) (ssFa S)) ++ ((wSh g h2 a2 (ssS T) (ssF T) (ssW T) (ssO T) (ssP T) (ssT T) (ssLo T) (ssSl T) (ssFa T))))) ++ [(o, lo1 g f)]) 12 hC [0, 1, 2, 3, 4, 5, 6, 7, 8, 9, 10, 11, 12, 13, 14, 15, 16, 17, 18] [19] [1, 2, 3, 4, 5, 6, 7, 8, 9, 10, 11, 12, 13, 14, 15, 16, 17, 18, 19, 0] [1, 2, 3, 4, 5, 6, 7, 8, 9, 10, 11, 12, 13, 14, 15, 16, 17, 18, 19, 0] (z_runXV (nA := 4) hC hN hX (c_X1_dig l hlf D g x b h h2 a a2 td bu sr lg tm hr en S T k cx cy n hI hk hcx hcy hn) [0, 1, 2, 3, 4, 5, 6, 7, 8, 9, 10, 11, 12, 13, 14, 15, 16, 17, 18] rfl (by decide) gL_dig_X1_dig (by decide +kernel) rfl rfl rfl ⟨by decide, by decide⟩ rfl rfl (nle rfl) dL_dig_9 ⟨by decide, by decide⟩ 0 rfl rfl) rfl rfl (by decide) (by decide) rfl (by decide) (fun _ => rfl) (by decide) rfl (k2 := 4) (n2 := 24) rfl rfl kx (fun z u hz => ?_)
  refine z_i2l 13 hC dL_dig_12 rfl ?_
  refine z_last (ws' := ((wLe g x b h h2 td (up bu k (bu k + (min (min n (40 - bu k)) (ssS S (cx + 12 * cy))))) (up sr k (sr k - 1)) lg tm hr en) ++ ((wSh g h a (up (ssS S) (cx + 12 * cy) (ssS S (cx + 12 * cy) - (min (min n (40 - bu k)) (ssS S (cx + 12 * cy))))) (up (ssF S) (cx + 12 * cy) 0) (ssW S) (ssO S) (ssP S) (ssT S) (ssLo S) (ssSl S) (ssFa S)) ++ ((wSh g h2 a2 (ssS T) (ssF T) (ssW T) (ssO T) (ssP T) (ssT T) (ssLo T) (ssSl T) (ssFa T))))) ++ [(o, lo1 g (vp_updL f 0 (lI z)))]) 14 19 hC dL_dig_13 rfl rfl (by decide) (by decide) rfl ?_
  refine z_goto 29 hC dL_dig_14 (by decide) ?_
  refine z_iconst 30 hC dL_dig_29 rfl ?_
  exact hret (some (u, z)) dL_dig_30 ⟨rfl, hz⟩
set_option maxHeartbeats 4000000 in
set_option maxRecDepth 100000 in
theorem h_pile (l : Launch) (hlf : l.stackTraces = false) (D : va_G) (g : Nat → ClassId) (x : Nat) (b : Nat → Nat) (h h2 : Nat) (a a2 : Nat → Nat) (td bu sr lg : Int → Int) (tm hr en : Int) (S T : SS) (k : Int) (cx : Int) (cy : Int) (n : Int) (hI : LI td bu sr lg tm hr S) (hk : -2147483648 ≤ k ∧ k ≤ 2147483647) (hcx : -2147483648 ≤ cx ∧ cx ≤ 2147483647) (hcy : -2147483648 ≤ cy ∧ cy ≤ 2147483647) (hn : -2147483648 ≤ n ∧ n ≤ 2147483647) (o : Nat) (f : Nat → Int64) : ZHi (S := Option (Unit × Int)) l yL_pile wsL_pile ({ frames := 8, cells := 4, slots := 24, locals := 176 }) D g [.ref x, .int (iI k), .int (iI cx), .int (iI cy), .int (iI n), .ref o] (((wLe g x b h h2 td bu sr lg tm hr en) ++ ((wSh g h a (ssS S) (ssF S) (ssW S) (ssO S) (ssP S) (ssT S) (ssLo S) (ssSl S) (ssFa S)) ++ ((wSh g h2 a2 (ssS T) (ssF T) (ssW T) (ssO T) (ssP T) (ssT T) (ssLo T) (ssSl T) (ssFa T))))) ++ [(o, lo1 g f)]) (fun k9 u9 => match u9 with | none => k9 = ((thrD tm sr k cx cy n)) ∧ ((thrD tm sr k cx cy n)) ≠ 0 | some q => k9 = 0 ∧ (fun z _ => thrD tm sr k cx cy n = 0 ∧ z = min (min n (bu k)) (20 - ssS S (cx + 12 * cy))) q.2 q.1) (fun u9 => zO u9 (((wLe g x b h h2 td bu sr lg tm hr en) ++ ((wSh g h a (ssS S) (ssF S) (ssW S) (ssO S) (ssP S) (ssT S) (ssLo S) (ssSl S) (ssFa S)) ++ ((wSh g h2 a2 (ssS T) (ssF T) (ssW T) (ssO T) (ssP T) (ssT T) (ssLo T) (ssSl T) (ssFa T))))) ++ [(o, lo1 g f)]) (fun q => ((wLe g x b h h2 td (up bu k (bu k - (min (min n (bu k)) (20 - ssS S (cx + 12 * cy))))) (up sr k (sr k - 1)) lg tm hr en) ++ ((wSh g h a (up (ssS S) (cx + 12 * cy) (ssS S (cx + 12 * cy) + (min (min n (bu k)) (20 - ssS S (cx + 12 * cy))))) (if 0 < (min (min n (bu k)) (20 - ssS S (cx + 12 * cy))) then up (ssF S) (cx + 12 * cy) (if 0 < ssF S (cx + 12 * cy) then ssF S (cx + 12 * cy) - 1 else ssF S (cx + 12 * cy)) else ssF S) (ssW S) (ssO S) (ssP S) (ssT S) (ssLo S) (ssSl S) (ssFa S)) ++ ((wSh g h2 a2 (ssS T) (ssF T) (ssW T) (ssO T) (ssP T) (ssT T) (ssLo T) (ssSl T) (ssFa T))))) ++ [(o, lo1 g (vp_updL f 0 (lI q.2)))])) 4 24 := by
  refine ZHi.of (own := RL) cL_pile 7 [(0, .ref x), (1, .int (iI k)), (2, .int (iI cx)), (3, .int (iI cy)), (4, .int (iI n)), (5, .ref o)] (by decide +kernel) rfl (nle rfl) rfl rfl ?_
  intro E hC hN hX hH hret
  refine z_aload 2 hC 5 dL_pile_0 rfl rfl ?_
  refine z_iconst 3 hC dL_pile_2 rfl ?_
  refine z_aloadn 4 hC 0 dL_pile_3 rfl rfl rfl ?_
  refine z_iloadn 5 hC 1 dL_pile_4 rfl rfl rfl ?_
  refine z_iloadn 6 hC 2 dL_pile_5 rfl rfl rfl ?_
  refine z_iloadn 7 hC 3 dL_pile_6 rfl rfl rfl ?_
  refine z_iload 9 hC 4 dL_pile_7 rfl rfl ?_
  have kx : ZThr E (((wLe g x b h h2 td bu sr lg tm hr en) ++ ((wSh g h a (ssS S) (ssF S) (ssW S) (ssO S) (ssP S) (ssT S) (ssLo S) (ssSl S) (ssFa S)) ++ ((wSh g h2 a2 (ssS T) (ssF T) (ssW T) (ssO T) (ssP T) (ssT T) (ssLo T) (ssSl T) (ssFa T))))) ++ [(o, lo1 g f)]) [(0, .ref x), (1, .int (iI k)), (2, .int (iI cx)), (3, .int (iI cy)), (4, .int (iI n)), (5, .ref o)] 4 24 9 [.int (iI 0), .ref o] (fun Ex => xIAS (thrD tm sr k cx cy n) Ex) := by
    refine ZThr.by (fun Ex h => ?_)
    obtain ⟨h1, rfl⟩ | ⟨h1, rfl⟩ | ⟨h1, rfl⟩ := h
    · refine z_catch (Ex := zXi) hC hN hH [] (0, 14, 17, 19) [(0, 14, 21, 21), (0, 14, 25, 13)] rfl (fun _ h => absurd h List.not_mem_nil) (by decide) (by decide) (by decide +kernel) (by decide +kernel) (fun q9 => ?_)
      refine z_astore (lv' := [(6, .ref q9), (0, .ref x), (1, .int (iI k)), (2, .int (iI cx)), (3, .int (iI cy)), (4, .int (iI n)), (5, .ref o)]) 19 hC dL_pile_17 rfl (by decide) rfl ?_
      refine z_iconst 20 hC dL_pile_19 rfl ?_
      exact hret none dL_pile_20 ⟨h1.symm, fun h9 => absurd (h1.symm.trans h9) (by decide)⟩
    · refine z_catch (Ex := zXa) hC hN hH [(0, 14, 17, 19)] (0, 14, 21, 21) [(0, 14, 25, 13)] rfl (List.forall_mem_cons.mpr ⟨⟨by decide, zXi, by decide +kernel, by decide +kernel⟩, fun _ h => absurd h List.not_mem_nil⟩) (by decide) (by decide) (by decide +kernel) (by decide +kernel) (fun q9 => ?_)
      refine z_astore (lv' := [(6, .ref q9), (0, .ref x), (1, .int (iI k)), (2, .int (iI cx)), (3, .int (iI cy)), (4, .int (iI n)), (5, .ref o)]) 23 hC dL_pile_21 rfl (by decide) rfl ?_
      refine z_iconst 24 hC dL_pile_23 rfl ?_
      exact hret none dL_pile_24 ⟨h1.symm, fun h9 => absurd (h1.symm.trans h9) (by decide)⟩
    · refine z_catch (Ex := zXs) hC hN hH [(0, 14, 17, 19), (0, 14, 21, 21)] (0, 14, 25, 13) [] rfl (List.forall_mem_cons.mpr ⟨⟨by decide, zXi, by decide +kernel, by decide +kernel⟩, List.forall_mem_cons.mpr ⟨⟨by decide, zXa, by decide +kernel, by decide +kernel⟩, fun _ h => absurd h List.not_mem_nil⟩⟩) (by decide) (by decide) (by decide +kernel) (by decide +kernel) (fun q9 => ?_)
      refine z_astore (lv' := [(6, .ref q9), (0, .ref x), (1, .int (iI k)), (2, .int (iI cx)), (3, .int (iI cy)), (4, .int (iI n)), (5, .ref o)]) 27 hC dL_pile_25 rfl (by decide) rfl ?_
      refine z_iconst 28 hC dL_pile_27 rfl ?_
      exact hret none dL_pile_28 ⟨h1.symm, fun h9 => absurd (h1.symm.trans h9) (by decide)⟩
  refine z_callXi (wr := [(o, lo1 g f)]) (w2 := fun _ => ((wLe g x b h h2 td (up bu k (bu k - (min (min n (bu k)) (20 - ssS S (cx + 12 * cy))))) (up sr k (sr k - 1)) lg tm hr en) ++ ((wSh g h a (up (ssS S) (cx + 12 * cy) (ssS S (cx + 12 * cy) + (min (min n (bu k)) (20 - ssS S (cx + 12 * cy))))) (if 0 < (min (min n (bu k)) (20 - ssS S (cx + 12 * cy))) then up (ssF S) (cx + 12 * cy) (if 0 < ssF S (cx + 12 * cy) then ssF S (cx + 12 * cy) - 1 else ssF S (cx + 12 * cy)) else ssF S) (ssW S) (ssO S) (ssP S) (ssT S) (ssLo S) (ssSl S) (ssFa S)) ++ ((wSh g h2 a2 (ssS T) (ssF T) (ssW T) (ssO T) (ssP T) (ssT T) (ssLo T) (ssSl T) (ssFa T))))) ++ [(o, lo1 g f)]) 12 hC [0, 1, 2, 3, 4, 5, 6, 7, 8, 9, 10, 11, 12, 13, 14, 15, 16, 17, 18] [19] [1, 2, 3, 4, 5, 6, 7, 8, 9, 10, 11, 12, 13, 14, 15, 16, 17, 18, 19, 0] [1, 2, 3, 4, 5, 6, 7, 8, 9, 10, 11, 12, 13, 14, 15, 16, 17, 18, 19, 0] (z_runXV (nA := 4) hC hN hX (c_X1_pile l hlf D g x b h h2 a a2 td bu sr lg tm hr en S T k cx cy n hI hk hcx hcy hn) [0, 1, 2, 3, 4, 5, 6, 7, 8, 9, 10, 11, 12, 13, 14, 15, 16, 17, 18] rfl (by decide) gL_pile_X1_pile (by decide +kernel) rfl rfl rfl ⟨by decide, by decide⟩ rfl rfl (nle rfl) dL_pile_9 ⟨by decide, by decide⟩ 0 rfl rfl) rfl rfl (by decide) (by decide) rfl (by decide) (fun _ => rfl) (by decide) rfl (k2 := 4) (n2 := 24) rfl rfl kx (fun z u hz => ?_)
  refine z_i2l 13 hC dL_pile_12 rfl ?_
  refine z_last (ws' := ((wLe g x b h h2 td (up bu k (bu k - (min (min n (bu k)) (20 - ssS S (cx + 12 * cy))))) (up sr k (sr k - 1)) lg tm hr en) ++ ((wSh g h a (up (ssS S) (cx + 12 * cy) (ssS S (cx + 12 * cy) + (min (min n (bu k)) (20 - ssS S (cx + 12 * cy))))) (if 0 < (min (min n (bu k)) (20 - ssS S (cx + 12 * cy))) then up (ssF S) (cx + 12 * cy) (if 0 < ssF S (cx + 12 * cy) then ssF S (cx + 12 * cy) - 1 else ssF S (cx + 12 * cy)) else ssF S) (ssW S) (ssO S) (ssP S) (ssT S) (ssLo S) (ssSl S) (ssFa S)) ++ ((wSh g h2 a2 (ssS T) (ssF T) (ssW T) (ssO T) (ssP T) (ssT T) (ssLo T) (ssSl T) (ssFa T))))) ++ [(o, lo1 g (vp_updL f 0 (lI z)))]) 14 19 hC dL_pile_13 rfl rfl (by decide) (by decide) rfl ?_
  refine z_goto 29 hC dL_pile_14 (by decide) ?_
  refine z_iconst 30 hC dL_pile_29 rfl ?_
  exact hret (some (u, z)) dL_pile_30 ⟨rfl, hz⟩
set_option maxHeartbeats 4000000 in
set_option maxRecDepth 100000 in
theorem h_pack (l : Launch) (hlf : l.stackTraces = false) (D : va_G) (g : Nat → ClassId) (x : Nat) (b : Nat → Nat) (h h2 : Nat) (a a2 : Nat → Nat) (td bu sr lg : Int → Int) (tm hr en : Int) (S T : SS) (k : Int) (cx : Int) (cy : Int) (hI : LI td bu sr lg tm hr S) (hk : -2147483648 ≤ k ∧ k ≤ 2147483647) (hcx : -2147483648 ≤ cx ∧ cx ≤ 2147483647) (hcy : -2147483648 ≤ cy ∧ cy ≤ 2147483647) (o : Nat) (f : Nat → Int64) : ZHi (S := Option (Unit × Int)) l yL_pack wsL_pack ({ frames := 8, cells := 3, slots := 18, locals := 174 }) D g [.ref x, .int (iI k), .int (iI cx), .int (iI cy), .ref o] (((wLe g x b h h2 td bu sr lg tm hr en) ++ ((wSh g h a (ssS S) (ssF S) (ssW S) (ssO S) (ssP S) (ssT S) (ssLo S) (ssSl S) (ssFa S)) ++ ((wSh g h2 a2 (ssS T) (ssF T) (ssW T) (ssO T) (ssP T) (ssT T) (ssLo T) (ssSl T) (ssFa T))))) ++ [(o, lo1 g f)]) (fun k9 u9 => match u9 with | none => k9 = ((thrD tm sr k cx cy 1)) ∧ ((thrD tm sr k cx cy 1)) ≠ 0 | some q => k9 = 0 ∧ (fun z _ => thrD tm sr k cx cy 1 = 0 ∧ z = (if 0 < ssS S (cx + 12 * cy) ∧ ssW S (cx + 12 * cy) = 0 then min 5 (ssF S (cx + 12 * cy) + 1) else ssF S (cx + 12 * cy))) q.2 q.1) (fun u9 => zO u9 (((wLe g x b h h2 td bu sr lg tm hr en) ++ ((wSh g h a (ssS S) (ssF S) (ssW S) (ssO S) (ssP S) (ssT S) (ssLo S) (ssSl S) (ssFa S)) ++ ((wSh g h2 a2 (ssS T) (ssF T) (ssW T) (ssO T) (ssP T) (ssT T) (ssLo T) (ssSl T) (ssFa T))))) ++ [(o, lo1 g f)]) (fun q => ((wLe g x b h h2 td bu (up sr k (sr k - 1)) lg tm hr en) ++ ((wSh g h a (ssS S) (up (ssF S) (cx + 12 * cy) (if 0 < ssS S (cx + 12 * cy) ∧ ssW S (cx + 12 * cy) = 0 then min 5 (ssF S (cx + 12 * cy) + 1) else ssF S (cx + 12 * cy))) (ssW S) (ssO S) (ssP S) (ssT S) (ssLo S) (ssSl S) (ssFa S)) ++ ((wSh g h2 a2 (ssS T) (ssF T) (ssW T) (ssO T) (ssP T) (ssT T) (ssLo T) (ssSl T) (ssFa T))))) ++ [(o, lo1 g (vp_updL f 0 (lI q.2)))])) 3 18 := by
  refine ZHi.of (own := RL) cL_pack 6 [(0, .ref x), (1, .int (iI k)), (2, .int (iI cx)), (3, .int (iI cy)), (4, .ref o)] (by decide +kernel) rfl (nle rfl) rfl rfl ?_
  intro E hC hN hX hH hret
  refine z_aload 2 hC 4 dL_pack_0 rfl rfl ?_
  refine z_iconst 3 hC dL_pack_2 rfl ?_
  refine z_aloadn 4 hC 0 dL_pack_3 rfl rfl rfl ?_
  refine z_iloadn 5 hC 1 dL_pack_4 rfl rfl rfl ?_
  refine z_iloadn 6 hC 2 dL_pack_5 rfl rfl rfl ?_
  refine z_iloadn 7 hC 3 dL_pack_6 rfl rfl rfl ?_
  have kx : ZThr E (((wLe g x b h h2 td bu sr lg tm hr en) ++ ((wSh g h a (ssS S) (ssF S) (ssW S) (ssO S) (ssP S) (ssT S) (ssLo S) (ssSl S) (ssFa S)) ++ ((wSh g h2 a2 (ssS T) (ssF T) (ssW T) (ssO T) (ssP T) (ssT T) (ssLo T) (ssSl T) (ssFa T))))) ++ [(o, lo1 g f)]) [(0, .ref x), (1, .int (iI k)), (2, .int (iI cx)), (3, .int (iI cy)), (4, .ref o)] 3 18 7 [.int (iI 0), .ref o] (fun Ex => xIAS (thrD tm sr k cx cy 1) Ex) := by
    refine ZThr.by (fun Ex h => ?_)
    obtain ⟨h1, rfl⟩ | ⟨h1, rfl⟩ | ⟨h1, rfl⟩ := h
    · refine z_catch (Ex := zXi) hC hN hH [] (0, 12, 15, 19) [(0, 12, 19, 21), (0, 12, 23, 13)] rfl (fun _ h => absurd h List.not_mem_nil) (by decide) (by decide) (by decide +kernel) (by decide +kernel) (fun q9 => ?_)
      refine z_astore (lv' := [(5, .ref q9), (0, .ref x), (1, .int (iI k)), (2, .int (iI cx)), (3, .int (iI cy)), (4, .ref o)]) 17 hC dL_pack_15 rfl (by decide) rfl ?_
      refine z_iconst 18 hC dL_pack_17 rfl ?_
      exact hret none dL_pack_18 ⟨h1.symm, fun h9 => absurd (h1.symm.trans h9) (by decide)⟩
    · refine z_catch (Ex := zXa) hC hN hH [(0, 12, 15, 19)] (0, 12, 19, 21) [(0, 12, 23, 13)] rfl (List.forall_mem_cons.mpr ⟨⟨by decide, zXi, by decide +kernel, by decide +kernel⟩, fun _ h => absurd h List.not_mem_nil⟩) (by decide) (by decide) (by decide +kernel) (by decide +kernel) (fun q9 => ?_)
      refine z_astore (lv' := [(5, .ref q9), (0, .ref x), (1, .int (iI k)), (2, .int (iI cx)), (3, .int (iI cy)), (4, .ref o)]) 21 hC dL_pack_19 rfl (by decide) rfl ?_
      refine z_iconst 22 hC dL_pack_21 rfl ?_
      exact hret none dL_pack_22 ⟨h1.symm, fun h9 => absurd (h1.symm.trans h9) (by decide)⟩
    · refine z_catch (Ex := zXs) hC hN hH [(0, 12, 15, 19), (0, 12, 19, 21)] (0, 12, 23, 13) [] rfl (List.forall_mem_cons.mpr ⟨⟨by decide, zXi, by decide +kernel, by decide +kernel⟩, List.forall_mem_cons.mpr ⟨⟨by decide, zXa, by decide +kernel, by decide +kernel⟩, fun _ h => absurd h List.not_mem_nil⟩⟩) (by decide) (by decide) (by decide +kernel) (by decide +kernel) (fun q9 => ?_)
      refine z_astore (lv' := [(5, .ref q9), (0, .ref x), (1, .int (iI k)), (2, .int (iI cx)), (3, .int (iI cy)), (4, .ref o)]) 25 hC dL_pack_23 rfl (by decide) rfl ?_
      refine z_iconst 26 hC dL_pack_25 rfl ?_
      exact hret none dL_pack_26 ⟨h1.symm, fun h9 => absurd (h1.symm.trans h9) (by decide)⟩
  refine z_callXi (wr := [(o, lo1 g f)]) (w2 := fun _ => ((wLe g x b h h2 td bu (up sr k (sr k - 1)) lg tm hr en) ++ ((wSh g h a (ssS S) (up (ssF S) (cx + 12 * cy) (if 0 < ssS S (cx + 12 * cy) ∧ ssW S (cx + 12 * cy) = 0 then min 5 (ssF S (cx + 12 * cy) + 1) else ssF S (cx + 12 * cy))) (ssW S) (ssO S) (ssP S) (ssT S) (ssLo S) (ssSl S) (ssFa S)) ++ ((wSh g h2 a2 (ssS T) (ssF T) (ssW T) (ssO T) (ssP T) (ssT T) (ssLo T) (ssSl T) (ssFa T))))) ++ [(o, lo1 g f)]) 10 hC [0, 1, 2, 3, 4, 5, 6, 7, 8, 9, 10, 11, 12, 13, 14, 15, 16, 17, 18] [19] [1, 2, 3, 4, 5, 6, 7, 8, 9, 10, 11, 12, 13, 14, 15, 16, 17, 18, 19, 0] [1, 2, 3, 4, 5, 6, 7, 8, 9, 10, 11, 12, 13, 14, 15, 16, 17, 18, 19, 0] (z_runXV (nA := 3) hC hN hX (c_X1_pack l hlf D g x b h h2 a a2 td bu sr lg tm hr en S T k cx cy hI hk hcx hcy) [0, 1, 2, 3, 4, 5, 6, 7, 8, 9, 10, 11, 12, 13, 14, 15, 16, 17, 18] rfl (by decide) gL_pack_X1_pack (by decide +kernel) rfl rfl rfl ⟨by decide, by decide⟩ rfl rfl (nle rfl) dL_pack_7 ⟨by decide, by decide⟩ 0 rfl rfl) rfl rfl (by decide) (by decide) rfl (by decide) (fun _ => rfl) (by decide) rfl (k2 := 3) (n2 := 18) rfl rfl kx (fun z u hz => ?_)
  refine z_i2l 11 hC dL_pack_10 rfl ?_
  refine z_last (ws' := ((wLe g x b h h2 td bu (up sr k (sr k - 1)) lg tm hr en) ++ ((wSh g h a (ssS S) (up (ssF S) (cx + 12 * cy) (if 0 < ssS S (cx + 12 * cy) ∧ ssW S (cx + 12 * cy) = 0 then min 5 (ssF S (cx + 12 * cy) + 1) else ssF S (cx + 12 * cy))) (ssW S) (ssO S) (ssP S) (ssT S) (ssLo S) (ssSl S) (ssFa S)) ++ ((wSh g h2 a2 (ssS T) (ssF T) (ssW T) (ssO T) (ssP T) (ssT T) (ssLo T) (ssSl T) (ssFa T))))) ++ [(o, lo1 g (vp_updL f 0 (lI z)))]) 12 19 hC dL_pack_11 rfl rfl (by decide) (by decide) rfl ?_
  refine z_goto 27 hC dL_pack_12 (by decide) ?_
  refine z_iconst 28 hC dL_pack_27 rfl ?_
  exact hret (some (u, z)) dL_pack_28 ⟨rfl, hz⟩
set_option maxHeartbeats 4000000 in
set_option maxRecDepth 100000 in
theorem h_plant (l : Launch) (hlf : l.stackTraces = false) (D : va_G) (g : Nat → ClassId) (x : Nat) (b : Nat → Nat) (h h2 : Nat) (a a2 : Nat → Nat) (td bu sr lg : Int → Int) (tm hr en : Int) (S T : SS) (k : Int) (cx : Int) (cy : Int) (hI : LI td bu sr lg tm hr S) (hk : -2147483648 ≤ k ∧ k ≤ 2147483647) (hcx : -2147483648 ≤ cx ∧ cx ≤ 2147483647) (hcy : -2147483648 ≤ cy ∧ cy ≤ 2147483647) (o : Nat) (f : Nat → Int64) : ZHi (S := Option (Unit × Int)) l yL_plant wsL_plant ({ frames := 8, cells := 4, slots := 24, locals := 174 }) D g [.ref x, .int (iI k), .int (iI cx), .int (iI cy), .ref o] (((wLe g x b h h2 td bu sr lg tm hr en) ++ ((wSh g h a (ssS S) (ssF S) (ssW S) (ssO S) (ssP S) (ssT S) (ssLo S) (ssSl S) (ssFa S)) ++ ((wSh g h2 a2 (ssS T) (ssF T) (ssW T) (ssO T) (ssP T) (ssT T) (ssLo T) (ssSl T) (ssFa T))))) ++ [(o, lo1 g f)]) (fun k9 u9 => match u9 with | none => k9 = ((thrP tm sr (ssO S) (ssW S) k cx cy)) ∧ ((thrP tm sr (ssO S) (ssW S) k cx cy)) ≠ 0 | some q => k9 = 0 ∧ (fun z _ => thrP tm sr (ssO S) (ssW S) k cx cy = 0 ∧ z = cntS (up (ssO S) (cx + 12 * cy) k) k) q.2 q.1) (fun u9 => zO u9 (((wLe g x b h h2 td bu sr lg tm hr en) ++ ((wSh g h a (ssS S) (ssF S) (ssW S) (ssO S) (ssP S) (ssT S) (ssLo S) (ssSl S) (ssFa S)) ++ ((wSh g h2 a2 (ssS T) (ssF T) (ssW T) (ssO T) (ssP T) (ssT T) (ssLo T) (ssSl T) (ssFa T))))) ++ [(o, lo1 g f)]) (fun q => ((wLe g x b h h2 td bu (up sr k (sr k - 1)) lg tm hr en) ++ ((wSh g h a (ssS S) (ssF S) (ssW S) (up (ssO S) (cx + 12 * cy) k) (up (ssP S) (cx + 12 * cy) (hg (ssS S) (cx + 12 * cy))) (ssT S) (ssLo S) (ssSl S) (ssFa S)) ++ ((wSh g h2 a2 (ssS T) (ssF T) (ssW T) (ssO T) (ssP T) (ssT T) (ssLo T) (ssSl T) (ssFa T))))) ++ [(o, lo1 g (vp_updL f 0 (lI q.2)))])) 4 24 := by
  refine ZHi.of (own := RL) cL_plant 6 [(0, .ref x), (1, .int (iI k)), (2, .int (iI cx)), (3, .int (iI cy)), (4, .ref o)] (by decide +kernel) rfl (nle rfl) rfl rfl ?_
  intro E hC hN hX hH hret
  refine z_aload 2 hC 4 dL_plant_0 rfl rfl ?_
  refine z_iconst 3 hC dL_plant_2 rfl ?_
  refine z_aloadn 4 hC 0 dL_plant_3 rfl rfl rfl ?_
  refine z_iloadn 5 hC 1 dL_plant_4 rfl rfl rfl ?_
  refine z_iloadn 6 hC 2 dL_plant_5 rfl rfl rfl ?_
  refine z_iloadn 7 hC 3 dL_plant_6 rfl rfl rfl ?_
  have kx : ZThr E (((wLe g x b h h2 td bu sr lg tm hr en) ++ ((wSh g h a (ssS S) (ssF S) (ssW S) (ssO S) (ssP S) (ssT S) (ssLo S) (ssSl S) (ssFa S)) ++ ((wSh g h2 a2 (ssS T) (ssF T) (ssW T) (ssO T) (ssP T) (ssT T) (ssLo T) (ssSl T) (ssFa T))))) ++ [(o, lo1 g f)]) [(0, .ref x), (1, .int (iI k)), (2, .int (iI cx)), (3, .int (iI cy)), (4, .ref o)] 4 24 7 [.int (iI 0), .ref o] (fun Ex => xIAS (thrP tm sr (ssO S) (ssW S) k cx cy) Ex) := by
    refine ZThr.by (fun Ex h => ?_)
    obtain ⟨h1, rfl⟩ | ⟨h1, rfl⟩ | ⟨h1, rfl⟩ := h
    · refine z_catch (Ex := zXi) hC hN hH [] (0, 12, 15, 19) [(0, 12, 19, 21), (0, 12, 23, 13)] rfl (fun _ h => absurd h List.not_mem_nil) (by decide) (by decide) (by decide +kernel) (by decide +kernel) (fun q9 => ?_)
      refine z_astore (lv' := [(5, .ref q9), (0, .ref x), (1, .int (iI k)), (2, .int (iI cx)), (3, .int (iI cy)), (4, .ref o)]) 17 hC dL_plant_15 rfl (by decide) rfl ?_
      refine z_iconst 18 hC dL_plant_17 rfl ?_
      exact hret none dL_plant_18 ⟨h1.symm, fun h9 => absurd (h1.symm.trans h9) (by decide)⟩
    · refine z_catch (Ex := zXa) hC hN hH [(0, 12, 15, 19)] (0, 12, 19, 21) [(0, 12, 23, 13)] rfl (List.forall_mem_cons.mpr ⟨⟨by decide, zXi, by decide +kernel, by decide +kernel⟩, fun _ h => absurd h List.not_mem_nil⟩) (by decide) (by decide) (by decide +kernel) (by decide +kernel) (fun q9 => ?_)
      refine z_astore (lv' := [(5, .ref q9), (0, .ref x), (1, .int (iI k)), (2, .int (iI cx)), (3, .int (iI cy)), (4, .ref o)]) 21 hC dL_plant_19 rfl (by decide) rfl ?_
      refine z_iconst 22 hC dL_plant_21 rfl ?_
      exact hret none dL_plant_22 ⟨h1.symm, fun h9 => absurd (h1.symm.trans h9) (by decide)⟩
    · refine z_catch (Ex := zXs) hC hN hH [(0, 12, 15, 19), (0, 12, 19, 21)] (0, 12, 23, 13) [] rfl (List.forall_mem_cons.mpr ⟨⟨by decide, zXi, by decide +kernel, by decide +kernel⟩, List.forall_mem_cons.mpr ⟨⟨by decide, zXa, by decide +kernel, by decide +kernel⟩, fun _ h => absurd h List.not_mem_nil⟩⟩) (by decide) (by decide) (by decide +kernel) (by decide +kernel) (fun q9 => ?_)
      refine z_astore (lv' := [(5, .ref q9), (0, .ref x), (1, .int (iI k)), (2, .int (iI cx)), (3, .int (iI cy)), (4, .ref o)]) 25 hC dL_plant_23 rfl (by decide) rfl ?_
      refine z_iconst 26 hC dL_plant_25 rfl ?_
      exact hret none dL_plant_26 ⟨h1.symm, fun h9 => absurd (h1.symm.trans h9) (by decide)⟩
  refine z_callXi (wr := [(o, lo1 g f)]) (w2 := fun _ => ((wLe g x b h h2 td bu (up sr k (sr k - 1)) lg tm hr en) ++ ((wSh g h a (ssS S) (ssF S) (ssW S) (up (ssO S) (cx + 12 * cy) k) (up (ssP S) (cx + 12 * cy) (hg (ssS S) (cx + 12 * cy))) (ssT S) (ssLo S) (ssSl S) (ssFa S)) ++ ((wSh g h2 a2 (ssS T) (ssF T) (ssW T) (ssO T) (ssP T) (ssT T) (ssLo T) (ssSl T) (ssFa T))))) ++ [(o, lo1 g f)]) 10 hC [0, 1, 2, 3, 4, 5, 6, 7, 8, 9, 10, 11, 12, 13, 14, 15, 16, 17, 18] [19] [1, 2, 3, 4, 5, 6, 7, 8, 9, 10, 11, 12, 13, 14, 15, 16, 17, 18, 19, 0] [1, 2, 3, 4, 5, 6, 7, 8, 9, 10, 11, 12, 13, 14, 15, 16, 17, 18, 19, 0] (z_runXV (nA := 3) hC hN hX (c_X1_plant l hlf D g x b h h2 a a2 td bu sr lg tm hr en S T k cx cy hI hk hcx hcy) [0, 1, 2, 3, 4, 5, 6, 7, 8, 9, 10, 11, 12, 13, 14, 15, 16, 17, 18] rfl (by decide) gL_plant_X1_plant (by decide +kernel) rfl rfl rfl ⟨by decide, by decide⟩ rfl rfl (nle rfl) dL_plant_7 ⟨by decide, by decide⟩ 0 rfl rfl) rfl rfl (by decide) (by decide) rfl (by decide) (fun _ => rfl) (by decide) rfl (k2 := 4) (n2 := 24) rfl rfl kx (fun z u hz => ?_)
  refine z_i2l 11 hC dL_plant_10 rfl ?_
  refine z_last (ws' := ((wLe g x b h h2 td bu (up sr k (sr k - 1)) lg tm hr en) ++ ((wSh g h a (ssS S) (ssF S) (ssW S) (up (ssO S) (cx + 12 * cy) k) (up (ssP S) (cx + 12 * cy) (hg (ssS S) (cx + 12 * cy))) (ssT S) (ssLo S) (ssSl S) (ssFa S)) ++ ((wSh g h2 a2 (ssS T) (ssF T) (ssW T) (ssO T) (ssP T) (ssT T) (ssLo T) (ssSl T) (ssFa T))))) ++ [(o, lo1 g (vp_updL f 0 (lI z)))]) 12 19 hC dL_plant_11 rfl rfl (by decide) (by decide) rfl ?_
  refine z_goto 27 hC dL_plant_12 (by decide) ?_
  refine z_iconst 28 hC dL_plant_27 rfl ?_
  exact hret (some (u, z)) dL_plant_28 ⟨rfl, hz⟩
set_option maxHeartbeats 4000000 in
set_option maxRecDepth 100000 in
theorem h_cell (l : Launch) (hlf : l.stackTraces = false) (D : va_G) (g : Nat → ClassId) (x : Nat) (b : Nat → Nat) (h h2 : Nat) (a a2 : Nat → Nat) (td bu sr lg : Int → Int) (tm hr en : Int) (S T : SS) (cx : Int) (cy : Int) (v : Int) (hI : LI td bu sr lg tm hr S) (hcx : -2147483648 ≤ cx ∧ cx ≤ 2147483647) (hcy : -2147483648 ≤ cy ∧ cy ≤ 2147483647) (hv : -2147483648 ≤ v ∧ v ≤ 2147483647) (o : Nat) (f : Nat → Int64) : ZHi (S := Option (Unit × Int)) l yL_cell wsL_cell ({ frames := 8, cells := 2, slots := 12, locals := 154 }) D g [.ref x, .int (iI cx), .int (iI cy), .int (iI v), .ref o] (((wLe g x b h h2 td bu sr lg tm hr en) ++ ((wSh g h a (ssS S) (ssF S) (ssW S) (ssO S) (ssP S) (ssT S) (ssLo S) (ssSl S) (ssFa S)) ++ ((wSh g h2 a2 (ssS T) (ssF T) (ssW T) (ssO T) (ssP T) (ssT T) (ssLo T) (ssSl T) (ssFa T))))) ++ [(o, lo1 g f)]) (fun k9 u9 => match u9 with | none => k9 = 1 ∧ ¬ (0 ≤ cx ∧ cx < 12 ∧ 0 ≤ cy ∧ cy < 10 ∧ 0 ≤ v ∧ v < 6) | some q => k9 = 0 ∧ (fun z _ => (0 ≤ cx ∧ cx < 12 ∧ 0 ≤ cy ∧ cy < 10 ∧ 0 ≤ v ∧ v < 6) ∧ z = tclS (ssS S) (ssF S) (ssW S) (ssO S) (ssP S) (cx + 12 * cy) v) q.2 q.1) (fun u9 => zO u9 (((wLe g x b h h2 td bu sr lg tm hr en) ++ ((wSh g h a (ssS S) (ssF S) (ssW S) (ssO S) (ssP S) (ssT S) (ssLo S) (ssSl S) (ssFa S)) ++ ((wSh g h2 a2 (ssS T) (ssF T) (ssW T) (ssO T) (ssP T) (ssT T) (ssLo T) (ssSl T) (ssFa T))))) ++ [(o, lo1 g f)]) (fun q => ((wLe g x b h h2 td bu sr lg tm hr en) ++ ((wSh g h a (ssS S) (ssF S) (ssW S) (ssO S) (ssP S) (ssT S) (ssLo S) (ssSl S) (ssFa S)) ++ ((wSh g h2 a2 (ssS T) (ssF T) (ssW T) (ssO T) (ssP T) (ssT T) (ssLo T) (ssSl T) (ssFa T))))) ++ [(o, lo1 g (vp_updL f 0 (lI q.2)))])) 2 12 := by
  refine ZHi.of (own := RL) cL_cell 6 [(0, .ref x), (1, .int (iI cx)), (2, .int (iI cy)), (3, .int (iI v)), (4, .ref o)] (by decide +kernel) rfl (nle rfl) rfl rfl ?_
  intro E hC hN hX hH hret
  refine z_aload 2 hC 4 dL_cell_0 rfl rfl ?_
  refine z_iconst 3 hC dL_cell_2 rfl ?_
  refine z_aloadn 4 hC 0 dL_cell_3 rfl rfl rfl ?_
  refine z_iloadn 5 hC 1 dL_cell_4 rfl rfl rfl ?_
  refine z_iloadn 6 hC 2 dL_cell_5 rfl rfl rfl ?_
  refine z_iloadn 7 hC 3 dL_cell_6 rfl rfl rfl ?_
  have kx : ZThr E (((wLe g x b h h2 td bu sr lg tm hr en) ++ ((wSh g h a (ssS S) (ssF S) (ssW S) (ssO S) (ssP S) (ssT S) (ssLo S) (ssSl S) (ssFa S)) ++ ((wSh g h2 a2 (ssS T) (ssF T) (ssW T) (ssO T) (ssP T) (ssT T) (ssLo T) (ssSl T) (ssFa T))))) ++ [(o, lo1 g f)]) [(0, .ref x), (1, .int (iI cx)), (2, .int (iI cy)), (3, .int (iI v)), (4, .ref o)] 2 12 7 [.int (iI 0), .ref o] (fun Ex => Ex = zXi ∧ ¬ (0 ≤ cx ∧ cx < 12 ∧ 0 ≤ cy ∧ cy < 10 ∧ 0 ≤ v ∧ v < 6)) := by
    refine ZThr.by (fun Ex h => ?_)
    obtain ⟨rfl, h1⟩ := h
    · refine z_catch (Ex := zXi) hC hN hH [] (0, 12, 15, 19) [] rfl (fun _ h => absurd h List.not_mem_nil) (by decide) (by decide) (by decide +kernel) (by decide +kernel) (fun q9 => ?_)
      refine z_astore (lv' := [(5, .ref q9), (0, .ref x), (1, .int (iI cx)), (2, .int (iI cy)), (3, .int (iI v)), (4, .ref o)]) 17 hC dL_cell_15 rfl (by decide) rfl ?_
      refine z_iconst 18 hC dL_cell_17 rfl ?_
      exact hret none dL_cell_18 ⟨rfl, h1⟩
  refine z_callXi (wr := [(o, lo1 g f)]) (w2 := fun _ => ((wLe g x b h h2 td bu sr lg tm hr en) ++ ((wSh g h a (ssS S) (ssF S) (ssW S) (ssO S) (ssP S) (ssT S) (ssLo S) (ssSl S) (ssFa S)) ++ ((wSh g h2 a2 (ssS T) (ssF T) (ssW T) (ssO T) (ssP T) (ssT T) (ssLo T) (ssSl T) (ssFa T))))) ++ [(o, lo1 g f)]) 10 hC [0, 1, 2, 3, 4, 5, 6, 7, 8, 9, 10, 11, 12, 13, 14, 15, 16, 17, 18] [19] [1, 2, 3, 4, 5, 6, 7, 8, 9, 10, 11, 12, 13, 14, 15, 16, 17, 18, 19, 0] [1, 2, 3, 4, 5, 6, 7, 8, 9, 10, 11, 12, 13, 14, 15, 16, 17, 18, 19, 0] (z_runXV (nA := 3) hC hN hX (c_X1_cell l hlf D g x b h h2 a a2 td bu sr lg tm hr en S T cx cy v hI hcx hcy hv) [0, 1, 2, 3, 4, 5, 6, 7, 8, 9, 10, 11, 12, 13, 14, 15, 16, 17, 18] rfl (by decide) gL_cell_X1_cell (by decide +kernel) rfl rfl rfl ⟨by decide, by decide⟩ rfl rfl (nle rfl) dL_cell_7 ⟨by decide, by decide⟩ 0 rfl rfl) rfl rfl (by decide) (by decide) rfl (by decide) (fun _ => rfl) (by decide) rfl (k2 := 2) (n2 := 12) rfl rfl kx (fun z u hz => ?_)
  refine z_i2l 11 hC dL_cell_10 rfl ?_
  refine z_last (ws' := ((wLe g x b h h2 td bu sr lg tm hr en) ++ ((wSh g h a (ssS S) (ssF S) (ssW S) (ssO S) (ssP S) (ssT S) (ssLo S) (ssSl S) (ssFa S)) ++ ((wSh g h2 a2 (ssS T) (ssF T) (ssW T) (ssO T) (ssP T) (ssT T) (ssLo T) (ssSl T) (ssFa T))))) ++ [(o, lo1 g (vp_updL f 0 (lI z)))]) 12 19 hC dL_cell_11 rfl rfl (by decide) (by decide) rfl ?_
  refine z_goto 19 hC dL_cell_12 (by decide) ?_
  refine z_iconst 20 hC dL_cell_19 rfl ?_
  exact hret (some (u, z)) dL_cell_20 ⟨rfl, hz⟩
set_option maxHeartbeats 4000000 in
set_option maxRecDepth 100000 in
theorem h_team (l : Launch) (hlf : l.stackTraces = false) (D : va_G) (g : Nat → ClassId) (x : Nat) (b : Nat → Nat) (h h2 : Nat) (a a2 : Nat → Nat) (td bu sr lg : Int → Int) (tm hr en : Int) (S T : SS) (k : Int) (v : Int) (hI : LI td bu sr lg tm hr S) (hk : -2147483648 ≤ k ∧ k ≤ 2147483647) (hv : -2147483648 ≤ v ∧ v ≤ 2147483647) (o : Nat) (f : Nat → Int64) : ZHi (S := Option (Unit × Int)) l yL_team wsL_team ({ frames := 8, cells := 2, slots := 12, locals := 173 }) D g [.ref x, .int (iI k), .int (iI v), .ref o] (((wLe g x b h h2 td bu sr lg tm hr en) ++ ((wSh g h a (ssS S) (ssF S) (ssW S) (ssO S) (ssP S) (ssT S) (ssLo S) (ssSl S) (ssFa S)) ++ ((wSh g h2 a2 (ssS T) (ssF T) (ssW T) (ssO T) (ssP T) (ssT T) (ssLo T) (ssSl T) (ssFa T))))) ++ [(o, lo1 g f)]) (fun k9 u9 => match u9 with | none => k9 = 1 ∧ ¬ (0 ≤ k ∧ k < tm ∧ 0 ≤ v ∧ v < 8) | some q => k9 = 0 ∧ (fun z _ => (0 ≤ k ∧ k < tm ∧ 0 ≤ v ∧ v < 8) ∧ z = tV bu sr lg S k v) q.2 q.1) (fun u9 => zO u9 (((wLe g x b h h2 td bu sr lg tm hr en) ++ ((wSh g h a (ssS S) (ssF S) (ssW S) (ssO S) (ssP S) (ssT S) (ssLo S) (ssSl S) (ssFa S)) ++ ((wSh g h2 a2 (ssS T) (ssF T) (ssW T) (ssO T) (ssP T) (ssT T) (ssLo T) (ssSl T) (ssFa T))))) ++ [(o, lo1 g f)]) (fun q => ((wLe g x b h h2 td bu sr lg tm hr en) ++ ((wSh g h a (ssS S) (ssF S) (ssW S) (ssO S) (ssP S) (ssT S) (ssLo S) (ssSl S) (ssFa S)) ++ ((wSh g h2 a2 (ssS T) (ssF T) (ssW T) (ssO T) (ssP T) (ssT T) (ssLo T) (ssSl T) (ssFa T))))) ++ [(o, lo1 g (vp_updL f 0 (lI q.2)))])) 2 12 := by
  refine ZHi.of (own := RL) cL_team 5 [(0, .ref x), (1, .int (iI k)), (2, .int (iI v)), (3, .ref o)] (by decide +kernel) rfl (nle rfl) rfl rfl ?_
  intro E hC hN hX hH hret
  refine z_aloadn 1 hC 3 dL_team_0 rfl rfl rfl ?_
  refine z_iconst 2 hC dL_team_1 rfl ?_
  refine z_aloadn 3 hC 0 dL_team_2 rfl rfl rfl ?_
  refine z_iloadn 4 hC 1 dL_team_3 rfl rfl rfl ?_
  refine z_iloadn 5 hC 2 dL_team_4 rfl rfl rfl ?_
  have kx : ZThr E (((wLe g x b h h2 td bu sr lg tm hr en) ++ ((wSh g h a (ssS S) (ssF S) (ssW S) (ssO S) (ssP S) (ssT S) (ssLo S) (ssSl S) (ssFa S)) ++ ((wSh g h2 a2 (ssS T) (ssF T) (ssW T) (ssO T) (ssP T) (ssT T) (ssLo T) (ssSl T) (ssFa T))))) ++ [(o, lo1 g f)]) [(0, .ref x), (1, .int (iI k)), (2, .int (iI v)), (3, .ref o)] 2 12 5 [.int (iI 0), .ref o] (fun Ex => Ex = zXi ∧ ¬ (0 ≤ k ∧ k < tm ∧ 0 ≤ v ∧ v < 8)) := by
    refine ZThr.by (fun Ex h => ?_)
    obtain ⟨rfl, h1⟩ := h
    · refine z_catch (Ex := zXi) hC hN hH [] (0, 10, 13, 19) [] rfl (fun _ h => absurd h List.not_mem_nil) (by decide) (by decide) (by decide +kernel) (by decide +kernel) (fun q9 => ?_)
      refine z_astore (lv' := [(4, .ref q9), (0, .ref x), (1, .int (iI k)), (2, .int (iI v)), (3, .ref o)]) 15 hC dL_team_13 rfl (by decide) rfl ?_
      refine z_iconst 16 hC dL_team_15 rfl ?_
      exact hret none dL_team_16 ⟨rfl, h1⟩
  refine z_callXi (wr := [(o, lo1 g f)]) (w2 := fun _ => ((wLe g x b h h2 td bu sr lg tm hr en) ++ ((wSh g h a (ssS S) (ssF S) (ssW S) (ssO S) (ssP S) (ssT S) (ssLo S) (ssSl S) (ssFa S)) ++ ((wSh g h2 a2 (ssS T) (ssF T) (ssW T) (ssO T) (ssP T) (ssT T) (ssLo T) (ssSl T) (ssFa T))))) ++ [(o, lo1 g f)]) 8 hC [0, 1, 2, 3, 4, 5, 6, 7, 8, 9, 10, 11, 12, 13, 14, 15, 16, 17, 18] [19] [1, 2, 3, 4, 5, 6, 7, 8, 9, 10, 11, 12, 13, 14, 15, 16, 17, 18, 19, 0] [1, 2, 3, 4, 5, 6, 7, 8, 9, 10, 11, 12, 13, 14, 15, 16, 17, 18, 19, 0] (z_runXV (nA := 2) hC hN hX (c_X1_team l hlf D g x b h h2 a a2 td bu sr lg tm hr en S T k v hI hk hv) [0, 1, 2, 3, 4, 5, 6, 7, 8, 9, 10, 11, 12, 13, 14, 15, 16, 17, 18] rfl (by decide) gL_team_X1_team (by decide +kernel) rfl rfl rfl ⟨by decide, by decide⟩ rfl rfl (nle rfl) dL_team_5 ⟨by decide, by decide⟩ 0 rfl rfl) rfl rfl (by decide) (by decide) rfl (by decide) (fun _ => rfl) (by decide) rfl (k2 := 2) (n2 := 12) rfl rfl kx (fun z u hz => ?_)
  refine z_i2l 9 hC dL_team_8 rfl ?_
  refine z_last (ws' := ((wLe g x b h h2 td bu sr lg tm hr en) ++ ((wSh g h a (ssS S) (ssF S) (ssW S) (ssO S) (ssP S) (ssT S) (ssLo S) (ssSl S) (ssFa S)) ++ ((wSh g h2 a2 (ssS T) (ssF T) (ssW T) (ssO T) (ssP T) (ssT T) (ssLo T) (ssSl T) (ssFa T))))) ++ [(o, lo1 g (vp_updL f 0 (lI z)))]) 10 19 hC dL_team_9 rfl rfl (by decide) (by decide) rfl ?_
  refine z_goto 17 hC dL_team_10 (by decide) ?_
  refine z_iconst 18 hC dL_team_17 rfl ?_
  exact hret (some (u, z)) dL_team_18 ⟨rfl, hz⟩
set_option maxHeartbeats 4000000 in
set_option maxRecDepth 100000 in
theorem h_count (l : Launch) (hlf : l.stackTraces = false) (D : va_G) (g : Nat → ClassId) (x : Nat) (b : Nat → Nat) (h h2 : Nat) (a a2 : Nat → Nat) (td bu sr lg : Int → Int) (tm hr en : Int) (S T : SS) (v : Int) (hI : LI td bu sr lg tm hr S) (hv : -2147483648 ≤ v ∧ v ≤ 2147483647) (o : Nat) (f : Nat → Int64) : ZHi (S := Option (Unit × Int)) l yL_count wsL_count ({ frames := 8, cells := 1, slots := 6, locals := 152 }) D g [.ref x, .int (iI v), .ref o] (((wLe g x b h h2 td bu sr lg tm hr en) ++ ((wSh g h a (ssS S) (ssF S) (ssW S) (ssO S) (ssP S) (ssT S) (ssLo S) (ssSl S) (ssFa S)) ++ ((wSh g h2 a2 (ssS T) (ssF T) (ssW T) (ssO T) (ssP T) (ssT T) (ssLo T) (ssSl T) (ssFa T))))) ++ [(o, lo1 g f)]) (fun k9 u9 => match u9 with | none => k9 = 1 ∧ ¬ (0 ≤ v ∧ v < 9) | some q => k9 = 0 ∧ (fun z _ => (0 ≤ v ∧ v < 9) ∧ z = cV S tm hr en v) q.2 q.1) (fun u9 => zO u9 (((wLe g x b h h2 td bu sr lg tm hr en) ++ ((wSh g h a (ssS S) (ssF S) (ssW S) (ssO S) (ssP S) (ssT S) (ssLo S) (ssSl S) (ssFa S)) ++ ((wSh g h2 a2 (ssS T) (ssF T) (ssW T) (ssO T) (ssP T) (ssT T) (ssLo T) (ssSl T) (ssFa T))))) ++ [(o, lo1 g f)]) (fun q => ((wLe g x b h h2 td bu sr lg tm hr en) ++ ((wSh g h a (ssS S) (ssF S) (ssW S) (ssO S) (ssP S) (ssT S) (ssLo S) (ssSl S) (ssFa S)) ++ ((wSh g h2 a2 (ssS T) (ssF T) (ssW T) (ssO T) (ssP T) (ssT T) (ssLo T) (ssSl T) (ssFa T))))) ++ [(o, lo1 g (vp_updL f 0 (lI q.2)))])) 1 6 := by
  refine ZHi.of (own := RL) cL_count 4 [(0, .ref x), (1, .int (iI v)), (2, .ref o)] (by decide +kernel) rfl (nle rfl) rfl rfl ?_
  intro E hC hN hX hH hret
  refine z_aloadn 1 hC 2 dL_count_0 rfl rfl rfl ?_
  refine z_iconst 2 hC dL_count_1 rfl ?_
  refine z_aloadn 3 hC 0 dL_count_2 rfl rfl rfl ?_
  refine z_iloadn 4 hC 1 dL_count_3 rfl rfl rfl ?_
  have kx : ZThr E (((wLe g x b h h2 td bu sr lg tm hr en) ++ ((wSh g h a (ssS S) (ssF S) (ssW S) (ssO S) (ssP S) (ssT S) (ssLo S) (ssSl S) (ssFa S)) ++ ((wSh g h2 a2 (ssS T) (ssF T) (ssW T) (ssO T) (ssP T) (ssT T) (ssLo T) (ssSl T) (ssFa T))))) ++ [(o, lo1 g f)]) [(0, .ref x), (1, .int (iI v)), (2, .ref o)] 1 6 4 [.int (iI 0), .ref o] (fun Ex => Ex = zXi ∧ ¬ (0 ≤ v ∧ v < 9)) := by
    refine ZThr.by (fun Ex h => ?_)
    obtain ⟨rfl, h1⟩ := h
    · refine z_catch (Ex := zXi) hC hN hH [] (0, 9, 12, 19) [] rfl (fun _ h => absurd h List.not_mem_nil) (by decide) (by decide) (by decide +kernel) (by decide +kernel) (fun q9 => ?_)
      refine z_astoren (lv' := [(3, .ref q9), (0, .ref x), (1, .int (iI v)), (2, .ref o)]) 13 hC dL_count_12 rfl rfl (by decide) rfl ?_
      refine z_iconst 14 hC dL_count_13 rfl ?_
      exact hret none dL_count_14 ⟨rfl, h1⟩
  refine z_callXi (wr := [(o, lo1 g f)]) (w2 := fun _ => ((wLe g x b h h2 td bu sr lg tm hr en) ++ ((wSh g h a (ssS S) (ssF S) (ssW S) (ssO S) (ssP S) (ssT S) (ssLo S) (ssSl S) (ssFa S)) ++ ((wSh g h2 a2 (ssS T) (ssF T) (ssW T) (ssO T) (ssP T) (ssT T) (ssLo T) (ssSl T) (ssFa T))))) ++ [(o, lo1 g f)]) 7 hC [0, 1, 2, 3, 4, 5, 6, 7, 8, 9, 10, 11, 12, 13, 14, 15, 16, 17, 18] [19] [1, 2, 3, 4, 5, 6, 7, 8, 9, 10, 11, 12, 13, 14, 15, 16, 17, 18, 19, 0] [1, 2, 3, 4, 5, 6, 7, 8, 9, 10, 11, 12, 13, 14, 15, 16, 17, 18, 19, 0] (z_runXV (nA := 1) hC hN hX (c_X1_count l hlf D g x b h h2 a a2 td bu sr lg tm hr en S T v hI hv) [0, 1, 2, 3, 4, 5, 6, 7, 8, 9, 10, 11, 12, 13, 14, 15, 16, 17, 18] rfl (by decide) gL_count_X1_count (by decide +kernel) rfl rfl rfl ⟨by decide, by decide⟩ rfl rfl (nle rfl) dL_count_4 ⟨by decide, by decide⟩ 0 rfl rfl) rfl rfl (by decide) (by decide) rfl (by decide) (fun _ => rfl) (by decide) rfl (k2 := 1) (n2 := 6) rfl rfl kx (fun z u hz => ?_)
  refine z_i2l 8 hC dL_count_7 rfl ?_
  refine z_last (ws' := ((wLe g x b h h2 td bu sr lg tm hr en) ++ ((wSh g h a (ssS S) (ssF S) (ssW S) (ssO S) (ssP S) (ssT S) (ssLo S) (ssSl S) (ssFa S)) ++ ((wSh g h2 a2 (ssS T) (ssF T) (ssW T) (ssO T) (ssP T) (ssT T) (ssLo T) (ssSl T) (ssFa T))))) ++ [(o, lo1 g (vp_updL f 0 (lI z)))]) 9 19 hC dL_count_8 rfl rfl (by decide) (by decide) rfl ?_
  refine z_goto 15 hC dL_count_9 (by decide) ?_
  refine z_iconst 16 hC dL_count_15 rfl ?_
  exact hret (some (u, z)) dL_count_16 ⟨rfl, hz⟩
set_option maxHeartbeats 4000000 in
set_option maxRecDepth 100000 in
theorem h_pass (l : Launch) (hlf : l.stackTraces = false) (D : va_G) (g : Nat → ClassId) (x : Nat) (b : Nat → Nat) (h h2 : Nat) (a a2 : Nat → Nat) (td bu sr lg : Int → Int) (tm hr en : Int) (S T : SS) (v : Int) (hI : LI td bu sr lg tm hr S) (hv : -2147483648 ≤ v ∧ v ≤ 2147483647) (o : Nat) (f : Nat → Int64) : ZHi (S := Option (Unit × Int)) l yL_pass wsL_pass ({ frames := 8, cells := 1, slots := 6, locals := 313 }) D g [.ref x, .int (iI v), .ref o] (((wLe g x b h h2 td bu sr lg tm hr en) ++ ((wSh g h a (ssS S) (ssF S) (ssW S) (ssO S) (ssP S) (ssT S) (ssLo S) (ssSl S) (ssFa S)) ++ ((wSh g h2 a2 (ssS T) (ssF T) (ssW T) (ssO T) (ssP T) (ssT T) (ssLo T) (ssSl T) (ssFa T))))) ++ [(o, lo1 g f)]) (fun k9 u9 => match u9 with | none => k9 = 1 ∧ ¬ (1 ≤ v ∧ v ≤ 48) | some q => k9 = 0 ∧ (fun z _ => (1 ≤ v ∧ v ≤ 48) ∧ z = ssFa (hrs td hr S v) - ssFa S) q.2 q.1) (fun u9 => zO u9 (((wLe g x b h h2 td bu sr lg tm hr en) ++ ((wSh g h a (ssS S) (ssF S) (ssW S) (ssO S) (ssP S) (ssT S) (ssLo S) (ssSl S) (ssFa S)) ++ ((wSh g h2 a2 (ssS T) (ssF T) (ssW T) (ssO T) (ssP T) (ssT T) (ssLo T) (ssSl T) (ssFa T))))) ++ [(o, lo1 g f)]) (fun q => ((wLe g x b h h2 td bu (fun _ => 20) lg tm (hr + v) en) ++ ((wSh g h a (ssS (hrs td hr S v)) (ssF (hrs td hr S v)) (ssW (hrs td hr S v)) (ssO (hrs td hr S v)) (ssP (hrs td hr S v)) (ssT (hrs td hr S v)) (ssLo (hrs td hr S v)) (ssSl (hrs td hr S v)) (ssFa (hrs td hr S v))) ++ ((wSh g h2 a2 (ssS T) (ssF T) (ssW T) (ssO T) (ssP T) (ssT T) (ssLo T) (ssSl T) (ssFa T))))) ++ [(o, lo1 g (vp_updL f 0 (lI q.2)))])) 1 6 := by
  refine ZHi.of (own := RL) cL_pass 4 [(0, .ref x), (1, .int (iI v)), (2, .ref o)] (by decide +kernel) rfl (nle rfl) rfl rfl ?_
  intro E hC hN hX hH hret
  refine z_aloadn 1 hC 2 dL_pass_0 rfl rfl rfl ?_
  refine z_iconst 2 hC dL_pass_1 rfl ?_
  refine z_aloadn 3 hC 0 dL_pass_2 rfl rfl rfl ?_
  refine z_iloadn 4 hC 1 dL_pass_3 rfl rfl rfl ?_
  have kx : ZThr E (((wLe g x b h h2 td bu sr lg tm hr en) ++ ((wSh g h a (ssS S) (ssF S) (ssW S) (ssO S) (ssP S) (ssT S) (ssLo S) (ssSl S) (ssFa S)) ++ ((wSh g h2 a2 (ssS T) (ssF T) (ssW T) (ssO T) (ssP T) (ssT T) (ssLo T) (ssSl T) (ssFa T))))) ++ [(o, lo1 g f)]) [(0, .ref x), (1, .int (iI v)), (2, .ref o)] 1 6 4 [.int (iI 0), .ref o] (fun Ex => Ex = zXa ∧ ¬ (1 ≤ v ∧ v ≤ 48)) := by
    refine ZThr.by (fun Ex h => ?_)
    obtain ⟨rfl, h1⟩ := h
    · refine z_catch (Ex := zXa) hC hN hH [] (0, 9, 12, 21) [] rfl (fun _ h => absurd h List.not_mem_nil) (by decide) (by decide) (by decide +kernel) (by decide +kernel) (fun q9 => ?_)
      refine z_astoren (lv' := [(3, .ref q9), (0, .ref x), (1, .int (iI v)), (2, .ref o)]) 13 hC dL_pass_12 rfl rfl (by decide) rfl ?_
      refine z_iconst 14 hC dL_pass_13 rfl ?_
      exact hret none dL_pass_14 ⟨rfl, h1⟩
  refine z_callXi (wr := [(o, lo1 g f)]) (w2 := fun _ => ((wLe g x b h h2 td bu (fun _ => 20) lg tm (hr + v) en) ++ ((wSh g h a (ssS (hrs td hr S v)) (ssF (hrs td hr S v)) (ssW (hrs td hr S v)) (ssO (hrs td hr S v)) (ssP (hrs td hr S v)) (ssT (hrs td hr S v)) (ssLo (hrs td hr S v)) (ssSl (hrs td hr S v)) (ssFa (hrs td hr S v))) ++ ((wSh g h2 a2 (ssS T) (ssF T) (ssW T) (ssO T) (ssP T) (ssT T) (ssLo T) (ssSl T) (ssFa T))))) ++ [(o, lo1 g f)]) 7 hC [0, 1, 2, 3, 4, 5, 6, 7, 8, 9, 10, 11, 12, 13, 14, 15, 16, 17, 18] [19] [1, 2, 3, 4, 5, 6, 7, 8, 9, 10, 11, 12, 13, 14, 15, 16, 17, 18, 19, 0] [1, 2, 3, 4, 5, 6, 7, 8, 9, 10, 11, 12, 13, 14, 15, 16, 17, 18, 19, 0] (z_runXV (nA := 1) hC hN hX (c_X1_pass l hlf D g x b h h2 a a2 td bu sr lg tm hr en S T v hI hv) [0, 1, 2, 3, 4, 5, 6, 7, 8, 9, 10, 11, 12, 13, 14, 15, 16, 17, 18] rfl (by decide) gL_pass_X1_pass (by decide +kernel) rfl rfl rfl ⟨by decide, by decide⟩ rfl rfl (nle rfl) dL_pass_4 ⟨by decide, by decide⟩ 0 rfl rfl) rfl rfl (by decide) (by decide) rfl (by decide) (fun _ => rfl) (by decide) rfl (k2 := 1) (n2 := 6) rfl rfl kx (fun z u hz => ?_)
  refine z_i2l 8 hC dL_pass_7 rfl ?_
  refine z_last (ws' := ((wLe g x b h h2 td bu (fun _ => 20) lg tm (hr + v) en) ++ ((wSh g h a (ssS (hrs td hr S v)) (ssF (hrs td hr S v)) (ssW (hrs td hr S v)) (ssO (hrs td hr S v)) (ssP (hrs td hr S v)) (ssT (hrs td hr S v)) (ssLo (hrs td hr S v)) (ssSl (hrs td hr S v)) (ssFa (hrs td hr S v))) ++ ((wSh g h2 a2 (ssS T) (ssF T) (ssW T) (ssO T) (ssP T) (ssT T) (ssLo T) (ssSl T) (ssFa T))))) ++ [(o, lo1 g (vp_updL f 0 (lI z)))]) 9 19 hC dL_pass_8 rfl rfl (by decide) (by decide) rfl ?_
  refine z_goto 15 hC dL_pass_9 (by decide) ?_
  refine z_iconst 16 hC dL_pass_15 rfl ?_
  exact hret (some (u, z)) dL_pass_16 ⟨rfl, hz⟩
set_option maxHeartbeats 4000000 in
set_option maxRecDepth 100000 in
theorem h_leader (l : Launch) (hlf : l.stackTraces = false) (D : va_G) (g : Nat → ClassId) (x : Nat) (b : Nat → Nat) (h h2 : Nat) (a a2 : Nat → Nat) (td bu sr lg : Int → Int) (tm hr en : Int) (S T : SS) (v : Int) (hI : LI td bu sr lg tm hr S) (hv : -2147483648 ≤ v ∧ v ≤ 2147483647) (o : Nat) (f : Nat → Int64) : ZHi (S := Option (Unit × Int)) l yL_leader wsL_leader ({ frames := 7, cells := 1, slots := 6, locals := 204 }) D g [.ref x, .int (iI v), .ref o] (((wLe g x b h h2 td bu sr lg tm hr en) ++ ((wSh g h a (ssS S) (ssF S) (ssW S) (ssO S) (ssP S) (ssT S) (ssLo S) (ssSl S) (ssFa S)) ++ ((wSh g h2 a2 (ssS T) (ssF T) (ssW T) (ssO T) (ssP T) (ssT T) (ssLo T) (ssSl T) (ssFa T))))) ++ [(o, lo1 g f)]) (fun k9 u9 => match u9 with | none => k9 = 1 ∧ ¬ (0 ≤ v ∧ v < tm) | some q => k9 = 0 ∧ (fun z _ => (0 ≤ v ∧ v < tm) ∧ z = ldr lg (ssT S) tm v tm) q.2 q.1) (fun u9 => zO u9 (((wLe g x b h h2 td bu sr lg tm hr en) ++ ((wSh g h a (ssS S) (ssF S) (ssW S) (ssO S) (ssP S) (ssT S) (ssLo S) (ssSl S) (ssFa S)) ++ ((wSh g h2 a2 (ssS T) (ssF T) (ssW T) (ssO T) (ssP T) (ssT T) (ssLo T) (ssSl T) (ssFa T))))) ++ [(o, lo1 g f)]) (fun q => ((wLe g x b h h2 td bu sr lg tm hr en) ++ ((wSh g h a (ssS S) (ssF S) (ssW S) (ssO S) (ssP S) (ssT S) (ssLo S) (ssSl S) (ssFa S)) ++ ((wSh g h2 a2 (ssS T) (ssF T) (ssW T) (ssO T) (ssP T) (ssT T) (ssLo T) (ssSl T) (ssFa T))))) ++ [(o, lo1 g (vp_updL f 0 (lI q.2)))])) 1 6 := by
  refine ZHi.of (own := RL) cL_leader 4 [(0, .ref x), (1, .int (iI v)), (2, .ref o)] (by decide +kernel) rfl (nle rfl) rfl rfl ?_
  intro E hC hN hX hH hret
  refine z_aloadn 1 hC 2 dL_leader_0 rfl rfl rfl ?_
  refine z_iconst 2 hC dL_leader_1 rfl ?_
  refine z_aloadn 3 hC 0 dL_leader_2 rfl rfl rfl ?_
  refine z_iloadn 4 hC 1 dL_leader_3 rfl rfl rfl ?_
  have kx : ZThr E (((wLe g x b h h2 td bu sr lg tm hr en) ++ ((wSh g h a (ssS S) (ssF S) (ssW S) (ssO S) (ssP S) (ssT S) (ssLo S) (ssSl S) (ssFa S)) ++ ((wSh g h2 a2 (ssS T) (ssF T) (ssW T) (ssO T) (ssP T) (ssT T) (ssLo T) (ssSl T) (ssFa T))))) ++ [(o, lo1 g f)]) [(0, .ref x), (1, .int (iI v)), (2, .ref o)] 1 6 4 [.int (iI 0), .ref o] (fun Ex => Ex = zXi ∧ ¬ (0 ≤ v ∧ v < tm)) := by
    refine ZThr.by (fun Ex h => ?_)
    obtain ⟨rfl, h1⟩ := h
    · refine z_catch (Ex := zXi) hC hN hH [] (0, 9, 12, 19) [] rfl (fun _ h => absurd h List.not_mem_nil) (by decide) (by decide) (by decide +kernel) (by decide +kernel) (fun q9 => ?_)
      refine z_astoren (lv' := [(3, .ref q9), (0, .ref x), (1, .int (iI v)), (2, .ref o)]) 13 hC dL_leader_12 rfl rfl (by decide) rfl ?_
      refine z_iconst 14 hC dL_leader_13 rfl ?_
      exact hret none dL_leader_14 ⟨rfl, h1⟩
  refine z_callXi (wr := [(o, lo1 g f)]) (w2 := fun _ => ((wLe g x b h h2 td bu sr lg tm hr en) ++ ((wSh g h a (ssS S) (ssF S) (ssW S) (ssO S) (ssP S) (ssT S) (ssLo S) (ssSl S) (ssFa S)) ++ ((wSh g h2 a2 (ssS T) (ssF T) (ssW T) (ssO T) (ssP T) (ssT T) (ssLo T) (ssSl T) (ssFa T))))) ++ [(o, lo1 g f)]) 7 hC [0, 1, 2, 3, 4, 5, 6, 7, 8, 9, 10, 11, 12, 13, 14, 15, 16, 17, 18] [19] [1, 2, 3, 4, 5, 6, 7, 8, 9, 10, 11, 12, 13, 14, 15, 16, 17, 18, 19, 0] [1, 2, 3, 4, 5, 6, 7, 8, 9, 10, 11, 12, 13, 14, 15, 16, 17, 18, 19, 0] (z_runXV (nA := 1) hC hN hX (c_X1_leader l hlf D g x b h h2 a a2 td bu sr lg tm hr en S T v hI hv) [0, 1, 2, 3, 4, 5, 6, 7, 8, 9, 10, 11, 12, 13, 14, 15, 16, 17, 18] rfl (by decide) gL_leader_X1_leader (by decide +kernel) rfl rfl rfl ⟨by decide, by decide⟩ rfl rfl (nle rfl) dL_leader_4 ⟨by decide, by decide⟩ 0 rfl rfl) rfl rfl (by decide) (by decide) rfl (by decide) (fun _ => rfl) (by decide) rfl (k2 := 1) (n2 := 6) rfl rfl kx (fun z u hz => ?_)
  refine z_i2l 8 hC dL_leader_7 rfl ?_
  refine z_last (ws' := ((wLe g x b h h2 td bu sr lg tm hr en) ++ ((wSh g h a (ssS S) (ssF S) (ssW S) (ssO S) (ssP S) (ssT S) (ssLo S) (ssSl S) (ssFa S)) ++ ((wSh g h2 a2 (ssS T) (ssF T) (ssW T) (ssO T) (ssP T) (ssT T) (ssLo T) (ssSl T) (ssFa T))))) ++ [(o, lo1 g (vp_updL f 0 (lI z)))]) 9 19 hC dL_leader_8 rfl rfl (by decide) (by decide) rfl ?_
  refine z_goto 15 hC dL_leader_9 (by decide) ?_
  refine z_iconst 16 hC dL_leader_15 rfl ?_
  exact hret (some (u, z)) dL_leader_16 ⟨rfl, hz⟩
set_option maxHeartbeats 4000000 in
set_option maxRecDepth 100000 in
theorem h_flood (l : Launch) (hlf : l.stackTraces = false) (D : va_G) (g : Nat → ClassId) (x : Nat) (b : Nat → Nat) (h h2 : Nat) (a a2 : Nat → Nat) (td bu sr lg : Int → Int) (tm hr en : Int) (S T : SS) (v : Int) (hI : LI td bu sr lg tm hr S) (hv : -2147483648 ≤ v ∧ v ≤ 2147483647) (o : Nat) (f : Nat → Int64) : ZHi (S := Option (SS × Int)) l yL_flood wsL_flood ({ frames := 8, cells := 1, slots := 6, locals := 242 }) D g [.ref x, .int (iI v), .ref o] (((wLe g x b h h2 td bu sr lg tm hr en) ++ ((wSh g h a (ssS S) (ssF S) (ssW S) (ssO S) (ssP S) (ssT S) (ssLo S) (ssSl S) (ssFa S)) ++ ((wSh g h2 a2 (ssS T) (ssF T) (ssW T) (ssO T) (ssP T) (ssT T) (ssLo T) (ssSl T) (ssFa T))))) ++ [(o, lo1 g f)]) (fun k9 u9 => match u9 with | none => k9 = 1 ∧ ¬ (0 ≤ v ∧ v ≤ 30) | some q => k9 = 0 ∧ (fun z _ => (0 ≤ v ∧ v ≤ 30) ∧ z = sumI (wet (ssS S) v) 120) q.2 q.1) (fun u9 => zO u9 (((wLe g x b h h2 td bu sr lg tm hr en) ++ ((wSh g h a (ssS S) (ssF S) (ssW S) (ssO S) (ssP S) (ssT S) (ssLo S) (ssSl S) (ssFa S)) ++ ((wSh g h2 a2 (ssS T) (ssF T) (ssW T) (ssO T) (ssP T) (ssT T) (ssLo T) (ssSl T) (ssFa T))))) ++ [(o, lo1 g f)]) (fun q => ((wLe g x b h h2 td bu sr lg tm hr en) ++ ((wSh g h a (ssS S) (ssF S) (ssW S) (ssO S) (ssP S) (ssT S) (ssLo S) (ssSl S) (ssFa S)) ++ ((wSh g h2 a2 (ssS q.1) (ssF q.1) (ssW q.1) (ssO q.1) (ssP q.1) (ssT q.1) (ssLo q.1) (ssSl q.1) (ssFa q.1))))) ++ [(o, lo1 g (vp_updL f 0 (lI q.2)))])) 1 6 := by
  refine ZHi.of (own := RL) cL_flood 4 [(0, .ref x), (1, .int (iI v)), (2, .ref o)] (by decide +kernel) rfl (nle rfl) rfl rfl ?_
  intro E hC hN hX hH hret
  refine z_aloadn 1 hC 2 dL_flood_0 rfl rfl rfl ?_
  refine z_iconst 2 hC dL_flood_1 rfl ?_
  refine z_aloadn 3 hC 0 dL_flood_2 rfl rfl rfl ?_
  refine z_iloadn 4 hC 1 dL_flood_3 rfl rfl rfl ?_
  have kx : ZThr E (((wLe g x b h h2 td bu sr lg tm hr en) ++ ((wSh g h a (ssS S) (ssF S) (ssW S) (ssO S) (ssP S) (ssT S) (ssLo S) (ssSl S) (ssFa S)) ++ ((wSh g h2 a2 (ssS T) (ssF T) (ssW T) (ssO T) (ssP T) (ssT T) (ssLo T) (ssSl T) (ssFa T))))) ++ [(o, lo1 g f)]) [(0, .ref x), (1, .int (iI v)), (2, .ref o)] 1 6 4 [.int (iI 0), .ref o] (fun Ex => Ex = zXa ∧ ¬ (0 ≤ v ∧ v ≤ 30)) := by
    refine ZThr.by (fun Ex h => ?_)
    obtain ⟨rfl, h1⟩ := h
    · refine z_catch (Ex := zXa) hC hN hH [] (0, 9, 12, 21) [] rfl (fun _ h => absurd h List.not_mem_nil) (by decide) (by decide) (by decide +kernel) (by decide +kernel) (fun q9 => ?_)
      refine z_astoren (lv' := [(3, .ref q9), (0, .ref x), (1, .int (iI v)), (2, .ref o)]) 13 hC dL_flood_12 rfl rfl (by decide) rfl ?_
      refine z_iconst 14 hC dL_flood_13 rfl ?_
      exact hret none dL_flood_14 ⟨rfl, h1⟩
  refine z_callXi (wr := [(o, lo1 g f)]) (w2 := fun u => ((wLe g x b h h2 td bu sr lg tm hr en) ++ ((wSh g h a (ssS S) (ssF S) (ssW S) (ssO S) (ssP S) (ssT S) (ssLo S) (ssSl S) (ssFa S)) ++ ((wSh g h2 a2 (ssS u) (ssF u) (ssW u) (ssO u) (ssP u) (ssT u) (ssLo u) (ssSl u) (ssFa u))))) ++ [(o, lo1 g f)]) 7 hC [0, 1, 2, 3, 4, 5, 6, 7, 8, 9, 10, 11, 12, 13, 14, 15, 16, 17, 18] [19] [1, 2, 3, 4, 5, 6, 7, 8, 9, 10, 11, 12, 13, 14, 15, 16, 17, 18, 19, 0] [1, 2, 3, 4, 5, 6, 7, 8, 9, 10, 11, 12, 13, 14, 15, 16, 17, 18, 19, 0] (z_runXV (nA := 1) hC hN hX (c_X1_flood l hlf D g x b h h2 a a2 td bu sr lg tm hr en S T v hI hv) [0, 1, 2, 3, 4, 5, 6, 7, 8, 9, 10, 11, 12, 13, 14, 15, 16, 17, 18] rfl (by decide) gL_flood_X1_flood (by decide +kernel) rfl rfl rfl ⟨by decide, by decide⟩ rfl rfl (nle rfl) dL_flood_4 ⟨by decide, by decide⟩ 0 rfl rfl) rfl rfl (by decide) (by decide) rfl (by decide) (fun _ => rfl) (by decide) rfl (k2 := 1) (n2 := 6) rfl rfl kx (fun z u hz => ?_)
  refine z_i2l 8 hC dL_flood_7 rfl ?_
  refine z_last (ws' := ((wLe g x b h h2 td bu sr lg tm hr en) ++ ((wSh g h a (ssS S) (ssF S) (ssW S) (ssO S) (ssP S) (ssT S) (ssLo S) (ssSl S) (ssFa S)) ++ ((wSh g h2 a2 (ssS u) (ssF u) (ssW u) (ssO u) (ssP u) (ssT u) (ssLo u) (ssSl u) (ssFa u))))) ++ [(o, lo1 g (vp_updL f 0 (lI z)))]) 9 19 hC dL_flood_8 rfl rfl (by decide) (by decide) rfl ?_
  refine z_goto 15 hC dL_flood_9 (by decide) ?_
  refine z_iconst 16 hC dL_flood_15 rfl ?_
  exact hret (some (u, z)) dL_flood_16 ⟨rfl, hz⟩
set_option maxHeartbeats 4000000 in
set_option maxRecDepth 100000 in
theorem h_reach (l : Launch) (hlf : l.stackTraces = false) (D : va_G) (g : Nat → ClassId) (x : Nat) (b : Nat → Nat) (h h2 : Nat) (a a2 : Nat → Nat) (td bu sr lg : Int → Int) (tm hr en : Int) (S T : SS) (cx : Int) (cy : Int) (hI : LI td bu sr lg tm hr S) (hcx : -2147483648 ≤ cx ∧ cx ≤ 2147483647) (hcy : -2147483648 ≤ cy ∧ cy ≤ 2147483647) (o : Nat) (f : Nat → Int64) : ZHi (S := Option (SS × Int)) l yL_reach wsL_reach ({ frames := 8, cells := 1, slots := 6, locals := 245 }) D g [.ref x, .int (iI cx), .int (iI cy), .ref o] (((wLe g x b h h2 td bu sr lg tm hr en) ++ ((wSh g h a (ssS S) (ssF S) (ssW S) (ssO S) (ssP S) (ssT S) (ssLo S) (ssSl S) (ssFa S)) ++ ((wSh g h2 a2 (ssS T) (ssF T) (ssW T) (ssO T) (ssP T) (ssT T) (ssLo T) (ssSl T) (ssFa T))))) ++ [(o, lo1 g f)]) (fun k9 u9 => match u9 with | none => k9 = 1 ∧ ¬ (0 ≤ cx ∧ cx < 12 ∧ 0 ≤ cy ∧ cy < 10) | some q => k9 = 0 ∧ (fun z _ => (0 ≤ cx ∧ cx < 12 ∧ 0 ≤ cy ∧ cy < 10) ∧ rchP (ssS S) (cx + 12 * cy) z) q.2 q.1) (fun u9 => zO u9 (((wLe g x b h h2 td bu sr lg tm hr en) ++ ((wSh g h a (ssS S) (ssF S) (ssW S) (ssO S) (ssP S) (ssT S) (ssLo S) (ssSl S) (ssFa S)) ++ ((wSh g h2 a2 (ssS T) (ssF T) (ssW T) (ssO T) (ssP T) (ssT T) (ssLo T) (ssSl T) (ssFa T))))) ++ [(o, lo1 g f)]) (fun q => ((wLe g x b h h2 td bu sr lg tm hr en) ++ ((wSh g h a (ssS S) (ssF S) (ssW S) (ssO S) (ssP S) (ssT S) (ssLo S) (ssSl S) (ssFa S)) ++ ((wSh g h2 a2 (ssS q.1) (ssF q.1) (ssW q.1) (ssO q.1) (ssP q.1) (ssT q.1) (ssLo q.1) (ssSl q.1) (ssFa q.1))))) ++ [(o, lo1 g (vp_updL f 0 (lI q.2)))])) 1 6 := by
  refine ZHi.of (own := RL) cL_reach 5 [(0, .ref x), (1, .int (iI cx)), (2, .int (iI cy)), (3, .ref o)] (by decide +kernel) rfl (nle rfl) rfl rfl ?_
  intro E hC hN hX hH hret
  refine z_aloadn 1 hC 3 dL_reach_0 rfl rfl rfl ?_
  refine z_iconst 2 hC dL_reach_1 rfl ?_
  refine z_aloadn 3 hC 0 dL_reach_2 rfl rfl rfl ?_
  refine z_iloadn 4 hC 1 dL_reach_3 rfl rfl rfl ?_
  refine z_iloadn 5 hC 2 dL_reach_4 rfl rfl rfl ?_
  have kx : ZThr E (((wLe g x b h h2 td bu sr lg tm hr en) ++ ((wSh g h a (ssS S) (ssF S) (ssW S) (ssO S) (ssP S) (ssT S) (ssLo S) (ssSl S) (ssFa S)) ++ ((wSh g h2 a2 (ssS T) (ssF T) (ssW T) (ssO T) (ssP T) (ssT T) (ssLo T) (ssSl T) (ssFa T))))) ++ [(o, lo1 g f)]) [(0, .ref x), (1, .int (iI cx)), (2, .int (iI cy)), (3, .ref o)] 1 6 5 [.int (iI 0), .ref o] (fun Ex => Ex = zXi ∧ ¬ (0 ≤ cx ∧ cx < 12 ∧ 0 ≤ cy ∧ cy < 10)) := by
    refine ZThr.by (fun Ex h => ?_)
    obtain ⟨rfl, h1⟩ := h
    · refine z_catch (Ex := zXi) hC hN hH [] (0, 10, 13, 19) [] rfl (fun _ h => absurd h List.not_mem_nil) (by decide) (by decide) (by decide +kernel) (by decide +kernel) (fun q9 => ?_)
      refine z_astore (lv' := [(4, .ref q9), (0, .ref x), (1, .int (iI cx)), (2, .int (iI cy)), (3, .ref o)]) 15 hC dL_reach_13 rfl (by decide) rfl ?_
      refine z_iconst 16 hC dL_reach_15 rfl ?_
      exact hret none dL_reach_16 ⟨rfl, h1⟩
  refine z_callXi (wr := [(o, lo1 g f)]) (w2 := fun u => ((wLe g x b h h2 td bu sr lg tm hr en) ++ ((wSh g h a (ssS S) (ssF S) (ssW S) (ssO S) (ssP S) (ssT S) (ssLo S) (ssSl S) (ssFa S)) ++ ((wSh g h2 a2 (ssS u) (ssF u) (ssW u) (ssO u) (ssP u) (ssT u) (ssLo u) (ssSl u) (ssFa u))))) ++ [(o, lo1 g f)]) 8 hC [0, 1, 2, 3, 4, 5, 6, 7, 8, 9, 10, 11, 12, 13, 14, 15, 16, 17, 18] [19] [1, 2, 3, 4, 5, 6, 7, 8, 9, 10, 11, 12, 13, 14, 15, 16, 17, 18, 19, 0] [1, 2, 3, 4, 5, 6, 7, 8, 9, 10, 11, 12, 13, 14, 15, 16, 17, 18, 19, 0] (z_runXV (nA := 2) hC hN hX (c_X1_reach l hlf D g x b h h2 a a2 td bu sr lg tm hr en S T cx cy hI hcx hcy) [0, 1, 2, 3, 4, 5, 6, 7, 8, 9, 10, 11, 12, 13, 14, 15, 16, 17, 18] rfl (by decide) gL_reach_X1_reach (by decide +kernel) rfl rfl rfl ⟨by decide, by decide⟩ rfl rfl (nle rfl) dL_reach_5 ⟨by decide, by decide⟩ 0 rfl rfl) rfl rfl (by decide) (by decide) rfl (by decide) (fun _ => rfl) (by decide) rfl (k2 := 1) (n2 := 6) rfl rfl kx (fun z u hz => ?_)
  refine z_i2l 9 hC dL_reach_8 rfl ?_
  refine z_last (ws' := ((wLe g x b h h2 td bu sr lg tm hr en) ++ ((wSh g h a (ssS S) (ssF S) (ssW S) (ssO S) (ssP S) (ssT S) (ssLo S) (ssSl S) (ssFa S)) ++ ((wSh g h2 a2 (ssS u) (ssF u) (ssW u) (ssO u) (ssP u) (ssT u) (ssLo u) (ssSl u) (ssFa u))))) ++ [(o, lo1 g (vp_updL f 0 (lI z)))]) 10 19 hC dL_reach_9 rfl rfl (by decide) (by decide) rfl ?_
  refine z_goto 17 hC dL_reach_10 (by decide) ?_
  refine z_iconst 18 hC dL_reach_17 rfl ?_
  exact hret (some (u, z)) dL_reach_18 ⟨rfl, hz⟩
set_option maxHeartbeats 4000000 in
set_option maxRecDepth 100000 in
theorem h_foresee (l : Launch) (hlf : l.stackTraces = false) (D : va_G) (g : Nat → ClassId) (x : Nat) (b : Nat → Nat) (h h2 : Nat) (a a2 : Nat → Nat) (td bu sr lg : Int → Int) (tm hr en : Int) (S T : SS) (n : Int) (k : Int) (v : Int) (hI : LI td bu sr lg tm hr S) (hn : -2147483648 ≤ n ∧ n ≤ 2147483647) (hk : -2147483648 ≤ k ∧ k ≤ 2147483647) (hv : -2147483648 ≤ v ∧ v ≤ 2147483647) (o : Nat) (f : Nat → Int64) : ZHi (S := Option (SS × Int)) l yL_foresee wsL_foresee ({ frames := 8, cells := 3, slots := 18, locals := 314 }) D g [.ref x, .int (iI n), .int (iI k), .int (iI v), .ref o] (((wLe g x b h h2 td bu sr lg tm hr en) ++ ((wSh g h a (ssS S) (ssF S) (ssW S) (ssO S) (ssP S) (ssT S) (ssLo S) (ssSl S) (ssFa S)) ++ ((wSh g h2 a2 (ssS T) (ssF T) (ssW T) (ssO T) (ssP T) (ssT T) (ssLo T) (ssSl T) (ssFa T))))) ++ [(o, lo1 g f)]) (fun k9 u9 => match u9 with | none => k9 = ((if ¬ (1 ≤ n ∧ n ≤ 48) then 1 else if ¬ (0 ≤ k ∧ k < tm ∧ 0 ≤ v ∧ v < 3) then 2 else 0 : Int)) ∧ ((if ¬ (1 ≤ n ∧ n ≤ 48) then 1 else if ¬ (0 ≤ k ∧ k < tm ∧ 0 ≤ v ∧ v < 3) then 2 else 0 : Int)) ≠ 0 | some q => k9 = 0 ∧ (fun z _ => ((if ¬ (1 ≤ n ∧ n ≤ 48) then 1 else if ¬ (0 ≤ k ∧ k < tm ∧ 0 ≤ v ∧ v < 3) then 2 else 0 : Int)) = 0 ∧ z = (if v = 0 then ssT (hrs td hr S n) k - ssT S k else if v = 1 then cntS (ssO (hrs td hr S n)) k else asum (ssS (hrs td hr S n)) k)) q.2 q.1) (fun u9 => zO u9 (((wLe g x b h h2 td bu sr lg tm hr en) ++ ((wSh g h a (ssS S) (ssF S) (ssW S) (ssO S) (ssP S) (ssT S) (ssLo S) (ssSl S) (ssFa S)) ++ ((wSh g h2 a2 (ssS T) (ssF T) (ssW T) (ssO T) (ssP T) (ssT T) (ssLo T) (ssSl T) (ssFa T))))) ++ [(o, lo1 g f)]) (fun q => ((wLe g x b h h2 td bu sr lg tm hr en) ++ ((wSh g h a (ssS S) (ssF S) (ssW S) (ssO S) (ssP S) (ssT S) (ssLo S) (ssSl S) (ssFa S)) ++ ((wSh g h2 a2 (ssS q.1) (ssF q.1) (ssW q.1) (ssO q.1) (ssP q.1) (ssT q.1) (ssLo q.1) (ssSl q.1) (ssFa q.1))))) ++ [(o, lo1 g (vp_updL f 0 (lI q.2)))])) 3 18 := by
  refine ZHi.of (own := RL) cL_foresee 6 [(0, .ref x), (1, .int (iI n)), (2, .int (iI k)), (3, .int (iI v)), (4, .ref o)] (by decide +kernel) rfl (nle rfl) rfl rfl ?_
  intro E hC hN hX hH hret
  refine z_aload 2 hC 4 dL_foresee_0 rfl rfl ?_
  refine z_iconst 3 hC dL_foresee_2 rfl ?_
  refine z_aloadn 4 hC 0 dL_foresee_3 rfl rfl rfl ?_
  refine z_iloadn 5 hC 1 dL_foresee_4 rfl rfl rfl ?_
  refine z_iloadn 6 hC 2 dL_foresee_5 rfl rfl rfl ?_
  refine z_iloadn 7 hC 3 dL_foresee_6 rfl rfl rfl ?_
  have kx : ZThr E (((wLe g x b h h2 td bu sr lg tm hr en) ++ ((wSh g h a (ssS S) (ssF S) (ssW S) (ssO S) (ssP S) (ssT S) (ssLo S) (ssSl S) (ssFa S)) ++ ((wSh g h2 a2 (ssS T) (ssF T) (ssW T) (ssO T) (ssP T) (ssT T) (ssLo T) (ssSl T) (ssFa T))))) ++ [(o, lo1 g f)]) [(0, .ref x), (1, .int (iI n)), (2, .int (iI k)), (3, .int (iI v)), (4, .ref o)] 3 18 7 [.int (iI 0), .ref o] (fun Ex => xAI (if ¬ (1 ≤ n ∧ n ≤ 48) then 1 else if ¬ (0 ≤ k ∧ k < tm ∧ 0 ≤ v ∧ v < 3) then 2 else 0 : Int) Ex) := by
    refine ZThr.by (fun Ex h => ?_)
    obtain ⟨h1, rfl⟩ | ⟨h1, rfl⟩ := h
    · refine z_catch (Ex := zXa) hC hN hH [] (0, 12, 15, 21) [(0, 12, 19, 19)] rfl (fun _ h => absurd h List.not_mem_nil) (by decide) (by decide) (by decide +kernel) (by decide +kernel) (fun q9 => ?_)
      refine z_astore (lv' := [(5, .ref q9), (0, .ref x), (1, .int (iI n)), (2, .int (iI k)), (3, .int (iI v)), (4, .ref o)]) 17 hC dL_foresee_15 rfl (by decide) rfl ?_
      refine z_iconst 18 hC dL_foresee_17 rfl ?_
      exact hret none dL_foresee_18 ⟨h1.symm, fun h9 => absurd (h1.symm.trans h9) (by decide)⟩
    · refine z_catch (Ex := zXi) hC hN hH [(0, 12, 15, 21)] (0, 12, 19, 19) [] rfl (List.forall_mem_cons.mpr ⟨⟨by decide, zXa, by decide +kernel, by decide +kernel⟩, fun _ h => absurd h List.not_mem_nil⟩) (by decide) (by decide) (by decide +kernel) (by decide +kernel) (fun q9 => ?_)
      refine z_astore (lv' := [(5, .ref q9), (0, .ref x), (1, .int (iI n)), (2, .int (iI k)), (3, .int (iI v)), (4, .ref o)]) 21 hC dL_foresee_19 rfl (by decide) rfl ?_
      refine z_iconst 22 hC dL_foresee_21 rfl ?_
      exact hret none dL_foresee_22 ⟨h1.symm, fun h9 => absurd (h1.symm.trans h9) (by decide)⟩
  refine z_callXi (wr := [(o, lo1 g f)]) (w2 := fun u => ((wLe g x b h h2 td bu sr lg tm hr en) ++ ((wSh g h a (ssS S) (ssF S) (ssW S) (ssO S) (ssP S) (ssT S) (ssLo S) (ssSl S) (ssFa S)) ++ ((wSh g h2 a2 (ssS u) (ssF u) (ssW u) (ssO u) (ssP u) (ssT u) (ssLo u) (ssSl u) (ssFa u))))) ++ [(o, lo1 g f)]) 10 hC [0, 1, 2, 3, 4, 5, 6, 7, 8, 9, 10, 11, 12, 13, 14, 15, 16, 17, 18] [19] [1, 2, 3, 4, 5, 6, 7, 8, 9, 10, 11, 12, 13, 14, 15, 16, 17, 18, 19, 0] [1, 2, 3, 4, 5, 6, 7, 8, 9, 10, 11, 12, 13, 14, 15, 16, 17, 18, 19, 0] (z_runXV (nA := 3) hC hN hX (c_X1_foresee l hlf D g x b h h2 a a2 td bu sr lg tm hr en S T n k v hI hn hk hv) [0, 1, 2, 3, 4, 5, 6, 7, 8, 9, 10, 11, 12, 13, 14, 15, 16, 17, 18] rfl (by decide) gL_foresee_X1_foresee (by decide +kernel) rfl rfl rfl ⟨by decide, by decide⟩ rfl rfl (nle rfl) dL_foresee_7 ⟨by decide, by decide⟩ 0 rfl rfl) rfl rfl (by decide) (by decide) rfl (by decide) (fun _ => rfl) (by decide) rfl (k2 := 3) (n2 := 18) rfl rfl kx (fun z u hz => ?_)
  refine z_i2l 11 hC dL_foresee_10 rfl ?_
  refine z_last (ws' := ((wLe g x b h h2 td bu sr lg tm hr en) ++ ((wSh g h a (ssS S) (ssF S) (ssW S) (ssO S) (ssP S) (ssT S) (ssLo S) (ssSl S) (ssFa S)) ++ ((wSh g h2 a2 (ssS u) (ssF u) (ssW u) (ssO u) (ssP u) (ssT u) (ssLo u) (ssSl u) (ssFa u))))) ++ [(o, lo1 g (vp_updL f 0 (lI z)))]) 12 19 hC dL_foresee_11 rfl rfl (by decide) (by decide) rfl ?_
  refine z_goto 23 hC dL_foresee_12 (by decide) ?_
  refine z_iconst 24 hC dL_foresee_23 rfl ?_
  exact hret (some (u, z)) dL_foresee_24 ⟨rfl, hz⟩
set_option maxHeartbeats 4000000 in
set_option maxRecDepth 100000 in
theorem h_advise (l : Launch) (hlf : l.stackTraces = false) (D : va_G) (g : Nat → ClassId) (x : Nat) (b : Nat → Nat) (h h2 : Nat) (a a2 : Nat → Nat) (td bu sr lg : Int → Int) (tm hr en : Int) (S T : SS) (k : Int) (n : Int) (hI : LI td bu sr lg tm hr S) (hk : -2147483648 ≤ k ∧ k ≤ 2147483647) (hn : -2147483648 ≤ n ∧ n ≤ 2147483647) (o : Nat) (f : Nat → Int64) : ZHi (S := Option (SS × Int)) l yL_advise wsL_advise ({ frames := 8, cells := 2, slots := 12, locals := 326 }) D g [.ref x, .int (iI k), .int (iI n), .ref o] (((wLe g x b h h2 td bu sr lg tm hr en) ++ ((wSh g h a (ssS S) (ssF S) (ssW S) (ssO S) (ssP S) (ssT S) (ssLo S) (ssSl S) (ssFa S)) ++ ((wSh g h2 a2 (ssS T) (ssF T) (ssW T) (ssO T) (ssP T) (ssT T) (ssLo T) (ssSl T) (ssFa T))))) ++ [(o, lo1 g f)]) (fun k9 u9 => match u9 with | none => k9 = ((if ¬ (0 ≤ k ∧ k < tm) then 1 else if ¬ (1 ≤ n ∧ n ≤ 12) then 2 else 0 : Int)) ∧ ((if ¬ (0 ≤ k ∧ k < tm) then 1 else if ¬ (1 ≤ n ∧ n ≤ 12) then 2 else 0 : Int)) ≠ 0 | some q => k9 = 0 ∧ (fun z _ => ((if ¬ (0 ≤ k ∧ k < tm) then 1 else if ¬ (1 ≤ n ∧ n ≤ 12) then 2 else 0 : Int)) = 0 ∧ z = (avB S (ssT (hrs td hr (avS S k) n)) k 120).1) q.2 q.1) (fun u9 => zO u9 (((wLe g x b h h2 td bu sr lg tm hr en) ++ ((wSh g h a (ssS S) (ssF S) (ssW S) (ssO S) (ssP S) (ssT S) (ssLo S) (ssSl S) (ssFa S)) ++ ((wSh g h2 a2 (ssS T) (ssF T) (ssW T) (ssO T) (ssP T) (ssT T) (ssLo T) (ssSl T) (ssFa T))))) ++ [(o, lo1 g f)]) (fun q => ((wLe g x b h h2 td bu sr lg tm hr en) ++ ((wSh g h a (ssS S) (ssF S) (ssW S) (ssO S) (ssP S) (ssT S) (ssLo S) (ssSl S) (ssFa S)) ++ ((wSh g h2 a2 (ssS q.1) (ssF q.1) (ssW q.1) (ssO q.1) (ssP q.1) (ssT q.1) (ssLo q.1) (ssSl q.1) (ssFa q.1))))) ++ [(o, lo1 g (vp_updL f 0 (lI q.2)))])) 2 12 := by
  refine ZHi.of (own := RL) cL_advise 5 [(0, .ref x), (1, .int (iI k)), (2, .int (iI n)), (3, .ref o)] (by decide +kernel) rfl (nle rfl) rfl rfl ?_
  intro E hC hN hX hH hret
  refine z_aloadn 1 hC 3 dL_advise_0 rfl rfl rfl ?_
  refine z_iconst 2 hC dL_advise_1 rfl ?_
  refine z_aloadn 3 hC 0 dL_advise_2 rfl rfl rfl ?_
  refine z_iloadn 4 hC 1 dL_advise_3 rfl rfl rfl ?_
  refine z_iloadn 5 hC 2 dL_advise_4 rfl rfl rfl ?_
  have kx : ZThr E (((wLe g x b h h2 td bu sr lg tm hr en) ++ ((wSh g h a (ssS S) (ssF S) (ssW S) (ssO S) (ssP S) (ssT S) (ssLo S) (ssSl S) (ssFa S)) ++ ((wSh g h2 a2 (ssS T) (ssF T) (ssW T) (ssO T) (ssP T) (ssT T) (ssLo T) (ssSl T) (ssFa T))))) ++ [(o, lo1 g f)]) [(0, .ref x), (1, .int (iI k)), (2, .int (iI n)), (3, .ref o)] 2 12 5 [.int (iI 0), .ref o] (fun Ex => xIAS (if ¬ (0 ≤ k ∧ k < tm) then 1 else if ¬ (1 ≤ n ∧ n ≤ 12) then 2 else 0 : Int) Ex) := by
    refine ZThr.by (fun Ex h => ?_)
    obtain ⟨h1, rfl⟩ | ⟨h1, rfl⟩ | ⟨h1, rfl⟩ := h
    · refine z_catch (Ex := zXi) hC hN hH [] (0, 10, 13, 19) [(0, 10, 17, 21)] rfl (fun _ h => absurd h List.not_mem_nil) (by decide) (by decide) (by decide +kernel) (by decide +kernel) (fun q9 => ?_)
      refine z_astore (lv' := [(4, .ref q9), (0, .ref x), (1, .int (iI k)), (2, .int (iI n)), (3, .ref o)]) 15 hC dL_advise_13 rfl (by decide) rfl ?_
      refine z_iconst 16 hC dL_advise_15 rfl ?_
      exact hret none dL_advise_16 ⟨h1.symm, fun h9 => absurd (h1.symm.trans h9) (by decide)⟩
    · refine z_catch (Ex := zXa) hC hN hH [(0, 10, 13, 19)] (0, 10, 17, 21) [] rfl (List.forall_mem_cons.mpr ⟨⟨by decide, zXi, by decide +kernel, by decide +kernel⟩, fun _ h => absurd h List.not_mem_nil⟩) (by decide) (by decide) (by decide +kernel) (by decide +kernel) (fun q9 => ?_)
      refine z_astore (lv' := [(4, .ref q9), (0, .ref x), (1, .int (iI k)), (2, .int (iI n)), (3, .ref o)]) 19 hC dL_advise_17 rfl (by decide) rfl ?_
      refine z_iconst 20 hC dL_advise_19 rfl ?_
      exact hret none dL_advise_20 ⟨h1.symm, fun h9 => absurd (h1.symm.trans h9) (by decide)⟩
    · exfalso; first | omega | (split at h1 <;> omega)
  refine z_callXi (wr := [(o, lo1 g f)]) (w2 := fun u => ((wLe g x b h h2 td bu sr lg tm hr en) ++ ((wSh g h a (ssS S) (ssF S) (ssW S) (ssO S) (ssP S) (ssT S) (ssLo S) (ssSl S) (ssFa S)) ++ ((wSh g h2 a2 (ssS u) (ssF u) (ssW u) (ssO u) (ssP u) (ssT u) (ssLo u) (ssSl u) (ssFa u))))) ++ [(o, lo1 g f)]) 8 hC [0, 1, 2, 3, 4, 5, 6, 7, 8, 9, 10, 11, 12, 13, 14, 15, 16, 17, 18] [19] [1, 2, 3, 4, 5, 6, 7, 8, 9, 10, 11, 12, 13, 14, 15, 16, 17, 18, 19, 0] [1, 2, 3, 4, 5, 6, 7, 8, 9, 10, 11, 12, 13, 14, 15, 16, 17, 18, 19, 0] (z_runXV (nA := 2) hC hN hX (c_X1_advise l hlf D g x b h h2 a a2 td bu sr lg tm hr en S T k n hI hk hn) [0, 1, 2, 3, 4, 5, 6, 7, 8, 9, 10, 11, 12, 13, 14, 15, 16, 17, 18] rfl (by decide) gL_advise_X1_advise (by decide +kernel) rfl rfl rfl ⟨by decide, by decide⟩ rfl rfl (nle rfl) dL_advise_5 ⟨by decide, by decide⟩ 0 rfl rfl) rfl rfl (by decide) (by decide) rfl (by decide) (fun _ => rfl) (by decide) rfl (k2 := 2) (n2 := 12) rfl rfl kx (fun z u hz => ?_)
  refine z_i2l 9 hC dL_advise_8 rfl ?_
  refine z_last (ws' := ((wLe g x b h h2 td bu sr lg tm hr en) ++ ((wSh g h a (ssS S) (ssF S) (ssW S) (ssO S) (ssP S) (ssT S) (ssLo S) (ssSl S) (ssFa S)) ++ ((wSh g h2 a2 (ssS u) (ssF u) (ssW u) (ssO u) (ssP u) (ssT u) (ssLo u) (ssSl u) (ssFa u))))) ++ [(o, lo1 g (vp_updL f 0 (lI z)))]) 10 19 hC dL_advise_9 rfl rfl (by decide) (by decide) rfl ?_
  refine z_goto 21 hC dL_advise_10 (by decide) ?_
  refine z_iconst 22 hC dL_advise_21 rfl ?_
  exact hret (some (u, z)) dL_advise_22 ⟨rfl, hz⟩
