set_option maxHeartbeats 4000000 in
set_option maxRecDepth 100000 in
theorem c_X2_kept (l : Launch) (D : va_G) (g : Nat → ClassId) (m : Nat) (b : Nat → Nat) (th hr tm en lo sl fa : Int) (s f w k q td ov : Int → Int) : ZMr (S := (Nat → Nat)) l yX2_kept wsX2_kept ({ frames := 3, cells := 7, slots := 506, locals := 120 }) D g [.ref m] (wMo g m b th hr tm en lo sl fa s f w k q td ov) (fun _ => True) (fun u a => (wMo g m b th hr tm en lo sl fa s f w k q td ov) ++ (([(a, .inl (g 3, 6, .inr (.inr (.inr (.inr (va_up (va_up (va_up (va_up (va_up (va_up (fun _ => none) 0 (some (u 0))) 1 (some (u 1))) 2 (some (u 2))) 3 (some (u 3))) 4 (some (u 4))) 5 (some (u 5))))))))]) ++ (([((u 0), ar g 120 s)]) ++ (([((u 1), ar g 120 f)]) ++ (([((u 2), ar g 120 w)]) ++ (([((u 3), ar g 120 k)]) ++ (([((u 4), ar g 16 q)]) ++ (([((u 5), ar g 4 (up (up (up (up (fun _ => 0) 0 hr) 1 lo) 2 sl) 3 fa))]))))))))) 7 506 := by
  have hinX2 : ∀ w ∈ u_ws RX2 TX2 14, w ∈ wsX2_kept := by decide +kernel
  have L9 : Cond.fieldLink RX2 9 "SandcastleLeagueModel" "sand" "[I" ∈ wsX2_kept := by decide +kernel
  have L13 : Cond.fieldLink RX2 13 "SandcastleLeagueModel" "firm" "[I" ∈ wsX2_kept := by decide +kernel
  have L16 : Cond.fieldLink RX2 16 "SandcastleLeagueModel" "water" "[I" ∈ wsX2_kept := by decide +kernel
  have L19 : Cond.fieldLink RX2 19 "SandcastleLeagueModel" "sticks" "[I" ∈ wsX2_kept := by decide +kernel
  have L22 : Cond.fieldLink RX2 22 "SandcastleLeagueModel" "table" "[I" ∈ wsX2_kept := by decide +kernel
  have L92 : Cond.fieldLink RX2 92 "SandcastleLeagueModel" "hour" "I" ∈ wsX2_kept := by decide +kernel
  have L95 : Cond.fieldLink RX2 95 "SandcastleLeagueModel" "lost" "I" ∈ wsX2_kept := by decide +kernel
  have L98 : Cond.fieldLink RX2 98 "SandcastleLeagueModel" "slides" "I" ∈ wsX2_kept := by decide +kernel
  have L101 : Cond.fieldLink RX2 101 "SandcastleLeagueModel" "fallen" "I" ∈ wsX2_kept := by decide +kernel
  refine ZMr.of (own := RX2) cX2_kept 1 [(0, .ref m)] (by decide +kernel) rfl (nle rfl) rfl rfl ?_
  intro E hC hN hret
  refine z_bipush 2 hC dX2_kept_0 (by decide) rfl ?_
  refine z_anewA (ws' := fun x_1 => (wMo g m b th hr tm en lo sl fa s f w k q td ov) ++ (([(x_1, .inl (g 3, 6, .inr (.inr (.inr (.inr (fun _ => none))))))]))) (k2 := 1) (n2 := 6) 5 hC hN (by decide +kernel) (by decide) (nle rfl) (by decide) dX2_kept_2 rfl rfl rfl (fun _ => rfl) (fun x_1 => ?_)
  refine z_dup 6 hC dX2_kept_5 rfl rfl ?_
  refine z_iconst 7 hC dX2_kept_6 rfl ?_
  refine z_aloadn 8 hC 0 dX2_kept_7 rfl rfl rfl ?_
  refine z_get 11 0 7 hC hinX2 L9 dX2_kept_8 rfl rfl rfl (by decide) rfl ?_
  refine z_clone (ws' := fun x_2 => (wMo g m b th hr tm en lo sl fa s f w k q td ov) ++ (([(x_1, .inl (g 3, 6, .inr (.inr (.inr (.inr (fun _ => none))))))]) ++ (([(x_2, ar g 120 s)])))) (k2 := 2) (n2 := 126) 14 1 hC hN (by decide +kernel) (by decide +kernel) (by decide +kernel) (by decide +kernel) (by decide +kernel) rfl (by decide) (nle rfl) (by decide) (by decide) dX2_kept_11 rfl rfl rfl (fun _ => rfl) (fun x_2 => ?_)
  refine z_castA 17 9 hC (by decide +kernel) rfl dX2_kept_14 rfl ?_
  refine z_astA (ws' := (wMo g m b th hr tm en lo sl fa s f w k q td ov) ++ (([(x_1, .inl (g 3, 6, .inr (.inr (.inr (.inr (va_up (fun _ => none) 0 (some x_2)))))))]) ++ (([(x_2, ar g 120 s)])))) 18 8 9 hC hN rfl rfl (by decide) (by omega) dX2_kept_17 rfl rfl ?_
  refine z_dup 19 hC dX2_kept_18 rfl rfl ?_
  refine z_iconst 20 hC dX2_kept_19 rfl ?_
  refine z_aloadn 21 hC 0 dX2_kept_20 rfl rfl rfl ?_
  refine z_get 24 0 8 hC hinX2 L13 dX2_kept_21 rfl rfl rfl (by decide) rfl ?_
  refine z_clone (ws' := fun x_3 => (wMo g m b th hr tm en lo sl fa s f w k q td ov) ++ (([(x_1, .inl (g 3, 6, .inr (.inr (.inr (.inr (va_up (fun _ => none) 0 (some x_2)))))))]) ++ (([(x_2, ar g 120 s)]) ++ (([(x_3, ar g 120 f)]))))) (k2 := 3) (n2 := 246) 27 2 hC hN (by decide +kernel) (by decide +kernel) (by decide +kernel) (by decide +kernel) (by decide +kernel) rfl (by decide) (nle rfl) (by decide) (by decide) dX2_kept_24 rfl rfl rfl (fun _ => rfl) (fun x_3 => ?_)
  refine z_castA 30 10 hC (by decide +kernel) rfl dX2_kept_27 rfl ?_
  refine z_astA (ws' := (wMo g m b th hr tm en lo sl fa s f w k q td ov) ++ (([(x_1, .inl (g 3, 6, .inr (.inr (.inr (.inr (va_up (va_up (fun _ => none) 0 (some x_2)) 1 (some x_3)))))))]) ++ (([(x_2, ar g 120 s)]) ++ (([(x_3, ar g 120 f)]))))) 31 8 10 hC hN rfl rfl (by decide) (by omega) dX2_kept_30 rfl rfl ?_
  refine z_dup 32 hC dX2_kept_31 rfl rfl ?_
  refine z_iconst 33 hC dX2_kept_32 rfl ?_
  refine z_aloadn 34 hC 0 dX2_kept_33 rfl rfl rfl ?_
  refine z_get 37 0 9 hC hinX2 L16 dX2_kept_34 rfl rfl rfl (by decide) rfl ?_
  refine z_clone (ws' := fun x_4 => (wMo g m b th hr tm en lo sl fa s f w k q td ov) ++ (([(x_1, .inl (g 3, 6, .inr (.inr (.inr (.inr (va_up (va_up (fun _ => none) 0 (some x_2)) 1 (some x_3)))))))]) ++ (([(x_2, ar g 120 s)]) ++ (([(x_3, ar g 120 f)]) ++ (([(x_4, ar g 120 w)])))))) (k2 := 4) (n2 := 366) 40 3 hC hN (by decide +kernel) (by decide +kernel) (by decide +kernel) (by decide +kernel) (by decide +kernel) rfl (by decide) (nle rfl) (by decide) (by decide) dX2_kept_37 rfl rfl rfl (fun _ => rfl) (fun x_4 => ?_)
  refine z_castA 43 11 hC (by decide +kernel) rfl dX2_kept_40 rfl ?_
  refine z_astA (ws' := (wMo g m b th hr tm en lo sl fa s f w k q td ov) ++ (([(x_1, .inl (g 3, 6, .inr (.inr (.inr (.inr (va_up (va_up (va_up (fun _ => none) 0 (some x_2)) 1 (some x_3)) 2 (some x_4)))))))]) ++ (([(x_2, ar g 120 s)]) ++ (([(x_3, ar g 120 f)]) ++ (([(x_4, ar g 120 w)])))))) 44 8 11 hC hN rfl rfl (by decide) (by omega) dX2_kept_43 rfl rfl ?_
  refine z_dup 45 hC dX2_kept_44 rfl rfl ?_
  refine z_iconst 46 hC dX2_kept_45 rfl ?_
  refine z_aloadn 47 hC 0 dX2_kept_46 rfl rfl rfl ?_
  refine z_get 50 0 10 hC hinX2 L19 dX2_kept_47 rfl rfl rfl (by decide) rfl ?_
  refine z_clone (ws' := fun x_5 => (wMo g m b th hr tm en lo sl fa s f w k q td ov) ++ (([(x_1, .inl (g 3, 6, .inr (.inr (.inr (.inr (va_up (va_up (va_up (fun _ => none) 0 (some x_2)) 1 (some x_3)) 2 (some x_4)))))))]) ++ (([(x_2, ar g 120 s)]) ++ (([(x_3, ar g 120 f)]) ++ (([(x_4, ar g 120 w)]) ++ (([(x_5, ar g 120 k)]))))))) (k2 := 5) (n2 := 486) 53 4 hC hN (by decide +kernel) (by decide +kernel) (by decide +kernel) (by decide +kernel) (by decide +kernel) rfl (by decide) (nle rfl) (by decide) (by decide) dX2_kept_50 rfl rfl rfl (fun _ => rfl) (fun x_5 => ?_)
  refine z_castA 56 12 hC (by decide +kernel) rfl dX2_kept_53 rfl ?_
  refine z_astA (ws' := (wMo g m b th hr tm en lo sl fa s f w k q td ov) ++ (([(x_1, .inl (g 3, 6, .inr (.inr (.inr (.inr (va_up (va_up (va_up (va_up (fun _ => none) 0 (some x_2)) 1 (some x_3)) 2 (some x_4)) 3 (some x_5)))))))]) ++ (([(x_2, ar g 120 s)]) ++ (([(x_3, ar g 120 f)]) ++ (([(x_4, ar g 120 w)]) ++ (([(x_5, ar g 120 k)]))))))) 57 8 12 hC hN rfl rfl (by decide) (by omega) dX2_kept_56 rfl rfl ?_
  refine z_dup 58 hC dX2_kept_57 rfl rfl ?_
  refine z_iconst 59 hC dX2_kept_58 rfl ?_
  refine z_aloadn 60 hC 0 dX2_kept_59 rfl rfl rfl ?_
  refine z_get 63 0 11 hC hinX2 L22 dX2_kept_60 rfl rfl rfl (by decide) rfl ?_
  refine z_clone (ws' := fun x_6 => (wMo g m b th hr tm en lo sl fa s f w k q td ov) ++ (([(x_1, .inl (g 3, 6, .inr (.inr (.inr (.inr (va_up (va_up (va_up (va_up (fun _ => none) 0 (some x_2)) 1 (some x_3)) 2 (some x_4)) 3 (some x_5)))))))]) ++ (([(x_2, ar g 120 s)]) ++ (([(x_3, ar g 120 f)]) ++ (([(x_4, ar g 120 w)]) ++ (([(x_5, ar g 120 k)]) ++ (([(x_6, ar g 16 q)])))))))) (k2 := 6) (n2 := 502) 66 5 hC hN (by decide +kernel) (by decide +kernel) (by decide +kernel) (by decide +kernel) (by decide +kernel) rfl (by decide) (nle rfl) (by decide) (by decide) dX2_kept_63 rfl rfl rfl (fun _ => rfl) (fun x_6 => ?_)
  refine z_castA 69 13 hC (by decide +kernel) rfl dX2_kept_66 rfl ?_
  refine z_astA (ws' := (wMo g m b th hr tm en lo sl fa s f w k q td ov) ++ (([(x_1, .inl (g 3, 6, .inr (.inr (.inr (.inr (va_up (va_up (va_up (va_up (va_up (fun _ => none) 0 (some x_2)) 1 (some x_3)) 2 (some x_4)) 3 (some x_5)) 4 (some x_6)))))))]) ++ (([(x_2, ar g 120 s)]) ++ (([(x_3, ar g 120 f)]) ++ (([(x_4, ar g 120 w)]) ++ (([(x_5, ar g 120 k)]) ++ (([(x_6, ar g 16 q)])))))))) 70 8 13 hC hN rfl rfl (by decide) (by omega) dX2_kept_69 rfl rfl ?_
  refine z_dup 71 hC dX2_kept_70 rfl rfl ?_
  refine z_iconst 72 hC dX2_kept_71 rfl ?_
  refine z_iconst 73 hC dX2_kept_72 rfl ?_
  refine z_newi (ws' := fun x_7 => (wMo g m b th hr tm en lo sl fa s f w k q td ov) ++ (([(x_1, .inl (g 3, 6, .inr (.inr (.inr (.inr (va_up (va_up (va_up (va_up (va_up (fun _ => none) 0 (some x_2)) 1 (some x_3)) 2 (some x_4)) 3 (some x_5)) 4 (some x_6)))))))]) ++ (([(x_2, ar g 120 s)]) ++ (([(x_3, ar g 120 f)]) ++ (([(x_4, ar g 120 w)]) ++ (([(x_5, ar g 120 k)]) ++ (([(x_6, ar g 16 q)]) ++ (([(x_7, ar g 4 (fun _ => 0))]))))))))) (k2 := 7) (n2 := 506) 75 hC (by decide +kernel) (by decide) (nle rfl) (by decide) (by decide) dX2_kept_73 rfl rfl rfl (fun _ => rfl) (fun x_7 => ?_)
  refine z_dup 76 hC dX2_kept_75 rfl rfl ?_
  refine z_iconst 77 hC dX2_kept_76 rfl ?_
  refine z_aloadn 78 hC 0 dX2_kept_77 rfl rfl rfl ?_
  refine z_get 81 0 1 hC hinX2 L92 dX2_kept_78 rfl rfl rfl (by decide) rfl ?_
  refine z_iast (ws' := (wMo g m b th hr tm en lo sl fa s f w k q td ov) ++ (([(x_1, .inl (g 3, 6, .inr (.inr (.inr (.inr (va_up (va_up (va_up (va_up (va_up (fun _ => none) 0 (some x_2)) 1 (some x_3)) 2 (some x_4)) 3 (some x_5)) 4 (some x_6)))))))]) ++ (([(x_2, ar g 120 s)]) ++ (([(x_3, ar g 120 f)]) ++ (([(x_4, ar g 120 w)]) ++ (([(x_5, ar g 120 k)]) ++ (([(x_6, ar g 16 q)]) ++ (([(x_7, ar g 4 (up (fun _ => 0) 0 hr))]))))))))) 82 14 hC dX2_kept_81 rfl rfl (by decide) (by omega) rfl ?_
  refine z_dup 83 hC dX2_kept_82 rfl rfl ?_
  refine z_iconst 84 hC dX2_kept_83 rfl ?_
  refine z_aloadn 85 hC 0 dX2_kept_84 rfl rfl rfl ?_
  refine z_get 88 0 4 hC hinX2 L95 dX2_kept_85 rfl rfl rfl (by decide) rfl ?_
  refine z_iast (ws' := (wMo g m b th hr tm en lo sl fa s f w k q td ov) ++ (([(x_1, .inl (g 3, 6, .inr (.inr (.inr (.inr (va_up (va_up (va_up (va_up (va_up (fun _ => none) 0 (some x_2)) 1 (some x_3)) 2 (some x_4)) 3 (some x_5)) 4 (some x_6)))))))]) ++ (([(x_2, ar g 120 s)]) ++ (([(x_3, ar g 120 f)]) ++ (([(x_4, ar g 120 w)]) ++ (([(x_5, ar g 120 k)]) ++ (([(x_6, ar g 16 q)]) ++ (([(x_7, ar g 4 (up (up (fun _ => 0) 0 hr) 1 lo))]))))))))) 89 14 hC dX2_kept_88 rfl rfl (by decide) (by omega) rfl ?_
  refine z_dup 90 hC dX2_kept_89 rfl rfl ?_
  refine z_iconst 91 hC dX2_kept_90 rfl ?_
  refine z_aloadn 92 hC 0 dX2_kept_91 rfl rfl rfl ?_
  refine z_get 95 0 5 hC hinX2 L98 dX2_kept_92 rfl rfl rfl (by decide) rfl ?_
  refine z_iast (ws' := (wMo g m b th hr tm en lo sl fa s f w k q td ov) ++ (([(x_1, .inl (g 3, 6, .inr (.inr (.inr (.inr (va_up (va_up (va_up (va_up (va_up (fun _ => none) 0 (some x_2)) 1 (some x_3)) 2 (some x_4)) 3 (some x_5)) 4 (some x_6)))))))]) ++ (([(x_2, ar g 120 s)]) ++ (([(x_3, ar g 120 f)]) ++ (([(x_4, ar g 120 w)]) ++ (([(x_5, ar g 120 k)]) ++ (([(x_6, ar g 16 q)]) ++ (([(x_7, ar g 4 (up (up (up (fun _ => 0) 0 hr) 1 lo) 2 sl))]))))))))) 96 14 hC dX2_kept_95 rfl rfl (by decide) (by omega) rfl ?_
  refine z_dup 97 hC dX2_kept_96 rfl rfl ?_
  refine z_iconst 98 hC dX2_kept_97 rfl ?_
  refine z_aloadn 99 hC 0 dX2_kept_98 rfl rfl rfl ?_
  refine z_get 102 0 6 hC hinX2 L101 dX2_kept_99 rfl rfl rfl (by decide) rfl ?_
  refine z_iast (ws' := (wMo g m b th hr tm en lo sl fa s f w k q td ov) ++ (([(x_1, .inl (g 3, 6, .inr (.inr (.inr (.inr (va_up (va_up (va_up (va_up (va_up (fun _ => none) 0 (some x_2)) 1 (some x_3)) 2 (some x_4)) 3 (some x_5)) 4 (some x_6)))))))]) ++ (([(x_2, ar g 120 s)]) ++ (([(x_3, ar g 120 f)]) ++ (([(x_4, ar g 120 w)]) ++ (([(x_5, ar g 120 k)]) ++ (([(x_6, ar g 16 q)]) ++ (([(x_7, ar g 4 (up (up (up (up (fun _ => 0) 0 hr) 1 lo) 2 sl) 3 fa))]))))))))) 103 14 hC dX2_kept_102 rfl rfl (by decide) (by omega) rfl ?_
  refine z_astA (ws' := (wMo g m b th hr tm en lo sl fa s f w k q td ov) ++ (([(x_1, .inl (g 3, 6, .inr (.inr (.inr (.inr (va_up (va_up (va_up (va_up (va_up (va_up (fun _ => none) 0 (some x_2)) 1 (some x_3)) 2 (some x_4)) 3 (some x_5)) 4 (some x_6)) 5 (some x_7)))))))]) ++ (([(x_2, ar g 120 s)]) ++ (([(x_3, ar g 120 f)]) ++ (([(x_4, ar g 120 w)]) ++ (([(x_5, ar g 120 k)]) ++ (([(x_6, ar g 16 q)]) ++ (([(x_7, ar g 4 (up (up (up (up (fun _ => 0) 0 hr) 1 lo) 2 sl) 3 fa))]))))))))) 104 8 14 hC hN rfl rfl (by decide) (by omega) dX2_kept_103 rfl rfl ?_
  exact hret (fun i => ([x_2, x_3, x_4, x_5, x_6, x_7] : List Nat).getD i 0) dX2_kept_104 (by trivial)
set_option maxHeartbeats 4000000 in
set_option maxRecDepth 100000 in
theorem c_X2_bringBack (l : Launch) (D : va_G) (g : Nat → ClassId) (m a : Nat) (b x : Nat → Nat) (th hr tm en lo sl fa : Int) (h4 : Int → Int) : ZMv (S := Unit) l yX2_bringBack wsX2_bringBack ({ frames := 2, cells := 0, slots := 0, locals := 100 }) D g [.ref m, .ref a] (([(m, .inr (2, [.int (iI th), .int (iI hr), .int (iI tm), .int (iI en), .int (iI lo), .int (iI sl), .int (iI fa), .ref (b 0), .ref (b 1), .ref (b 2), .ref (b 3), .ref (b 4), .ref (b 5), .ref (b 6)]))]) ++ (([(a, .inl (g 3, 6, .inr (.inr (.inr (.inr (va_up (va_up (va_up (va_up (va_up (va_up (fun _ => none) 0 (some (x 0))) 1 (some (x 1))) 2 (some (x 2))) 3 (some (x 3))) 4 (some (x 4))) 5 (some (x 5))))))))]) ++ (([((x 5), ar g 4 h4)])))) (fun _ => True) (fun _ => ([(m, .inr (2, [.int (iI th), .int (iI (h4 0)), .int (iI tm), .int (iI en), .int (iI (h4 1)), .int (iI (h4 2)), .int (iI (h4 3)), .ref (x 0), .ref (x 1), .ref (x 2), .ref (x 3), .ref (x 4), .ref (b 5), .ref (b 6)]))]) ++ (([(a, .inl (g 3, 6, .inr (.inr (.inr (.inr (va_up (va_up (va_up (va_up (va_up (va_up (fun _ => none) 0 (some (x 0))) 1 (some (x 1))) 2 (some (x 2))) 3 (some (x 3))) 4 (some (x 4))) 5 (some (x 5))))))))]) ++ (([((x 5), ar g 4 h4)])))) 0 0 := by
  have hinX2 : ∀ w ∈ u_ws RX2 TX2 14, w ∈ wsX2_bringBack := by decide +kernel
  have L9 : Cond.fieldLink RX2 9 "SandcastleLeagueModel" "sand" "[I" ∈ wsX2_bringBack := by decide +kernel
  have L13 : Cond.fieldLink RX2 13 "SandcastleLeagueModel" "firm" "[I" ∈ wsX2_bringBack := by decide +kernel
  have L16 : Cond.fieldLink RX2 16 "SandcastleLeagueModel" "water" "[I" ∈ wsX2_bringBack := by decide +kernel
  have L19 : Cond.fieldLink RX2 19 "SandcastleLeagueModel" "sticks" "[I" ∈ wsX2_bringBack := by decide +kernel
  have L22 : Cond.fieldLink RX2 22 "SandcastleLeagueModel" "table" "[I" ∈ wsX2_bringBack := by decide +kernel
  have L92 : Cond.fieldLink RX2 92 "SandcastleLeagueModel" "hour" "I" ∈ wsX2_bringBack := by decide +kernel
  have L95 : Cond.fieldLink RX2 95 "SandcastleLeagueModel" "lost" "I" ∈ wsX2_bringBack := by decide +kernel
  have L98 : Cond.fieldLink RX2 98 "SandcastleLeagueModel" "slides" "I" ∈ wsX2_bringBack := by decide +kernel
  have L101 : Cond.fieldLink RX2 101 "SandcastleLeagueModel" "fallen" "I" ∈ wsX2_bringBack := by decide +kernel
  refine ZMv.of (ty := .int) (own := RX2) cX2_bringBack 2 [(0, .ref m), (1, .ref a)] (by decide +kernel) rfl (nle rfl) rfl rfl ?_
  intro E hC hN hret
  refine z_aloadn 1 hC 0 dX2_bringBack_0 rfl rfl rfl ?_
  refine z_aloadn 2 hC 1 dX2_bringBack_1 rfl rfl rfl ?_
  refine z_iconst 3 hC dX2_bringBack_2 rfl ?_
  refine z_aldA (b := (x 0)) 4 1 hC rfl (by decide) (by omega) rfl dX2_bringBack_3 rfl ?_
  refine z_putR (ty := .array .int) (ws' := ([(m, .inr (2, [.int (iI th), .int (iI hr), .int (iI tm), .int (iI en), .int (iI lo), .int (iI sl), .int (iI fa), .ref (x 0), .ref (b 1), .ref (b 2), .ref (b 3), .ref (b 4), .ref (b 5), .ref (b 6)]))]) ++ (([(a, .inl (g 3, 6, .inr (.inr (.inr (.inr (va_up (va_up (va_up (va_up (va_up (va_up (fun _ => none) 0 (some (x 0))) 1 (some (x 1))) 2 (some (x 2))) 3 (some (x 3))) 4 (some (x 4))) 5 (some (x 5))))))))]) ++ (([((x 5), ar g 4 h4)])))) 7 0 7 hC tyX2 tyX2_ok nmX2 hinX2 L9 dX2_bringBack_4 rfl rfl rfl (by decide) rfl (by decide +kernel) rfl rfl (nle rfl) rfl ?_
  refine z_aloadn 8 hC 0 dX2_bringBack_7 rfl rfl rfl ?_
  refine z_aloadn 9 hC 1 dX2_bringBack_8 rfl rfl rfl ?_
  refine z_iconst 10 hC dX2_bringBack_9 rfl ?_
  refine z_aldA (b := (x 1)) 11 1 hC rfl (by decide) (by omega) rfl dX2_bringBack_10 rfl ?_
  refine z_putR (ty := .array .int) (ws' := ([(m, .inr (2, [.int (iI th), .int (iI hr), .int (iI tm), .int (iI en), .int (iI lo), .int (iI sl), .int (iI fa), .ref (x 0), .ref (x 1), .ref (b 2), .ref (b 3), .ref (b 4), .ref (b 5), .ref (b 6)]))]) ++ (([(a, .inl (g 3, 6, .inr (.inr (.inr (.inr (va_up (va_up (va_up (va_up (va_up (va_up (fun _ => none) 0 (some (x 0))) 1 (some (x 1))) 2 (some (x 2))) 3 (some (x 3))) 4 (some (x 4))) 5 (some (x 5))))))))]) ++ (([((x 5), ar g 4 h4)])))) 14 0 8 hC tyX2 tyX2_ok nmX2 hinX2 L13 dX2_bringBack_11 rfl rfl rfl (by decide) rfl (by decide +kernel) rfl rfl (nle rfl) rfl ?_
  refine z_aloadn 15 hC 0 dX2_bringBack_14 rfl rfl rfl ?_
  refine z_aloadn 16 hC 1 dX2_bringBack_15 rfl rfl rfl ?_
  refine z_iconst 17 hC dX2_bringBack_16 rfl ?_
  refine z_aldA (b := (x 2)) 18 1 hC rfl (by decide) (by omega) rfl dX2_bringBack_17 rfl ?_
  refine z_putR (ty := .array .int) (ws' := ([(m, .inr (2, [.int (iI th), .int (iI hr), .int (iI tm), .int (iI en), .int (iI lo), .int (iI sl), .int (iI fa), .ref (x 0), .ref (x 1), .ref (x 2), .ref (b 3), .ref (b 4), .ref (b 5), .ref (b 6)]))]) ++ (([(a, .inl (g 3, 6, .inr (.inr (.inr (.inr (va_up (va_up (va_up (va_up (va_up (va_up (fun _ => none) 0 (some (x 0))) 1 (some (x 1))) 2 (some (x 2))) 3 (some (x 3))) 4 (some (x 4))) 5 (some (x 5))))))))]) ++ (([((x 5), ar g 4 h4)])))) 21 0 9 hC tyX2 tyX2_ok nmX2 hinX2 L16 dX2_bringBack_18 rfl rfl rfl (by decide) rfl (by decide +kernel) rfl rfl (nle rfl) rfl ?_
  refine z_aloadn 22 hC 0 dX2_bringBack_21 rfl rfl rfl ?_
  refine z_aloadn 23 hC 1 dX2_bringBack_22 rfl rfl rfl ?_
  refine z_iconst 24 hC dX2_bringBack_23 rfl ?_
  refine z_aldA (b := (x 3)) 25 1 hC rfl (by decide) (by omega) rfl dX2_bringBack_24 rfl ?_
  refine z_putR (ty := .array .int) (ws' := ([(m, .inr (2, [.int (iI th), .int (iI hr), .int (iI tm), .int (iI en), .int (iI lo), .int (iI sl), .int (iI fa), .ref (x 0), .ref (x 1), .ref (x 2), .ref (x 3), .ref (b 4), .ref (b 5), .ref (b 6)]))]) ++ (([(a, .inl (g 3, 6, .inr (.inr (.inr (.inr (va_up (va_up (va_up (va_up (va_up (va_up (fun _ => none) 0 (some (x 0))) 1 (some (x 1))) 2 (some (x 2))) 3 (some (x 3))) 4 (some (x 4))) 5 (some (x 5))))))))]) ++ (([((x 5), ar g 4 h4)])))) 28 0 10 hC tyX2 tyX2_ok nmX2 hinX2 L19 dX2_bringBack_25 rfl rfl rfl (by decide) rfl (by decide +kernel) rfl rfl (nle rfl) rfl ?_
  refine z_aloadn 29 hC 0 dX2_bringBack_28 rfl rfl rfl ?_
  refine z_aloadn 30 hC 1 dX2_bringBack_29 rfl rfl rfl ?_
  refine z_iconst 31 hC dX2_bringBack_30 rfl ?_
  refine z_aldA (b := (x 4)) 32 1 hC rfl (by decide) (by omega) rfl dX2_bringBack_31 rfl ?_
  refine z_putR (ty := .array .int) (ws' := ([(m, .inr (2, [.int (iI th), .int (iI hr), .int (iI tm), .int (iI en), .int (iI lo), .int (iI sl), .int (iI fa), .ref (x 0), .ref (x 1), .ref (x 2), .ref (x 3), .ref (x 4), .ref (b 5), .ref (b 6)]))]) ++ (([(a, .inl (g 3, 6, .inr (.inr (.inr (.inr (va_up (va_up (va_up (va_up (va_up (va_up (fun _ => none) 0 (some (x 0))) 1 (some (x 1))) 2 (some (x 2))) 3 (some (x 3))) 4 (some (x 4))) 5 (some (x 5))))))))]) ++ (([((x 5), ar g 4 h4)])))) 35 0 11 hC tyX2 tyX2_ok nmX2 hinX2 L22 dX2_bringBack_32 rfl rfl rfl (by decide) rfl (by decide +kernel) rfl rfl (nle rfl) rfl ?_
  refine z_aloadn 36 hC 0 dX2_bringBack_35 rfl rfl rfl ?_
  refine z_aloadn 37 hC 1 dX2_bringBack_36 rfl rfl rfl ?_
  refine z_iconst 38 hC dX2_bringBack_37 rfl ?_
  refine z_aldA (b := (x 5)) 39 1 hC rfl (by decide) (by omega) rfl dX2_bringBack_38 rfl ?_
  refine z_iconst 40 hC dX2_bringBack_39 rfl ?_
  refine z_iald 41 2 hC dX2_bringBack_40 rfl rfl (by decide) (by omega) ?_
  refine z_putR (ty := .int) (ws' := ([(m, .inr (2, [.int (iI th), .int (iI (h4 0)), .int (iI tm), .int (iI en), .int (iI lo), .int (iI sl), .int (iI fa), .ref (x 0), .ref (x 1), .ref (x 2), .ref (x 3), .ref (x 4), .ref (b 5), .ref (b 6)]))]) ++ (([(a, .inl (g 3, 6, .inr (.inr (.inr (.inr (va_up (va_up (va_up (va_up (va_up (va_up (fun _ => none) 0 (some (x 0))) 1 (some (x 1))) 2 (some (x 2))) 3 (some (x 3))) 4 (some (x 4))) 5 (some (x 5))))))))]) ++ (([((x 5), ar g 4 h4)])))) 44 0 1 hC tyX2 tyX2_ok nmX2 hinX2 L92 dX2_bringBack_41 rfl rfl rfl (by decide) rfl (by decide +kernel) rfl rfl (nle rfl) rfl ?_
  refine z_aloadn 45 hC 0 dX2_bringBack_44 rfl rfl rfl ?_
  refine z_aloadn 46 hC 1 dX2_bringBack_45 rfl rfl rfl ?_
  refine z_iconst 47 hC dX2_bringBack_46 rfl ?_
  refine z_aldA (b := (x 5)) 48 1 hC rfl (by decide) (by omega) rfl dX2_bringBack_47 rfl ?_
  refine z_iconst 49 hC dX2_bringBack_48 rfl ?_
  refine z_iald 50 2 hC dX2_bringBack_49 rfl rfl (by decide) (by omega) ?_
  refine z_putR (ty := .int) (ws' := ([(m, .inr (2, [.int (iI th), .int (iI (h4 0)), .int (iI tm), .int (iI en), .int (iI (h4 1)), .int (iI sl), .int (iI fa), .ref (x 0), .ref (x 1), .ref (x 2), .ref (x 3), .ref (x 4), .ref (b 5), .ref (b 6)]))]) ++ (([(a, .inl (g 3, 6, .inr (.inr (.inr (.inr (va_up (va_up (va_up (va_up (va_up (va_up (fun _ => none) 0 (some (x 0))) 1 (some (x 1))) 2 (some (x 2))) 3 (some (x 3))) 4 (some (x 4))) 5 (some (x 5))))))))]) ++ (([((x 5), ar g 4 h4)])))) 53 0 4 hC tyX2 tyX2_ok nmX2 hinX2 L95 dX2_bringBack_50 rfl rfl rfl (by decide) rfl (by decide +kernel) rfl rfl (nle rfl) rfl ?_
  refine z_aloadn 54 hC 0 dX2_bringBack_53 rfl rfl rfl ?_
  refine z_aloadn 55 hC 1 dX2_bringBack_54 rfl rfl rfl ?_
  refine z_iconst 56 hC dX2_bringBack_55 rfl ?_
  refine z_aldA (b := (x 5)) 57 1 hC rfl (by decide) (by omega) rfl dX2_bringBack_56 rfl ?_
  refine z_iconst 58 hC dX2_bringBack_57 rfl ?_
  refine z_iald 59 2 hC dX2_bringBack_58 rfl rfl (by decide) (by omega) ?_
  refine z_putR (ty := .int) (ws' := ([(m, .inr (2, [.int (iI th), .int (iI (h4 0)), .int (iI tm), .int (iI en), .int (iI (h4 1)), .int (iI (h4 2)), .int (iI fa), .ref (x 0), .ref (x 1), .ref (x 2), .ref (x 3), .ref (x 4), .ref (b 5), .ref (b 6)]))]) ++ (([(a, .inl (g 3, 6, .inr (.inr (.inr (.inr (va_up (va_up (va_up (va_up (va_up (va_up (fun _ => none) 0 (some (x 0))) 1 (some (x 1))) 2 (some (x 2))) 3 (some (x 3))) 4 (some (x 4))) 5 (some (x 5))))))))]) ++ (([((x 5), ar g 4 h4)])))) 62 0 5 hC tyX2 tyX2_ok nmX2 hinX2 L98 dX2_bringBack_59 rfl rfl rfl (by decide) rfl (by decide +kernel) rfl rfl (nle rfl) rfl ?_
  refine z_aloadn 63 hC 0 dX2_bringBack_62 rfl rfl rfl ?_
  refine z_aloadn 64 hC 1 dX2_bringBack_63 rfl rfl rfl ?_
  refine z_iconst 65 hC dX2_bringBack_64 rfl ?_
  refine z_aldA (b := (x 5)) 66 1 hC rfl (by decide) (by omega) rfl dX2_bringBack_65 rfl ?_
  refine z_iconst 67 hC dX2_bringBack_66 rfl ?_
  refine z_iald 68 2 hC dX2_bringBack_67 rfl rfl (by decide) (by omega) ?_
  refine z_putR (ty := .int) (ws' := ([(m, .inr (2, [.int (iI th), .int (iI (h4 0)), .int (iI tm), .int (iI en), .int (iI (h4 1)), .int (iI (h4 2)), .int (iI (h4 3)), .ref (x 0), .ref (x 1), .ref (x 2), .ref (x 3), .ref (x 4), .ref (b 5), .ref (b 6)]))]) ++ (([(a, .inl (g 3, 6, .inr (.inr (.inr (.inr (va_up (va_up (va_up (va_up (va_up (va_up (fun _ => none) 0 (some (x 0))) 1 (some (x 1))) 2 (some (x 2))) 3 (some (x 3))) 4 (some (x 4))) 5 (some (x 5))))))))]) ++ (([((x 5), ar g 4 h4)])))) 71 0 6 hC tyX2 tyX2_ok nmX2 hinX2 L101 dX2_bringBack_68 rfl rfl rfl (by decide) rfl (by decide +kernel) rfl rfl (nle rfl) rfl ?_
  exact hret () dX2_bringBack_71 (by trivial)
