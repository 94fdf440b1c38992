set_option maxHeartbeats 4000000 in
set_option maxRecDepth 100000 in
theorem c_X2_kept (l : Launch) (D : va_G) (g : Nat → ClassId) (m : Nat) (b : Nat → Nat) (th hr tm en lo sl fa : Int) (s f w k q td ov : Int → Int) : ZMr (S := (Nat → Nat)) l yX2_kept wsX2_kept ({ frames := 3, cells := 7, slots := 506, locals := 120 }) D g [.ref m] (wMo g m b th hr tm en lo sl fa s f w k q td ov) (fun _ => True) (fun u a => (wMo g m b th hr tm en lo sl fa s f w k q td ov) ++ (([(a, .inl (g 3, 6, .inr (.inr (.inr (.inr (va_up (va_up (va_up (va_up (va_up (va_up (fun _ => none) 0 (some (u 0))) 1 (some (u 1))) 2 (some (u 2))) 3 (some (u 3))) 4 (some (u 4))) 5 (some (u 5))))))))]) ++ (([((u 0), ar g 120 s)]) ++ (([((u 1), ar g 120 f)]) ++ (([((u 2), ar g 120 w)]) ++ (([((u 3), ar g 120 k)]) ++ (([((u 4), ar g 16 q)]) ++ (([((u 5), ar g 4 (up (up (up (up (fun _ => 0) 0 hr) 1 lo) 2 sl) 3 fa))]))))))))) 7 506 := by
  have hinX2 : ∀ w ∈ u_ws RX2 TX2 14, w ∈ wsX2_kept := by decide +kernel
  have L9 : Cond.fieldLink RX2 9 "SandcastleLeagueModel" "sand" "[I" ∈ wsX2_kept := by decide +kernel
  have L13 : Cond.fieldLink RX2 13 "SandcastleLeagueModel" "firm" "[I" ∈ wsX2_kept := by decide +kernel
  have L16 : Cond.fieldLink RX2 16 "SandcastleLeagueModel" "water" "[I" ∈ wsX2_kept := by decide +kernel
  have L19 : Cond.fieldLink RX2 19 "SandcastleLeagueModel" "sticks" "[I" ∈ wsX2_kept := by decide +kernel
  have L22 : Cond.fieldLink RX2 22 "SandcastleLeagueModel" "table" "[I" ∈ wsX2_kept := by decide +kernel
  have L92 : Cond.fieldLink RX2 92 "SandcastleLeagueModel" "hour" "I" ∈ wsX2_kept := by decide +kernel
  have L95 : Cond.fieldLink RX2 95 "SandcastleLeagueModel" "lost" "I" ∈ wsX2_kept := by decide +kernel
  have L98 : Cond.fieldLink RX2 98 "SandcastleLeagueModel" "slides" "I" ∈ wsX2_kept := by decide +kernel
  have L101 : Cond.fieldLink RX2 101 "SandcastleLeagueModel" "fallen" "I" ∈ wsX2_kept := by decide +kernel
  refine ZMr.of (own := RX2) cX2_kept 1 [(0, .ref m)] (by decide +kernel) rfl (nle rfl) rfl rfl ?_
  intro E hC hN hret
  refine z_bipush 2 hC dX2_kept_0 (by decide) rfl ?_
  refine z_anewA (ws' := fun x_1 => (wMo g m b th hr tm en lo sl fa s f w k q td ov) ++ (([(x_1, .inl (g 3, 6, .inr (.inr (.inr (.inr (fun _ => none))))))]))) (k2 := 1) (n2 := 6) 5 hC hN (by decide +kernel) (by decide) (nle rfl) (by decide) dX2_kept_2 rfl rfl rfl (fun _ => rfl) (fun x_1 => ?_)
  refine z_dup 6 hC dX2_kept_5 rfl rfl ?_
  refine z_iconst 7 hC dX2_kept_6 rfl ?_
  refine z_aloadn 8 hC 0 dX2_kept_7 rfl rfl rfl ?_
  refine z_get 11 0 7 hC hinX2 L9 dX2_kept_8 rfl rfl rfl (by decide) rfl ?_
  refine z_clone (ws' := fun x_2 => (wMo g m b th hr tm en lo sl fa s f w k q td ov) ++ (([(x_1, .inl (g 3, 6, .inr (.inr (.inr (.inr (fun _ => none))))))]) ++ (([(x_2, ar g 120 s)])))) (k2 := 2) (n2 := 126) 14 1 hC hN (by decide +kernel) (by decide +kernel) (by decide +kernel) (by decide +kernel) (by decide +kernel) rfl (by decide) (nle rfl) (by decide) (by decide) dX2_kept_11 rfl rfl rfl (fun _ => rfl) (fun x_2 => ?_)
  refine z_castA 17 9 hC (by decide +kernel) rfl dX2_kept_14 rfl ?_
  refine z_astA (ws' := (wMo g m b th hr tm en lo sl fa s f w k q td ov) ++ (([(x_1, .inl (g 3, 6, .inr (.inr (.inr (.inr (va_up (fun _ => none) 0 (some x_2)))))))]) ++ (([(x_2, ar g 120 s)])))) 18 8 9 hC hN rfl rfl (by decide) (by omega) dX2_kept_17 rfl rfl ?_
  refine z_dup 19 hC dX2_kept_18 rfl rfl ?_
  refine z_iconst 20 hC dX2_kept_19 rfl ?_
  refine z_aloadn 21 hC 0 dX2_kept_20 rfl rfl rfl ?_
  refine z_get 24 0 8 hC hinX2 L13 dX2_kept_21 rfl rfl rfl (by decide) rfl ?_
  refine z_clone (ws' := fun x_3 => (wMo g m b th hr tm en lo sl fa s f w k q td ov) ++ (([(x_1, .inl (g 3, 6, .inr (.inr (.inr (.inr (va_up (fun _ => none) 0 (some x_2)))))))]) ++ (([(x_2, ar g 120 s)]) ++ (([(x_3, ar g 120 f)]))))) (k2 := 3) (n2 := 246) 27 2 hC hN (by decide +kernel) (by decide +kernel) (by decide +kernel) (by decide +kernel) (by decide +kernel) rfl (by decide) (nle rfl) (by decide) (by decide) dX2_kept_24 rfl rfl rfl (fun _ => rfl) (fun x_3 => ?_)
  refine z_castA 30 10 hC (by decide +kernel) rfl dX2_kept_27 rfl ?_
  refine z_astA (ws' := (wMo g m b th hr tm en lo sl fa s f w k q td ov) ++ (([(x_1, .inl (g 3, 6, .inr (.inr (.inr (.inr (va_up (va_up (fun _ => none) 0 (some x_2)) 1 (some x_3)))))))]) ++ (([(x_2, ar g 120 s)]) ++ (([(x_3, ar g 120 f)]))))) 31 8 10 hC hN rfl rfl (by decide) (by omega) dX2_kept_30 rfl rfl ?_
  refine z_dup 32 hC dX2_kept_31 rfl rfl ?_
  refine z_iconst 33 hC dX2_kept_32 rfl ?_
  refine z_aloadn 34 hC 0 dX2_kept_33 rfl rfl rfl ?_
  refine z_get 37 0 9 hC hinX2 L16 dX2_kept_34 rfl rfl rfl (by decide) rfl ?_
  refine z_clone (ws' := fun x_4 => (wMo g m b th hr tm en lo sl fa s f w k q td ov) ++ (([(x_1, .inl (g 3, 6, .inr (.inr (.inr (.inr (va_up (va_up (fun _ => none) 0 (some x_2)) 1 (some x_3)))))))]) ++ (([(x_2, ar g 120 s)]) ++ (([(x_3, ar g 120 f)]) ++ (([(x_4, ar g 120 w)])))))) (k2 := 4) (n2 := 366) 40 3 hC hN (by decide +kernel) (by decide +kernel) (by decide +kernel) (by decide +kernel) (by decide +kernel) rfl (by decide) (nle rfl) (by decide) (by decide) dX2_kept_37 rfl rfl rfl (fun _ => rfl) (fun x_4 => ?_)
  refine z_castA 43 11 hC (by decide +kernel) rfl dX2_kept_40 rfl ?_
  refine z_astA (ws' := (wMo g m b th hr tm en lo sl fa s f w k q td ov) ++ (([(x_1, .inl (g 3, 6, .inr (.inr (.inr (.inr (va_up (va_up (va_up (fun _ => none) 0 (some x_2)) 1 (some x_3)) 2 (some x_4)))))))]) ++ (([(x_2, ar g 120 s)]) ++ (([(x_3, ar g 120 f)]) ++ (([(x_4, ar g 120 w)])))))) 44 8 11 hC hN rfl rfl (by decide) (by omega) dX2_kept_43 rfl rfl ?_
  refine z_dup 45 hC dX2_kept_44 rfl rfl ?_
  refine z_iconst 46 hC dX2_kept_45 rfl ?_
  refine z_aloadn 47 hC 0 dX2_kept_46 rfl rfl rfl ?_
  refine z_get 50 0 10 hC hinX2 L19 dX2_kept_47 rfl rfl rfl (by decide) rfl ?_
  refine z_clone (ws' := fun x_5 => (wMo g m b th hr tm en lo sl fa s f w k q td ov) ++ (([(x_1, .inl (g 3, 6, .inr (.inr (.inr (.inr (va_up (va_up (va_up (fun _ => none) 0 (some x_2)) 1 (some x_3)) 2 (some x_4)))))))]) ++ (([(x_2, ar g 120 s)]) ++ (([(x_3, ar g 120 f)]) ++ (([(x_4, ar g 120 w)]) ++ (([(x_5, ar g 120 k)]))))))) (k2 := 5) (n2 := 486) 53 4 hC hN (by decide +kernel) (by decide +kernel) (by decide +kernel) (by decide +kernel) (by decide +kernel) rfl (by decide) (nle rfl) (by decide) (by decide) dX2_kept_50 rfl rfl rfl (fun _ => rfl) (fun x_5 => ?_)
  refine z_castA 56 12 hC (by decide +kernel) rfl dX2_kept_53 rfl ?_
  refine z_astA (ws' := (wMo g m b th hr tm en lo sl fa s f w k q td ov) ++ (([(x_1, .inl (g 3, 6, .inr (.inr (.inr (.inr (va_up (va_up (va_up (va_up (fun _ => none) 0 (some x_2)) 1 (some x_3)) 2 (some x_4)) 3 (some x_5)))))))]) ++ (([(x_2, ar g 120 s)]) ++ (([(x_3, ar g 120 f)]) ++ (([(x_4, ar g 120 w)]) ++ (([(x_5, ar g 120 k)]))))))) 57 8 12 hC hN rfl rfl (by decide) (by omega) dX2_kept_56 rfl rfl ?_
  refine z_dup 58 hC dX2_kept_57 rfl rfl ?_
  refine z_iconst 59 hC dX2_kept_58 rfl ?_
  refine z_aloadn 60 hC 0 dX2_kept_59 rfl rfl rfl ?_
  refine z_get 63 0 11 hC hinX2 L22 dX2_kept_60 rfl rfl rfl (by decide) rfl ?_
  refine z_clone (ws' := fun x_6 => (wMo g m b th hr tm en lo sl fa s f w k q td ov) ++ (([(x_1, .inl (g 3, 6, .inr (.inr (.inr (.inr (va_up (va_up (va_up (va_up (fun _ => none) 0 (some x_2)) 1 (some x_3)) 2 (some x_4)) 3 (some x_5)))))))]) ++ (([(x_2, ar g 120 s)]) ++ (([(x_3, ar g 120 f)]) ++ (([(x_4, ar g 120 w)]) ++ (([(x_5, ar g 120 k)]) ++ (([(x_6, ar g 16 q)])))))))) (k2 := 6) (n2 := 502) 66 5 hC hN (by decide +kernel) (by decide +kernel) (by decide +kernel) (by decide +kernel) (by decide +kernel) rfl (by decide) (nle rfl) (by decide) (by decide) dX2_kept_63 rfl rfl rfl (fun _ => rfl) (fun x_6 => ?_)
  refine z_castA 69 13 hC (by decide +kernel) rfl dX2_kept_66 rfl ?_
  refine z_astA (ws' := (wMo g m b th hr tm en lo sl fa s f w k q td ov) ++ (([(x_1, .inl (g 3, 6, .inr (.inr (.inr (.inr (va_up (va_up (va_up (va_up (va_up (fun _ => none) 0 (some x_2)) 1 (some x_3)) 2 (some x_4)) 3 (some x_5)) 4 (some x_6)))))))]) ++ (([(x_2, ar g 120 s)]) ++ (([(x_3, ar g 120 f)]) ++ (([(x_4, ar g 120 w)]) ++ (([(x_5, ar g 120 k)]) ++ (([(x_6, ar g 16 q)])))))))) 70 8 13 hC hN rfl rfl (by decide) (by omega) dX2_kept_69 rfl rfl ?_
  refine z_dup 71 hC dX2_kept_70 rfl rfl ?_
  refine z_iconst 72 hC dX2_kept_71 rfl ?_
  refine z_iconst 73 hC dX2_kept_72 rfl ?_
  refine z_newi (ws' := fun x_7 => (wMo g m b th hr tm en lo sl fa s f w k q td ov) ++ (([(x_1, .inl (g 3, 6, .inr (.inr (.inr (.inr (va_up (va_up (va_up (va_up (va_up (fun _ => none) 0 (some x_2)) 1 (some x_3)) 2 (some x_4)) 3 (some x_5)) 4 (some x_6)))))))]) ++ (([(x_2, ar g 120 s)]) ++ (([(x_3, ar g 120 f)]) ++ (([(x_4, ar g 120 w)]) ++ (([(x_5, ar g 120 k)]) ++ (([(x_6, ar g 16 q)]) ++ (([(x_7, ar g 4 (fun _ => 0))]))))))))) (k2 := 7) (n2 := 506) 75 hC (by decide +kernel) (by decide) (nle rfl) (by decide) (by decide) dX2_kept_73 rfl rfl rfl (fun _ => rfl) (fun x_7 => ?_)
  refine z_dup 76 hC dX2_kept_75 rfl rfl ?_
  refine z_iconst 77 hC dX2_kept_76 rfl ?_
  refine z_aloadn 78 hC 0 dX2_kept_77 rfl rfl rfl ?_
  refine z_get 81 0 1 hC hinX2 L92 dX2_kept_78 rfl rfl rfl (by decide) rfl ?_
  refine z_iast (ws' := (wMo g m b th hr tm en lo sl fa s f w k q td ov) ++ (([(x_1, .inl (g 3, 6, .inr (.inr (.inr (.inr (va_up (va_up (va_up (va_up (va_up (fun _ => none) 0 (some x_2)) 1 (some x_3)) 2 (some x_4)) 3 (some x_5)) 4 (some x_6)))))))]) ++ (([(x_2, ar g 120 s)]) ++ (([(x_3, ar g 120 f)]) ++ (([(x_4, ar g 120 w)]) ++ (([(x_5, ar g 120 k)]) ++ (([(x_6, ar g 16 q)]) ++ (([(x_7, ar g 4 (up (fun _ => 0) 0 hr))]))))))))) 82 14 hC dX2_kept_81 rfl rfl (by decide) (by omega) rfl ?_
  refine z_dup 83 hC dX2_kept_82 rfl rfl ?_
  refine z_iconst 84 hC dX2_kept_83 rfl ?_
  refine z_aloadn 85 hC 0 dX2_kept_84 rfl rfl rfl ?_
  refine z_get 88 0 4 hC hinX2 L95 dX2_kept_85 rfl rfl rfl (by decide) rfl ?_
  refine z_iast (ws' := (wMo g m b th hr tm en lo sl fa s f w k q td ov) ++ (([(x_1, .inl (g 3, 6, .inr (.inr (.inr (.inr (va_up (va_up (va_up (va_up (va_up (fun _ => none) 0 (some x_2)) 1 (some x_3)) 2 (some x_4)) 3 (some x_5)) 4 (some x_6)))))))]) ++ (([(x_2, ar g 120 s)]) ++ (([(x_3, ar g 120 f)]) ++ (([(x_4, ar g 120 w)]) ++ (([(x_5, ar g 120 k)]) ++ (([(x_6, ar g 16 q)]) ++ (([(x_7, ar g 4 (up (up (fun _ => 0) 0 hr) 1 lo))]))))))))) 89 14 hC dX2_kept_88 rfl rfl (by decide) (by omega) rfl ?_
  refine z_dup 90 hC dX2_kept_89 rfl rfl ?_
  refine z_iconst 91 hC dX2_kept_90 rfl ?_
  refine z_aloadn 92 hC 0 dX2_kept_91 rfl rfl rfl ?_
  refine z_get 95 0 5 hC hinX2 L98 dX2_kept_92 rfl rfl rfl (by decide) rfl ?_
  refine z_iast (ws' := (wMo g m b th hr tm en lo sl fa s f w k q td ov) ++ (([(x_1, .inl (g 3, 6, .inr (.inr (.inr (.inr (va_up (va_up (va_up (va_up (va_up (fun _ => none) 0 (some x_2)) 1 (some x_3)) 2 (some x_4)) 3 (some x_5)) 4 (some x_6)))))))]) ++ (([(x_2, ar g 120 s)]) ++ (([(x_3, ar g 120 f)]) ++ (([(x_4, ar g 120 w)]) ++ (([(x_5, ar g 120 k)]) ++ (([(x_6, ar g 16 q)]) ++ (([(x_7, ar g 4 (up (up (up (fun _ => 0) 0 hr) 1 lo) 2 sl))]))))))))) 96 14 hC dX2_kept_95 rfl rfl (by decide) (by omega) rfl ?_
  refine z_dup 97 hC dX2_kept_96 rfl rfl ?_
  refine z_iconst 98 hC dX2_kept_97 rfl ?_
  refine z_aloadn 99 hC 0 dX2_kept_98 rfl rfl rfl ?_
  refine z_get 102 0 6 hC hinX2 L101 dX2_kept_99 rfl rfl rfl (by decide) rfl ?_
  refine z_iast (ws' := (wMo g m b th hr tm en lo sl fa s f w k q td ov) ++ (([(x_1, .inl (g 3, 6, .inr (.inr (.inr (.inr (va_up (va_up (va_up (va_up (va_up (fun _ => none) 0 (some x_2)) 1 (some x_3)) 2 (some x_4)) 3 (some x_5)) 4 (some x_6)))))))]) ++ (([(x_2, ar g 120 s)]) ++ (([(x_3, ar g 120 f)]) ++ (([(x_4, ar g 120 w)]) ++ (([(x_5, ar g 120 k)]) ++ (([(x_6, ar g 16 q)]) ++ (([(x_7, ar g 4 (up (up (up (up (fun _ => 0) 0 hr) 1 lo) 2 sl) 3 fa))]))))))))) 103 14 hC dX2_kept_102 rfl rfl (by decide) (by omega) rfl ?_
  refine z_astA (ws' := (wMo g m b th hr tm en lo sl fa s f w k q td ov) ++ (([(x_1, .inl (g 3, 6, .inr (.inr (.inr (.inr (va_up (va_up (va_up (va_up (va_up (va_up (fun _ => none) 0 (some x_2)) 1 (some x_3)) 2 (some x_4)) 3 (some x_5)) 4 (some x_6)) 5 (some x_7)))))))]) ++ (([(x_2, ar g 120 s)]) ++ (([(x_3, ar g 120 f)]) ++ (([(x_4, ar g 120 w)]) ++ (([(x_5, ar g 120 k)]) ++ (([(x_6, ar g 16 q)]) ++ (([(x_7, ar g 4 (up (up (up (up (fun _ => 0) 0 hr) 1 lo) 2 sl) 3 fa))]))))))))) 104 8 14 hC hN rfl rfl (by decide) (by omega) dX2_kept_103 rfl rfl ?_
  exact hret (fun i => ([x_2, x_3, x_4, x_5, x_6, x_7] : List Nat).getD i 0) dX2_kept_104 (by trivial)
