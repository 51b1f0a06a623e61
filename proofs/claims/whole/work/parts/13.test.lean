def obj (n : Nat) : Bool := match n with
  | 1 => true
  | 2 => true
  | 4 => true
  | 8 => true
  | _ => false
def iv_X0_plan : Nat → Nat → Option Sg
  | _, _ => none
def sp_X0_plan : Sg := (3, fun _ _ => (0, 0), fun as σ K _ => match as with
  | [.ref b, .int h, .int n] => match σ b with
    | some (.inr (1, [hm, bo, sg, .int st, .int _, .int _, sa, sy])) => (st = 0 → K (some (.int 1)) (hup σ b (.inr (1, [hm, bo, sg, .int 1, .int h, .int n, sa, sy])))) ∧ (¬ st = 0 → K (some (.int 0)) σ)
    | _ => False
  | _ => False)
set_option maxHeartbeats 1000000 in
theorem m_X0_plan (cy : Nat → ClassId) (P : Pm) : MOK (cl_X0 P) cy P.2.1 obj cX0_plan iv_X0_plan (fun _ => none) (fun _ => some none) (some .boolean) 3 sp_X0_plan := by
  intro as σ K KX J hlen hT hJ
  simp only [sp_X0_plan] at hT
  split at hT
  · rename_i b h n
    split at hT
    · rename_i hm bo sg st hr tr sa sy hb
      refine wp_of_S hJ (ct []) 400 _ _ _ _ _ _ ?_
      simp only [w_aload_n (cut := ct []) (pc' := 1) (i := 0) rfl dX0_plan_0 rfl rfl, w_getfield (cut := ct []) (pc' := 4) rfl dX0_plan_1 rfl (q_X0_f22 P), w_if_eq (cut := ct []) (pc' := 7) (t := 9) rfl dX0_plan_4 rfl (by decide) rfl, w_iconst (cut := ct []) (pc' := 8) (v := 0) rfl dX0_plan_7 rfl rfl, w_ireturn (ty := .boolean) (cut := ct []) rfl dX0_plan_8 rfl, w_aload_n (cut := ct []) (pc' := 10) (i := 0) rfl dX0_plan_9 rfl rfl, w_iconst (cut := ct []) (pc' := 11) (v := 1) rfl dX0_plan_10 rfl rfl, w_putfield (cut := ct []) (pc' := 14) rfl dX0_plan_11 rfl (q_X0_f22 P), w_aload_n (cut := ct []) (pc' := 15) (i := 0) rfl dX0_plan_14 rfl rfl, w_iload_n (cut := ct []) (pc' := 16) (i := 1) rfl dX0_plan_15 rfl rfl, w_putfield (cut := ct []) (pc' := 19) rfl dX0_plan_16 rfl (q_X0_f25 P), w_aload_n (cut := ct []) (pc' := 20) (i := 0) rfl dX0_plan_19 rfl rfl, w_iload_n (cut := ct []) (pc' := 21) (i := 2) rfl dX0_plan_20 rfl rfl, w_putfield (cut := ct []) (pc' := 24) rfl dX0_plan_21 rfl (q_X0_f28 P), w_iconst (cut := ct []) (pc' := 25) (v := 1) rfl dX0_plan_24 rfl rfl, w_ireturn (ty := .boolean) (cut := ct []) rfl dX0_plan_25 rfl, ini, List.map_cons, List.map_nil, List.replicate_zero, List.replicate_succ, List.append_nil, ldI, ldA, incK, getK, putK, oldK, castK, inv1, nwO, nwA, nwR, alen, ald, bald, ast, lald, last, rald, rast, goTo, nth, sto, setN, popN, okv, cat1_int, cat1_ref, cat1_null, cat1_rf, va_rf, hup_same, hup_hup, List.length_cons, List.length_nil, List.nil_append, List.cons_append, Option.toList, true_and, and_true, Nat.reduceAdd, Nat.reduceSub, Nat.reduceLT, Nat.reduceLeDiff, Nat.zero_le, Nat.sub_zero, Nat.zero_lt_succ, Nat.lt_add_left_iff_pos, Nat.succ_lt_succ_iff, hb, sp_X0_plan]
      trace_state
      sorry
    · exact hT.elim
  · exact hT.elim

/-! the model's countsOf -/
def iv_X9_countsOf : Nat → Nat → Option Sg
  | _, _ => none
