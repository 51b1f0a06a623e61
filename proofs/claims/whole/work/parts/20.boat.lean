/-! ===== StormFlags$Boat ===== -/
/-- a boat: home, bold, strength, state, hour, tripHours, timesSailed, timesStayed -/
abbrev oBoat (hm : Nat) (bo sg st hr tr sa sy : Int32) : va_E := .inr (1, [.ref hm, .int bo, .int sg, .int st, .int hr, .int tr, .int sa, .int sy])
def iv_X0_init : Nat → Nat → Option Sg
  | 2, 3 => some sp_OBJINIT
  | _, _ => none
def iv_X0_plan : Nat → Nat → Option Sg
  | _, _ => none
def iv_X0_restAtHome : Nat → Nat → Option Sg
  | _, _ => none
def iv_X0_isToSailAt : Nat → Nat → Option Sg
  | _, _ => none
def iv_X0_goDown : Nat → Nat → Option Sg
  | _, _ => none
def iv_X0_fears : Nat → Nat → Option Sg
  | _, _ => none
def sp_X0_init : Sg := mI 1 [1, 0, 0] b0 (fun as σ K _ => match as with
  | [.ref b, .ref h, .int bo, .int sg] => K none (hup σ b (oBoat h bo sg 0 (-1) 0 0 0))
  | _ => False)
def sp_X0_plan : Sg := mI 1 [0, 0] b0 (fun as σ K _ => match as with
  | [.ref b, .int h, .int n] => ∃ hm bo sg st hr tr sa sy, σ b = some (oBoat hm bo sg st hr tr sa sy) ∧ (st = 0 → K (some (.int 1)) (hup σ b (oBoat hm bo sg 1 h n sa sy))) ∧ (¬ st = 0 → K (some (.int 0)) σ)
  | _ => False)
def sp_X0_restAtHome : Sg := mI 1 [] b0 (fun as σ K _ => match as with
  | [.ref b] => ∃ hm bo sg st hr tr sa sy, σ b = some (oBoat hm bo sg st hr tr sa sy) ∧ K none (hup σ b (oBoat hm bo sg 0 (-1) tr sa sy))
  | _ => False)
set_option maxHeartbeats 1000000 in
theorem m_X0_plan (cy : Nat → ClassId) (P : Pm) : MOK (cl_X0 P) cy P.2.1 obj cX0_plan iv_X0_plan (fun _ => none) (fun _ => some none) (some .boolean) 3 sp_X0_plan := by
  intro as σ K KX J hlen hT hJ
  obtain ⟨-, -, hT⟩ := hT
  split at hT
  · rename_i b h n
    obtain ⟨hm, bo, sg, st, hr, tr, sa, sy, hb, hT⟩ := hT
    refine wp_of_S hJ (ct []) 400 _ _ _ _ _ _ ?_
    simp only [w_aload_n (cut := ct []) (pc' := 1) (i := 0) rfl dX0_plan_0 rfl rfl, w_getfield (cut := ct []) (pc' := 4) rfl dX0_plan_1 rfl (q_X0_f22 P), w_if_eq (cut := ct []) (pc' := 7) (t := 9) rfl dX0_plan_4 rfl (by decide) rfl, w_iconst (cut := ct []) (pc' := 8) (v := 0) rfl dX0_plan_7 rfl rfl, w_ireturn (ty := .boolean) (cut := ct []) rfl dX0_plan_8 rfl, w_aload_n (cut := ct []) (pc' := 10) (i := 0) rfl dX0_plan_9 rfl rfl, w_iconst (cut := ct []) (pc' := 11) (v := 1) rfl dX0_plan_10 rfl rfl, w_putfield (cut := ct []) (pc' := 14) rfl dX0_plan_11 rfl (q_X0_f22 P), w_aload_n (cut := ct []) (pc' := 15) (i := 0) rfl dX0_plan_14 rfl rfl, w_iload_n (cut := ct []) (pc' := 16) (i := 1) rfl dX0_plan_15 rfl rfl, w_putfield (cut := ct []) (pc' := 19) rfl dX0_plan_16 rfl (q_X0_f25 P), w_aload_n (cut := ct []) (pc' := 20) (i := 0) rfl dX0_plan_19 rfl rfl, w_iload_n (cut := ct []) (pc' := 21) (i := 2) rfl dX0_plan_20 rfl rfl, w_putfield (cut := ct []) (pc' := 24) rfl dX0_plan_21 rfl (q_X0_f28 P), w_iconst (cut := ct []) (pc' := 25) (v := 1) rfl dX0_plan_24 rfl rfl, w_ireturn (ty := .boolean) (cut := ct []) rfl dX0_plan_25 rfl, mI, mS, b0, okA, rcvd, nb0, nb1, ini, List.map_cons, List.map_nil, List.replicate_zero, List.replicate_succ, List.append_nil, ldI, ldA, incK, getK, putK, oldK, castK, inv1, nwO, nwA, nwR, alen, ald, bald, ast, lald, last, rald, rast, goTo, nth, sto, setN, popN, okv, cat1_int, cat1_ref, cat1_null, cat1_rf, va_rf, hup_same, hup_hup, List.length_cons, List.length_nil, List.nil_append, List.cons_append, Option.toList, true_and, and_true, Nat.reduceAdd, Nat.reduceSub, Nat.reduceLT, Nat.reduceLeDiff, Nat.zero_le, Nat.sub_zero, Nat.zero_lt_succ, Nat.lt_add_left_iff_pos, Nat.succ_lt_succ_iff, hb, sp_X0_plan, oBoat]
    exact hT
  · exact hT.elim
set_option maxRecDepth 100000 in
theorem con_X0_plan {l : Launch} {s0 : State} {D : va_G} {cy : Nat → ClassId} {P : Pm} {a0 : Array Value} (hE : E0 l s0 D cy P a0) : Con l s0 D yX0_plan (Cond.code yX0_plan cX0_plan 3 (some .boolean)) 0 0 sp_X0_plan := by
  refine con_of (clok_X0 hE _) (by decide) (fun as σ K KX h => okA_cat h.1) (by decide) ?_ ?_ (m_X0_plan cy P)
  · intro p e R s m args below meth c A Q hfr hlo hW B kd j g hg
    cases hg
  · intro p e R s m args below meth c A K KX hfr hlo hW B htab
    exact xok_none htab
set_option maxHeartbeats 1000000 in
theorem m_X0_restAtHome (cy : Nat → ClassId) (P : Pm) : MOK (cl_X0 P) cy P.2.1 obj cX0_restAtHome iv_X0_restAtHome (fun _ => none) (fun _ => some none) (none) 1 sp_X0_restAtHome := by
  intro as σ K KX J hlen hT hJ
  obtain ⟨-, -, hT⟩ := hT
  split at hT
  · rename_i b
    obtain ⟨hm, bo, sg, st, hr, tr, sa, sy, hb, hT⟩ := hT
    refine wp_of_S hJ (ct []) 400 _ _ _ _ _ _ ?_
    simp only [w_aload_n (cut := ct []) (pc' := 1) (i := 0) rfl dX0_restAtHome_0 rfl rfl, w_iconst (cut := ct []) (pc' := 2) (v := 0) rfl dX0_restAtHome_1 rfl rfl, w_putfield (cut := ct []) (pc' := 5) rfl dX0_restAtHome_2 rfl (q_X0_f22 P), w_aload_n (cut := ct []) (pc' := 6) (i := 0) rfl dX0_restAtHome_5 rfl rfl, w_iconst (cut := ct []) (pc' := 7) (v := (-1)) rfl dX0_restAtHome_6 rfl rfl, w_putfield (cut := ct []) (pc' := 10) rfl dX0_restAtHome_7 rfl (q_X0_f25 P), w_return (cut := ct []) rfl dX0_restAtHome_10 rfl, mI, mS, b0, okA, rcvd, nb0, nb1, ini, List.map_cons, List.map_nil, List.replicate_zero, List.replicate_succ, List.append_nil, ldI, ldA, incK, getK, putK, oldK, castK, inv1, nwO, nwA, nwR, alen, ald, bald, ast, lald, last, rald, rast, goTo, nth, sto, setN, popN, okv, cat1_int, cat1_ref, cat1_null, cat1_rf, va_rf, hup_same, hup_hup, List.length_cons, List.length_nil, List.nil_append, List.cons_append, Option.toList, true_and, and_true, Nat.reduceAdd, Nat.reduceSub, Nat.reduceLT, Nat.reduceLeDiff, Nat.zero_le, Nat.sub_zero, Nat.zero_lt_succ, Nat.lt_add_left_iff_pos, Nat.succ_lt_succ_iff, hb, sp_X0_restAtHome, oBoat]
    exact hT
  · exact hT.elim
set_option maxRecDepth 100000 in
theorem con_X0_restAtHome {l : Launch} {s0 : State} {D : va_G} {cy : Nat → ClassId} {P : Pm} {a0 : Array Value} (hE : E0 l s0 D cy P a0) : Con l s0 D yX0_restAtHome (Cond.code yX0_restAtHome cX0_restAtHome 1 none) 0 0 sp_X0_restAtHome := by
  refine con_of (clok_X0 hE _) (by decide) (fun as σ K KX h => okA_cat h.1) (by decide) ?_ ?_ (m_X0_restAtHome cy P)
  · intro p e R s m args below meth c A Q hfr hlo hW B kd j g hg
    cases hg
  · intro p e R s m args below meth c A K KX hfr hlo hW B htab
    exact xok_none htab
set_option maxHeartbeats 1000000 in
theorem m_X0_init (cy : Nat → ClassId) (P : Pm) : MOK (cl_X0i P) cy P.2.1 obj cX0_init iv_X0_init (fun _ => none) (fun _ => some none) (none) 4 sp_X0_init := by
  intro as σ K KX J hlen hT hJ
  obtain ⟨hA, hr, hT⟩ := hT
  split at hT
  · rename_i b h bo sg
    trace_state
    sorry
  · exact hT.elim
