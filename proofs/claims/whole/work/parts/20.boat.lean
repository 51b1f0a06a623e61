/-! ===== the small classes: Boat, Gale, Outlook, Report, Warning; within ===== -/
def iv_X0_init (cy : Nat → ClassId) (P : Pm) : Nat → Nat → Option Sg
  | 2, 3 => some (sp_OBJINIT cy P)
  | _, _ => none
def sp_X0_init (cy : Nat → ClassId) (P : Pm) : Sg := mI 1 [1, 0, 0] b0 (fun as σ K _ => match as with
  | [.ref b, .ref h, .int bo, .int sg] => σ b = some (.inr (1, [.null, .int 0, .int 0, .int 0, .int 0, .int 0, .int 0, .int 0])) ∧ K none (hup σ b (oBoat h bo sg 0 (-1) 0 0 0))
  | _ => False)
set_option maxHeartbeats 2000000 in
theorem m_X0_init (cy : Nat → ClassId) (P : Pm) (hP : PmOK P) : MOK (cl_X0i P) cy P.2.1 obj cX0_init (iv_X0_init cy P) (fun _ => none) (fun _ => some none) (none) 4 (sp_X0_init cy P) := by
  intro as σ K KX J hlen hT hJ hOld
  obtain ⟨-, -, hT⟩ := hT
  split at hT
  · rename_i b h bo sg
    obtain ⟨hb, hT⟩ := hT
    refine wp_of_S hJ (ct []) 400 _ _ _ _ _ _ ?_
    simp only [w_aload_n (cut := ct []) (pc' := 1) (i := 0) rfl dX0_init_0 rfl rfl, w_invoke (inv := iv_X0_init cy P) (kd := 2) (f := 3) (g := sp_OBJINIT cy P) (cut := ct []) rfl dX0_init_1 rfl (by decide) rfl, w_aload_n (cut := ct []) (pc' := 5) (i := 0) rfl dX0_init_4 rfl rfl, w_aload_n (cut := ct []) (pc' := 6) (i := 1) rfl dX0_init_5 rfl rfl, w_putfield (cut := ct []) (pc' := 9) rfl dX0_init_6 rfl (q_X0i_f9 P), w_aload_n (cut := ct []) (pc' := 10) (i := 0) rfl dX0_init_9 rfl rfl, w_iload_n (cut := ct []) (pc' := 11) (i := 2) rfl dX0_init_10 rfl rfl, w_putfield (cut := ct []) (pc' := 14) rfl dX0_init_11 rfl (q_X0i_f15 P), w_aload_n (cut := ct []) (pc' := 15) (i := 0) rfl dX0_init_14 rfl rfl, w_iload_n (cut := ct []) (pc' := 16) (i := 3) rfl dX0_init_15 rfl rfl, w_putfield (cut := ct []) (pc' := 19) rfl dX0_init_16 rfl (q_X0i_f19 P), w_aload_n (cut := ct []) (pc' := 20) (i := 0) rfl dX0_init_19 rfl rfl, w_iconst (cut := ct []) (pc' := 21) (v := 0) rfl dX0_init_20 rfl rfl, w_putfield (cut := ct []) (pc' := 24) rfl dX0_init_21 rfl (q_X0i_f22 P), w_aload_n (cut := ct []) (pc' := 25) (i := 0) rfl dX0_init_24 rfl rfl, w_iconst (cut := ct []) (pc' := 26) (v := (-1)) rfl dX0_init_25 rfl rfl, w_putfield (cut := ct []) (pc' := 29) rfl dX0_init_26 rfl (q_X0i_f25 P), w_aload_n (cut := ct []) (pc' := 30) (i := 0) rfl dX0_init_29 rfl rfl, w_iconst (cut := ct []) (pc' := 31) (v := 0) rfl dX0_init_30 rfl rfl, w_putfield (cut := ct []) (pc' := 34) rfl dX0_init_31 rfl (q_X0i_f28 P), w_aload_n (cut := ct []) (pc' := 35) (i := 0) rfl dX0_init_34 rfl rfl, w_iconst (cut := ct []) (pc' := 36) (v := 0) rfl dX0_init_35 rfl rfl, w_putfield (cut := ct []) (pc' := 39) rfl dX0_init_36 rfl (q_X0i_f31 P), w_aload_n (cut := ct []) (pc' := 40) (i := 0) rfl dX0_init_39 rfl rfl, w_iconst (cut := ct []) (pc' := 41) (v := 0) rfl dX0_init_40 rfl rfl, w_putfield (cut := ct []) (pc' := 44) rfl dX0_init_41 rfl (q_X0i_f34 P), w_return (cut := ct []) rfl dX0_init_44 rfl, rsum, cg_int, cg_ref, cg_null, nby0, strd, mStr, onAL, true_imp_iff, false_imp_iff, not_true_eq_false, not_false_eq_true, Classical.not_not, eq_self, e10, e01, em1, Int32.reduceLT, Int32.reduceLE, onBoat, onGale, onOut, onPort, onRep, onWarn, yn, mI, mS, b0, okA, rcvd, nb0, nb1, ini, List.map_cons, List.map_nil, List.replicate_zero, List.replicate_succ, List.append_nil, ldI, ldA, incK, getK, putK, oldK, castK, inv1, nwO, nwA, nwR, alen, ald, bald, ast, lald, last, rald, rast, goTo, nth, sto, setN, popN, okv, cat1_int, cat1_ref, cat1_null, cat1_rf, va_rf, hup_same, hup_hup, List.length_cons, List.length_nil, List.nil_append, List.cons_append, Option.toList, true_and, and_true, Nat.reduceAdd, Nat.reduceSub, Nat.reduceLT, Nat.reduceLeDiff, Nat.zero_le, Nat.sub_zero, Nat.zero_lt_succ, Nat.lt_add_left_iff_pos, Nat.succ_lt_succ_iff, sp_X0_init, hb, sp_OBJINIT]
    exact hT
  · exact hT.elim
set_option maxRecDepth 100000 in
theorem con_X0_init {l : Launch} {s0 : State} {D : va_G} {cy : Nat → ClassId} {P : Pm} {a0 : Array Value} (hE : E0 l s0 D cy P a0) : Con l s0 D yX0_init (Cond.code yX0_init cX0_init 4 none) 1 20 (sp_X0_init cy P) := by
  refine con_of (clok_X0i hE) (by decide) (fun as σ K KX h => okA_cat h.1) (Nat.le_of_ble_eq_true rfl) ?_ ?_ (m_X0_init cy P hE.2.2.2.1)
  · intro p e R s m args below meth c A Q hfr hlo hW B kd j g hg
    unfold iv_X0_init at hg
    split at hg
    · cases hg; exact inv_obj B hE tw_678 tw_36 tw_37 (by rw [hfr]; decide) (by rw [hlo]; decide)
    · cases hg
  · intro p e R s m args below meth c A K KX hfr hlo hW B htab
    exact xok_none htab
def iv_X0_plan (cy : Nat → ClassId) (P : Pm) : Nat → Nat → Option Sg
  | _, _ => none
def sp_X0_plan (cy : Nat → ClassId) (P : Pm) : Sg := mI 1 [0, 0] b0 (fun as σ K _ => match as with
  | [.ref b, .int h, .int n] => onBoat σ b (fun hm bo sg st hr tr sa sy => (st = 0 → K (some (.int 1)) (hup σ b (oBoat hm bo sg 1 h n sa sy))) ∧ (¬ st = 0 → K (some (.int 0)) σ))
  | _ => False)
set_option maxHeartbeats 2000000 in
theorem m_X0_plan (cy : Nat → ClassId) (P : Pm) (hP : PmOK P) : MOK (cl_X0 P) cy P.2.1 obj cX0_plan (iv_X0_plan cy P) (fun _ => none) (fun _ => some none) (some .boolean) 3 (sp_X0_plan cy P) := by
  intro as σ K KX J hlen hT hJ hOld
  obtain ⟨-, -, hT⟩ := hT
  split at hT
  · rename_i b h n
    obtain ⟨hm, bo, sg, st, hr, tr, sa, sy, hb, hT⟩ := onBoat_spec hT
    refine wp_of_S hJ (ct []) 400 _ _ _ _ _ _ ?_
    simp only [w_aload_n (cut := ct []) (pc' := 1) (i := 0) rfl dX0_plan_0 rfl rfl, w_getfield (cut := ct []) (pc' := 4) rfl dX0_plan_1 rfl (q_X0_f22 P), w_if_eq (cut := ct []) (pc' := 7) (t := 9) rfl dX0_plan_4 rfl (by decide) rfl, w_iconst (cut := ct []) (pc' := 8) (v := 0) rfl dX0_plan_7 rfl rfl, w_ireturn (ty := .boolean) (cut := ct []) rfl dX0_plan_8 rfl, w_aload_n (cut := ct []) (pc' := 10) (i := 0) rfl dX0_plan_9 rfl rfl, w_iconst (cut := ct []) (pc' := 11) (v := 1) rfl dX0_plan_10 rfl rfl, w_putfield (cut := ct []) (pc' := 14) rfl dX0_plan_11 rfl (q_X0_f22 P), w_aload_n (cut := ct []) (pc' := 15) (i := 0) rfl dX0_plan_14 rfl rfl, w_iload_n (cut := ct []) (pc' := 16) (i := 1) rfl dX0_plan_15 rfl rfl, w_putfield (cut := ct []) (pc' := 19) rfl dX0_plan_16 rfl (q_X0_f25 P), w_aload_n (cut := ct []) (pc' := 20) (i := 0) rfl dX0_plan_19 rfl rfl, w_iload_n (cut := ct []) (pc' := 21) (i := 2) rfl dX0_plan_20 rfl rfl, w_putfield (cut := ct []) (pc' := 24) rfl dX0_plan_21 rfl (q_X0_f28 P), w_iconst (cut := ct []) (pc' := 25) (v := 1) rfl dX0_plan_24 rfl rfl, w_ireturn (ty := .boolean) (cut := ct []) rfl dX0_plan_25 rfl, rsum, cg_int, cg_ref, cg_null, nby0, strd, mStr, onAL, true_imp_iff, false_imp_iff, not_true_eq_false, not_false_eq_true, Classical.not_not, eq_self, e10, e01, em1, Int32.reduceLT, Int32.reduceLE, onBoat, onGale, onOut, onPort, onRep, onWarn, yn, mI, mS, b0, okA, rcvd, nb0, nb1, ini, List.map_cons, List.map_nil, List.replicate_zero, List.replicate_succ, List.append_nil, ldI, ldA, incK, getK, putK, oldK, castK, inv1, nwO, nwA, nwR, alen, ald, bald, ast, lald, last, rald, rast, goTo, nth, sto, setN, popN, okv, cat1_int, cat1_ref, cat1_null, cat1_rf, va_rf, hup_same, hup_hup, List.length_cons, List.length_nil, List.nil_append, List.cons_append, Option.toList, true_and, and_true, Nat.reduceAdd, Nat.reduceSub, Nat.reduceLT, Nat.reduceLeDiff, Nat.zero_le, Nat.sub_zero, Nat.zero_lt_succ, Nat.lt_add_left_iff_pos, Nat.succ_lt_succ_iff, sp_X0_plan, hb]
    exact hT
  · exact hT.elim
set_option maxRecDepth 100000 in
theorem con_X0_plan {l : Launch} {s0 : State} {D : va_G} {cy : Nat → ClassId} {P : Pm} {a0 : Array Value} (hE : E0 l s0 D cy P a0) : Con l s0 D yX0_plan (Cond.code yX0_plan cX0_plan 3 (some .boolean)) 0 0 (sp_X0_plan cy P) := by
  refine con_of (clok_X0 hE _) (by decide) (fun as σ K KX h => okA_cat h.1) (Nat.le_of_ble_eq_true rfl) ?_ ?_ (m_X0_plan cy P hE.2.2.2.1)
  · intro p e R s m args below meth c A Q hfr hlo hW B kd j g hg
    cases hg
  · intro p e R s m args below meth c A K KX hfr hlo hW B htab
    exact xok_none htab
def iv_X0_restAtHome (cy : Nat → ClassId) (P : Pm) : Nat → Nat → Option Sg
  | _, _ => none
def sp_X0_restAtHome (cy : Nat → ClassId) (P : Pm) : Sg := mI 1 [] b0 (fun as σ K _ => match as with
  | [.ref b] => onBoat σ b (fun hm bo sg st hr tr sa sy => K none (hup σ b (oBoat hm bo sg 0 (-1) tr sa sy)))
  | _ => False)
set_option maxHeartbeats 2000000 in
theorem m_X0_restAtHome (cy : Nat → ClassId) (P : Pm) (hP : PmOK P) : MOK (cl_X0 P) cy P.2.1 obj cX0_restAtHome (iv_X0_restAtHome cy P) (fun _ => none) (fun _ => some none) (none) 1 (sp_X0_restAtHome cy P) := by
  intro as σ K KX J hlen hT hJ hOld
  obtain ⟨-, -, hT⟩ := hT
  split at hT
  · rename_i b
    obtain ⟨hm, bo, sg, st, hr, tr, sa, sy, hb, hT⟩ := onBoat_spec hT
    refine wp_of_S hJ (ct []) 400 _ _ _ _ _ _ ?_
    simp only [w_aload_n (cut := ct []) (pc' := 1) (i := 0) rfl dX0_restAtHome_0 rfl rfl, w_iconst (cut := ct []) (pc' := 2) (v := 0) rfl dX0_restAtHome_1 rfl rfl, w_putfield (cut := ct []) (pc' := 5) rfl dX0_restAtHome_2 rfl (q_X0_f22 P), w_aload_n (cut := ct []) (pc' := 6) (i := 0) rfl dX0_restAtHome_5 rfl rfl, w_iconst (cut := ct []) (pc' := 7) (v := (-1)) rfl dX0_restAtHome_6 rfl rfl, w_putfield (cut := ct []) (pc' := 10) rfl dX0_restAtHome_7 rfl (q_X0_f25 P), w_return (cut := ct []) rfl dX0_restAtHome_10 rfl, rsum, cg_int, cg_ref, cg_null, nby0, strd, mStr, onAL, true_imp_iff, false_imp_iff, not_true_eq_false, not_false_eq_true, Classical.not_not, eq_self, e10, e01, em1, Int32.reduceLT, Int32.reduceLE, onBoat, onGale, onOut, onPort, onRep, onWarn, yn, mI, mS, b0, okA, rcvd, nb0, nb1, ini, List.map_cons, List.map_nil, List.replicate_zero, List.replicate_succ, List.append_nil, ldI, ldA, incK, getK, putK, oldK, castK, inv1, nwO, nwA, nwR, alen, ald, bald, ast, lald, last, rald, rast, goTo, nth, sto, setN, popN, okv, cat1_int, cat1_ref, cat1_null, cat1_rf, va_rf, hup_same, hup_hup, List.length_cons, List.length_nil, List.nil_append, List.cons_append, Option.toList, true_and, and_true, Nat.reduceAdd, Nat.reduceSub, Nat.reduceLT, Nat.reduceLeDiff, Nat.zero_le, Nat.sub_zero, Nat.zero_lt_succ, Nat.lt_add_left_iff_pos, Nat.succ_lt_succ_iff, sp_X0_restAtHome, hb]
    exact hT
  · exact hT.elim
set_option maxRecDepth 100000 in
theorem con_X0_restAtHome {l : Launch} {s0 : State} {D : va_G} {cy : Nat → ClassId} {P : Pm} {a0 : Array Value} (hE : E0 l s0 D cy P a0) : Con l s0 D yX0_restAtHome (Cond.code yX0_restAtHome cX0_restAtHome 1 none) 0 0 (sp_X0_restAtHome cy P) := by
  refine con_of (clok_X0 hE _) (by decide) (fun as σ K KX h => okA_cat h.1) (Nat.le_of_ble_eq_true rfl) ?_ ?_ (m_X0_restAtHome cy P hE.2.2.2.1)
  · intro p e R s m args below meth c A Q hfr hlo hW B kd j g hg
    cases hg
  · intro p e R s m args below meth c A K KX hfr hlo hW B htab
    exact xok_none htab
def iv_X0_comeHomeIfDue (cy : Nat → ClassId) (P : Pm) : Nat → Nat → Option Sg
  | 0, 37 => some (sp_X0_restAtHome cy P)
  | _, _ => none
def sp_X0_comeHomeIfDue (cy : Nat → ClassId) (P : Pm) : Sg := mI 1 [0] b0 (fun as σ K _ => match as with
  | [.ref b, .int now] => onBoat σ b (fun hm bo sg st hr tr sa sy => (st = 2 ∧ hr ≤ now → K none (hup σ b (oBoat hm bo sg 0 (-1) tr sa sy))) ∧ (¬ (st = 2 ∧ hr ≤ now) → K none σ))
  | _ => False)
set_option maxHeartbeats 2000000 in
theorem m_X0_comeHomeIfDue (cy : Nat → ClassId) (P : Pm) (hP : PmOK P) : MOK (cl_X0 P) cy P.2.1 obj cX0_comeHomeIfDue (iv_X0_comeHomeIfDue cy P) (fun _ => none) (fun _ => some none) (none) 2 (sp_X0_comeHomeIfDue cy P) := by
  intro as σ K KX J hlen hT hJ hOld
  obtain ⟨-, -, hT⟩ := hT
  split at hT
  · rename_i b now
    obtain ⟨hm, bo, sg, st, hr, tr, sa, sy, hb, hT1, hT2⟩ := onBoat_spec hT
    refine wp_of_S hJ (ct []) 400 _ _ _ _ _ _ ?_
    simp only [w_aload_n (cut := ct []) (pc' := 1) (i := 0) rfl dX0_comeHomeIfDue_0 rfl rfl, w_getfield (cut := ct []) (pc' := 4) rfl dX0_comeHomeIfDue_1 rfl (q_X0_f22 P), w_iconst (cut := ct []) (pc' := 5) (v := 2) rfl dX0_comeHomeIfDue_4 rfl rfl, w_icmp_ne (cut := ct []) (pc' := 8) (t := 20) rfl dX0_comeHomeIfDue_5 rfl (by decide) rfl, w_aload_n (cut := ct []) (pc' := 9) (i := 0) rfl dX0_comeHomeIfDue_8 rfl rfl, w_getfield (cut := ct []) (pc' := 12) rfl dX0_comeHomeIfDue_9 rfl (q_X0_f25 P), w_iload_n (cut := ct []) (pc' := 13) (i := 1) rfl dX0_comeHomeIfDue_12 rfl rfl, w_icmp_gt (cut := ct []) (pc' := 16) (t := 20) rfl dX0_comeHomeIfDue_13 rfl (by decide) rfl, w_aload_n (cut := ct []) (pc' := 17) (i := 0) rfl dX0_comeHomeIfDue_16 rfl rfl, w_invoke (inv := iv_X0_comeHomeIfDue cy P) (kd := 0) (f := 37) (g := sp_X0_restAtHome cy P) (cut := ct []) rfl dX0_comeHomeIfDue_17 rfl (by decide) rfl, w_return (cut := ct []) rfl dX0_comeHomeIfDue_20 rfl, rsum, cg_int, cg_ref, cg_null, nby0, strd, mStr, onAL, true_imp_iff, false_imp_iff, not_true_eq_false, not_false_eq_true, Classical.not_not, eq_self, e10, e01, em1, Int32.reduceLT, Int32.reduceLE, onBoat, onGale, onOut, onPort, onRep, onWarn, yn, mI, mS, b0, okA, rcvd, nb0, nb1, ini, List.map_cons, List.map_nil, List.replicate_zero, List.replicate_succ, List.append_nil, ldI, ldA, incK, getK, putK, oldK, castK, inv1, nwO, nwA, nwR, alen, ald, bald, ast, lald, last, rald, rast, goTo, nth, sto, setN, popN, okv, cat1_int, cat1_ref, cat1_null, cat1_rf, va_rf, hup_same, hup_hup, List.length_cons, List.length_nil, List.nil_append, List.cons_append, Option.toList, true_and, and_true, Nat.reduceAdd, Nat.reduceSub, Nat.reduceLT, Nat.reduceLeDiff, Nat.zero_le, Nat.sub_zero, Nat.zero_lt_succ, Nat.lt_add_left_iff_pos, Nat.succ_lt_succ_iff, sp_X0_comeHomeIfDue, hb, sp_X0_restAtHome]
    grind
  · exact hT.elim
set_option maxRecDepth 100000 in
theorem con_X0_comeHomeIfDue {l : Launch} {s0 : State} {D : va_G} {cy : Nat → ClassId} {P : Pm} {a0 : Array Value} (hE : E0 l s0 D cy P a0) : Con l s0 D yX0_comeHomeIfDue (Cond.code yX0_comeHomeIfDue cX0_comeHomeIfDue 2 none) 1 20 (sp_X0_comeHomeIfDue cy P) := by
  refine con_of (clok_X0 hE _) (by decide) (fun as σ K KX h => okA_cat h.1) (Nat.le_of_ble_eq_true rfl) ?_ ?_ (m_X0_comeHomeIfDue cy P hE.2.2.2.1)
  · intro p e R s m args below meth c A Q hfr hlo hW B kd j g hg
    unfold iv_X0_comeHomeIfDue at hg
    split at hg
    · cases hg; exact inv_V (ci := 1) B (con_X0_restAtHome hE) rfl (fun as σ K KX h => rcvd_spec h.2.1) (cw_mk hE hW tw_810 rfl tw_27 ⟨by decide, by decide⟩ rfl) rfl (wd hE hW tw_807 rfl) (wd hE hW tw_809 rfl) (wd hE hW (List.mem_of_getElem? (i := 21) (by decide +kernel)) rfl) (by rw [hfr]; decide) (by rw [hlo]; decide)
    · cases hg
  · intro p e R s m args below meth c A K KX hfr hlo hW B htab
    exact xok_none htab
def iv_X0_isToSailAt (cy : Nat → ClassId) (P : Pm) : Nat → Nat → Option Sg
  | _, _ => none
def sp_X0_isToSailAt (cy : Nat → ClassId) (P : Pm) : Sg := mI 1 [0] b0 (fun as σ K _ => match as with
  | [.ref b, .int now] => onBoat σ b (fun hm bo sg st hr tr sa sy => yn (st = 1 ∧ hr = now) K σ)
  | _ => False)
set_option maxHeartbeats 2000000 in
theorem m_X0_isToSailAt (cy : Nat → ClassId) (P : Pm) (hP : PmOK P) : MOK (cl_X0 P) cy P.2.1 obj cX0_isToSailAt (iv_X0_isToSailAt cy P) (fun _ => none) (fun _ => some none) (some .boolean) 2 (sp_X0_isToSailAt cy P) := by
  intro as σ K KX J hlen hT hJ hOld
  obtain ⟨-, -, hT⟩ := hT
  split at hT
  · rename_i b now
    obtain ⟨hm, bo, sg, st, hr, tr, sa, sy, hb, hT1, hT2⟩ := onBoat_spec hT
    refine wp_of_S hJ (ct []) 400 _ _ _ _ _ _ ?_
    simp only [w_aload_n (cut := ct []) (pc' := 1) (i := 0) rfl dX0_isToSailAt_0 rfl rfl, w_getfield (cut := ct []) (pc' := 4) rfl dX0_isToSailAt_1 rfl (q_X0_f22 P), w_iconst (cut := ct []) (pc' := 5) (v := 1) rfl dX0_isToSailAt_4 rfl rfl, w_icmp_ne (cut := ct []) (pc' := 8) (t := 20) rfl dX0_isToSailAt_5 rfl (by decide) rfl, w_aload_n (cut := ct []) (pc' := 9) (i := 0) rfl dX0_isToSailAt_8 rfl rfl, w_getfield (cut := ct []) (pc' := 12) rfl dX0_isToSailAt_9 rfl (q_X0_f25 P), w_iload_n (cut := ct []) (pc' := 13) (i := 1) rfl dX0_isToSailAt_12 rfl rfl, w_icmp_ne (cut := ct []) (pc' := 16) (t := 20) rfl dX0_isToSailAt_13 rfl (by decide) rfl, w_iconst (cut := ct []) (pc' := 17) (v := 1) rfl dX0_isToSailAt_16 rfl rfl, w_goto (cut := ct []) (t := 21) rfl dX0_isToSailAt_17 (by decide) rfl, w_iconst (cut := ct []) (pc' := 21) (v := 0) rfl dX0_isToSailAt_20 rfl rfl, w_ireturn (ty := .boolean) (cut := ct []) rfl dX0_isToSailAt_21 rfl, rsum, cg_int, cg_ref, cg_null, nby0, strd, mStr, onAL, true_imp_iff, false_imp_iff, not_true_eq_false, not_false_eq_true, Classical.not_not, eq_self, e10, e01, em1, Int32.reduceLT, Int32.reduceLE, onBoat, onGale, onOut, onPort, onRep, onWarn, yn, mI, mS, b0, okA, rcvd, nb0, nb1, ini, List.map_cons, List.map_nil, List.replicate_zero, List.replicate_succ, List.append_nil, ldI, ldA, incK, getK, putK, oldK, castK, inv1, nwO, nwA, nwR, alen, ald, bald, ast, lald, last, rald, rast, goTo, nth, sto, setN, popN, okv, cat1_int, cat1_ref, cat1_null, cat1_rf, va_rf, hup_same, hup_hup, List.length_cons, List.length_nil, List.nil_append, List.cons_append, Option.toList, true_and, and_true, Nat.reduceAdd, Nat.reduceSub, Nat.reduceLT, Nat.reduceLeDiff, Nat.zero_le, Nat.sub_zero, Nat.zero_lt_succ, Nat.lt_add_left_iff_pos, Nat.succ_lt_succ_iff, sp_X0_isToSailAt, hb]
    grind
  · exact hT.elim
set_option maxRecDepth 100000 in
theorem con_X0_isToSailAt {l : Launch} {s0 : State} {D : va_G} {cy : Nat → ClassId} {P : Pm} {a0 : Array Value} (hE : E0 l s0 D cy P a0) : Con l s0 D yX0_isToSailAt (Cond.code yX0_isToSailAt cX0_isToSailAt 2 (some .boolean)) 0 0 (sp_X0_isToSailAt cy P) := by
  refine con_of (clok_X0 hE _) (by decide) (fun as σ K KX h => okA_cat h.1) (Nat.le_of_ble_eq_true rfl) ?_ ?_ (m_X0_isToSailAt cy P hE.2.2.2.1)
  · intro p e R s m args below meth c A Q hfr hlo hW B kd j g hg
    cases hg
  · intro p e R s m args below meth c A K KX hfr hlo hW B htab
    exact xok_none htab
def iv_X0_goDown (cy : Nat → ClassId) (P : Pm) : Nat → Nat → Option Sg
  | _, _ => none
def sp_X0_goDown (cy : Nat → ClassId) (P : Pm) : Sg := mI 1 [0] b0 (fun as σ K _ => match as with
  | [.ref b, .int now] => onBoat σ b (fun hm bo sg st hr tr sa sy => K none (hup σ b (oBoat hm bo sg 3 now tr sa sy)))
  | _ => False)
set_option maxHeartbeats 2000000 in
theorem m_X0_goDown (cy : Nat → ClassId) (P : Pm) (hP : PmOK P) : MOK (cl_X0 P) cy P.2.1 obj cX0_goDown (iv_X0_goDown cy P) (fun _ => none) (fun _ => some none) (none) 2 (sp_X0_goDown cy P) := by
  intro as σ K KX J hlen hT hJ hOld
  obtain ⟨-, -, hT⟩ := hT
  split at hT
  · rename_i b now
    obtain ⟨hm, bo, sg, st, hr, tr, sa, sy, hb, hT⟩ := onBoat_spec hT
    refine wp_of_S hJ (ct []) 400 _ _ _ _ _ _ ?_
    simp only [w_aload_n (cut := ct []) (pc' := 1) (i := 0) rfl dX0_goDown_0 rfl rfl, w_iconst (cut := ct []) (pc' := 2) (v := 3) rfl dX0_goDown_1 rfl rfl, w_putfield (cut := ct []) (pc' := 5) rfl dX0_goDown_2 rfl (q_X0_f22 P), w_aload_n (cut := ct []) (pc' := 6) (i := 0) rfl dX0_goDown_5 rfl rfl, w_iload_n (cut := ct []) (pc' := 7) (i := 1) rfl dX0_goDown_6 rfl rfl, w_putfield (cut := ct []) (pc' := 10) rfl dX0_goDown_7 rfl (q_X0_f25 P), w_return (cut := ct []) rfl dX0_goDown_10 rfl, rsum, cg_int, cg_ref, cg_null, nby0, strd, mStr, onAL, true_imp_iff, false_imp_iff, not_true_eq_false, not_false_eq_true, Classical.not_not, eq_self, e10, e01, em1, Int32.reduceLT, Int32.reduceLE, onBoat, onGale, onOut, onPort, onRep, onWarn, yn, mI, mS, b0, okA, rcvd, nb0, nb1, ini, List.map_cons, List.map_nil, List.replicate_zero, List.replicate_succ, List.append_nil, ldI, ldA, incK, getK, putK, oldK, castK, inv1, nwO, nwA, nwR, alen, ald, bald, ast, lald, last, rald, rast, goTo, nth, sto, setN, popN, okv, cat1_int, cat1_ref, cat1_null, cat1_rf, va_rf, hup_same, hup_hup, List.length_cons, List.length_nil, List.nil_append, List.cons_append, Option.toList, true_and, and_true, Nat.reduceAdd, Nat.reduceSub, Nat.reduceLT, Nat.reduceLeDiff, Nat.zero_le, Nat.sub_zero, Nat.zero_lt_succ, Nat.lt_add_left_iff_pos, Nat.succ_lt_succ_iff, sp_X0_goDown, hb]
    exact hT
  · exact hT.elim
set_option maxRecDepth 100000 in
theorem con_X0_goDown {l : Launch} {s0 : State} {D : va_G} {cy : Nat → ClassId} {P : Pm} {a0 : Array Value} (hE : E0 l s0 D cy P a0) : Con l s0 D yX0_goDown (Cond.code yX0_goDown cX0_goDown 2 none) 0 0 (sp_X0_goDown cy P) := by
  refine con_of (clok_X0 hE _) (by decide) (fun as σ K KX h => okA_cat h.1) (Nat.le_of_ble_eq_true rfl) ?_ ?_ (m_X0_goDown cy P hE.2.2.2.1)
  · intro p e R s m args below meth c A Q hfr hlo hW B kd j g hg
    cases hg
  · intro p e R s m args below meth c A K KX hfr hlo hW B htab
    exact xok_none htab
/-- the boat stays by these flags -/
def fearsC (bo f : Int32) : Prop := (¬ f &&& 2 = 0 ∧ bo ≤ 1) ∨ (¬ f &&& 1 = 0 ∧ bo = 0)
def iv_X0_fears (cy : Nat → ClassId) (P : Pm) : Nat → Nat → Option Sg
  | _, _ => none
def sp_X0_fears (cy : Nat → ClassId) (P : Pm) : Sg := mI 1 [0] b0 (fun as σ K _ => match as with
  | [.ref b, .int f] => onBoat σ b (fun hm bo sg st hr tr sa sy => yn (fearsC bo f) K σ)
  | _ => False)
set_option maxHeartbeats 2000000 in
theorem m_X0_fears (cy : Nat → ClassId) (P : Pm) (hP : PmOK P) : MOK (cl_X0 P) cy P.2.1 obj cX0_fears (iv_X0_fears cy P) (fun _ => none) (fun _ => some none) (some .boolean) 4 (sp_X0_fears cy P) := by
  intro as σ K KX J hlen hT hJ hOld
  obtain ⟨-, -, hT⟩ := hT
  split at hT
  · rename_i b f
    obtain ⟨hm, bo, sg, st, hr, tr, sa, sy, hb, hT1, hT2⟩ := onBoat_spec hT
    refine wp_of_S hJ (ct []) 400 _ _ _ _ _ _ ?_
    simp only [w_iload_n (cut := ct []) (pc' := 1) (i := 1) rfl dX0_fears_0 rfl rfl, w_iconst (cut := ct []) (pc' := 2) (v := 2) rfl dX0_fears_1 rfl rfl, w_iand (cut := ct []) (pc' := 3) rfl dX0_fears_2 rfl, w_if_eq (cut := ct []) (pc' := 6) (t := 10) rfl dX0_fears_3 rfl (by decide) rfl, w_iconst (cut := ct []) (pc' := 7) (v := 1) rfl dX0_fears_6 rfl rfl, w_goto (cut := ct []) (t := 11) rfl dX0_fears_7 (by decide) rfl, w_iconst (cut := ct []) (pc' := 11) (v := 0) rfl dX0_fears_10 rfl rfl, w_istore_n (cut := ct []) (pc' := 12) (i := 2) rfl dX0_fears_11 rfl rfl, w_iload_n (cut := ct []) (pc' := 13) (i := 1) rfl dX0_fears_12 rfl rfl, w_iconst (cut := ct []) (pc' := 14) (v := 1) rfl dX0_fears_13 rfl rfl, w_iand (cut := ct []) (pc' := 15) rfl dX0_fears_14 rfl, w_if_eq (cut := ct []) (pc' := 18) (t := 22) rfl dX0_fears_15 rfl (by decide) rfl, w_iconst (cut := ct []) (pc' := 19) (v := 1) rfl dX0_fears_18 rfl rfl, w_goto (cut := ct []) (t := 23) rfl dX0_fears_19 (by decide) rfl, w_iconst (cut := ct []) (pc' := 23) (v := 0) rfl dX0_fears_22 rfl rfl, w_istore_n (cut := ct []) (pc' := 24) (i := 3) rfl dX0_fears_23 rfl rfl, w_iload_n (cut := ct []) (pc' := 25) (i := 2) rfl dX0_fears_24 rfl rfl, w_if_eq (cut := ct []) (pc' := 28) (t := 36) rfl dX0_fears_25 rfl (by decide) rfl, w_aload_n (cut := ct []) (pc' := 29) (i := 0) rfl dX0_fears_28 rfl rfl, w_getfield (cut := ct []) (pc' := 32) rfl dX0_fears_29 rfl (q_X0_f15 P), w_iconst (cut := ct []) (pc' := 33) (v := 1) rfl dX0_fears_32 rfl rfl, w_icmp_le (cut := ct []) (pc' := 36) (t := 47) rfl dX0_fears_33 rfl (by decide) rfl, w_iload_n (cut := ct []) (pc' := 37) (i := 3) rfl dX0_fears_36 rfl rfl, w_if_eq (cut := ct []) (pc' := 40) (t := 51) rfl dX0_fears_37 rfl (by decide) rfl, w_aload_n (cut := ct []) (pc' := 41) (i := 0) rfl dX0_fears_40 rfl rfl, w_getfield (cut := ct []) (pc' := 44) rfl dX0_fears_41 rfl (q_X0_f15 P), w_if_ne (cut := ct []) (pc' := 47) (t := 51) rfl dX0_fears_44 rfl (by decide) rfl, w_iconst (cut := ct []) (pc' := 48) (v := 1) rfl dX0_fears_47 rfl rfl, w_goto (cut := ct []) (t := 52) rfl dX0_fears_48 (by decide) rfl, w_iconst (cut := ct []) (pc' := 52) (v := 0) rfl dX0_fears_51 rfl rfl, w_ireturn (ty := .boolean) (cut := ct []) rfl dX0_fears_52 rfl, rsum, cg_int, cg_ref, cg_null, nby0, strd, mStr, onAL, true_imp_iff, false_imp_iff, not_true_eq_false, not_false_eq_true, Classical.not_not, eq_self, e10, e01, em1, Int32.reduceLT, Int32.reduceLE, onBoat, onGale, onOut, onPort, onRep, onWarn, yn, mI, mS, b0, okA, rcvd, nb0, nb1, ini, List.map_cons, List.map_nil, List.replicate_zero, List.replicate_succ, List.append_nil, ldI, ldA, incK, getK, putK, oldK, castK, inv1, nwO, nwA, nwR, alen, ald, bald, ast, lald, last, rald, rast, goTo, nth, sto, setN, popN, okv, cat1_int, cat1_ref, cat1_null, cat1_rf, va_rf, hup_same, hup_hup, List.length_cons, List.length_nil, List.nil_append, List.cons_append, Option.toList, true_and, and_true, Nat.reduceAdd, Nat.reduceSub, Nat.reduceLT, Nat.reduceLeDiff, Nat.zero_le, Nat.sub_zero, Nat.zero_lt_succ, Nat.lt_add_left_iff_pos, Nat.succ_lt_succ_iff, sp_X0_fears, hb, fearsC]
    grind [fearsC]
  · exact hT.elim
set_option maxRecDepth 100000 in
theorem con_X0_fears {l : Launch} {s0 : State} {D : va_G} {cy : Nat → ClassId} {P : Pm} {a0 : Array Value} (hE : E0 l s0 D cy P a0) : Con l s0 D yX0_fears (Cond.code yX0_fears cX0_fears 4 (some .boolean)) 0 0 (sp_X0_fears cy P) := by
  refine con_of (clok_X0 hE _) (by decide) (fun as σ K KX h => okA_cat h.1) (Nat.le_of_ble_eq_true rfl) ?_ ?_ (m_X0_fears cy P hE.2.2.2.1)
  · intro p e R s m args below meth c A Q hfr hlo hW B kd j g hg
    cases hg
  · intro p e R s m args below meth c A K KX hfr hlo hW B htab
    exact xok_none htab
def iv_X0_sailOrStay (cy : Nat → ClassId) (P : Pm) : Nat → Nat → Option Sg
  | 0, 40 => some (sp_X0_fears cy P)
  | 0, 37 => some (sp_X0_restAtHome cy P)
  | _, _ => none
def sp_X0_sailOrStay (cy : Nat → ClassId) (P : Pm) : Sg := mI 1 [0] b0 (fun as σ K _ => match as with
  | [.ref b, .int f] => onBoat σ b (fun hm bo sg st hr tr sa sy => (fearsC bo f → K none (hup σ b (oBoat hm bo sg 0 (-1) tr sa (sy + 1)))) ∧ (¬ fearsC bo f → K none (hup σ b (oBoat hm bo sg 2 (hr + tr) tr (sa + 1) sy))))
  | _ => False)
set_option maxHeartbeats 2000000 in
theorem m_X0_sailOrStay (cy : Nat → ClassId) (P : Pm) (hP : PmOK P) : MOK (cl_X0 P) cy P.2.1 obj cX0_sailOrStay (iv_X0_sailOrStay cy P) (fun _ => none) (fun _ => some none) (none) 2 (sp_X0_sailOrStay cy P) := by
  intro as σ K KX J hlen hT hJ hOld
  obtain ⟨-, -, hT⟩ := hT
  split at hT
  · rename_i b f
    obtain ⟨hm, bo, sg, st, hr, tr, sa, sy, hb, hT⟩ := onBoat_spec hT
    refine wp_of_S hJ (ct []) 400 _ _ _ _ _ _ ?_
    simp only [w_aload_n (cut := ct []) (pc' := 1) (i := 0) rfl dX0_sailOrStay_0 rfl rfl, w_iload_n (cut := ct []) (pc' := 2) (i := 1) rfl dX0_sailOrStay_1 rfl rfl, w_invoke (inv := iv_X0_sailOrStay cy P) (kd := 0) (f := 40) (g := sp_X0_fears cy P) (cut := ct []) rfl dX0_sailOrStay_2 rfl (by decide) rfl, w_if_eq (cut := ct []) (pc' := 8) (t := 25) rfl dX0_sailOrStay_5 rfl (by decide) rfl, w_aload_n (cut := ct []) (pc' := 9) (i := 0) rfl dX0_sailOrStay_8 rfl rfl, w_dup (cut := ct []) (pc' := 10) rfl dX0_sailOrStay_9 rfl, w_getfield (cut := ct []) (pc' := 13) rfl dX0_sailOrStay_10 rfl (q_X0_f34 P), w_iconst (cut := ct []) (pc' := 14) (v := 1) rfl dX0_sailOrStay_13 rfl rfl, w_iadd (cut := ct []) (pc' := 15) rfl dX0_sailOrStay_14 rfl, w_putfield (cut := ct []) (pc' := 18) rfl dX0_sailOrStay_15 rfl (q_X0_f34 P), w_aload_n (cut := ct []) (pc' := 19) (i := 0) rfl dX0_sailOrStay_18 rfl rfl, w_invoke (inv := iv_X0_sailOrStay cy P) (kd := 0) (f := 37) (g := sp_X0_restAtHome cy P) (cut := ct []) rfl dX0_sailOrStay_19 rfl (by decide) rfl, w_goto (cut := ct []) (t := 53) rfl dX0_sailOrStay_22 (by decide) rfl, w_aload_n (cut := ct []) (pc' := 26) (i := 0) rfl dX0_sailOrStay_25 rfl rfl, w_dup (cut := ct []) (pc' := 27) rfl dX0_sailOrStay_26 rfl, w_getfield (cut := ct []) (pc' := 30) rfl dX0_sailOrStay_27 rfl (q_X0_f31 P), w_iconst (cut := ct []) (pc' := 31) (v := 1) rfl dX0_sailOrStay_30 rfl rfl, w_iadd (cut := ct []) (pc' := 32) rfl dX0_sailOrStay_31 rfl, w_putfield (cut := ct []) (pc' := 35) rfl dX0_sailOrStay_32 rfl (q_X0_f31 P), w_aload_n (cut := ct []) (pc' := 36) (i := 0) rfl dX0_sailOrStay_35 rfl rfl, w_iconst (cut := ct []) (pc' := 37) (v := 2) rfl dX0_sailOrStay_36 rfl rfl, w_putfield (cut := ct []) (pc' := 40) rfl dX0_sailOrStay_37 rfl (q_X0_f22 P), w_aload_n (cut := ct []) (pc' := 41) (i := 0) rfl dX0_sailOrStay_40 rfl rfl, w_dup (cut := ct []) (pc' := 42) rfl dX0_sailOrStay_41 rfl, w_getfield (cut := ct []) (pc' := 45) rfl dX0_sailOrStay_42 rfl (q_X0_f25 P), w_aload_n (cut := ct []) (pc' := 46) (i := 0) rfl dX0_sailOrStay_45 rfl rfl, w_getfield (cut := ct []) (pc' := 49) rfl dX0_sailOrStay_46 rfl (q_X0_f28 P), w_iadd (cut := ct []) (pc' := 50) rfl dX0_sailOrStay_49 rfl, w_putfield (cut := ct []) (pc' := 53) rfl dX0_sailOrStay_50 rfl (q_X0_f25 P), w_return (cut := ct []) rfl dX0_sailOrStay_53 rfl, rsum, cg_int, cg_ref, cg_null, nby0, strd, mStr, onAL, true_imp_iff, false_imp_iff, not_true_eq_false, not_false_eq_true, Classical.not_not, eq_self, e10, e01, em1, Int32.reduceLT, Int32.reduceLE, onBoat, onGale, onOut, onPort, onRep, onWarn, yn, mI, mS, b0, okA, rcvd, nb0, nb1, ini, List.map_cons, List.map_nil, List.replicate_zero, List.replicate_succ, List.append_nil, ldI, ldA, incK, getK, putK, oldK, castK, inv1, nwO, nwA, nwR, alen, ald, bald, ast, lald, last, rald, rast, goTo, nth, sto, setN, popN, okv, cat1_int, cat1_ref, cat1_null, cat1_rf, va_rf, hup_same, hup_hup, List.length_cons, List.length_nil, List.nil_append, List.cons_append, Option.toList, true_and, and_true, Nat.reduceAdd, Nat.reduceSub, Nat.reduceLT, Nat.reduceLeDiff, Nat.zero_le, Nat.sub_zero, Nat.zero_lt_succ, Nat.lt_add_left_iff_pos, Nat.succ_lt_succ_iff, sp_X0_sailOrStay, hb, sp_X0_fears, sp_X0_restAtHome]
    exact hT
  · exact hT.elim
set_option maxRecDepth 100000 in
theorem con_X0_sailOrStay {l : Launch} {s0 : State} {D : va_G} {cy : Nat → ClassId} {P : Pm} {a0 : Array Value} (hE : E0 l s0 D cy P a0) : Con l s0 D yX0_sailOrStay (Cond.code yX0_sailOrStay cX0_sailOrStay 2 none) 1 23 (sp_X0_sailOrStay cy P) := by
  refine con_of (clok_X0 hE _) (by decide) (fun as σ K KX h => okA_cat h.1) (Nat.le_of_ble_eq_true rfl) ?_ ?_ (m_X0_sailOrStay cy P hE.2.2.2.1)
  · intro p e R s m args below meth c A Q hfr hlo hW B kd j g hg
    unfold iv_X0_sailOrStay at hg
    split at hg
    · cases hg; exact inv_V (ci := 1) B (con_X0_fears hE) rfl (fun as σ K KX h => rcvd_spec h.2.1) (cw_mk hE hW tw_839 rfl tw_27 ⟨by decide, by decide⟩ rfl) rfl (wd hE hW tw_836 rfl) (wd hE hW tw_838 rfl) (wd hE hW (List.mem_of_getElem? (i := 23) (by decide +kernel)) rfl) (by rw [hfr]; decide) (by rw [hlo]; decide)
    · cases hg; exact inv_V (ci := 1) B (con_X0_restAtHome hE) rfl (fun as σ K KX h => rcvd_spec h.2.1) (cw_mk hE hW tw_810 rfl tw_27 ⟨by decide, by decide⟩ rfl) rfl (wd hE hW tw_807 rfl) (wd hE hW tw_809 rfl) (wd hE hW (List.mem_of_getElem? (i := 21) (by decide +kernel)) rfl) (by rw [hfr]; decide) (by rw [hlo]; decide)
    · cases hg
  · intro p e R s m args below meth c A K KX hfr hlo hW B htab
    exact xok_none htab
