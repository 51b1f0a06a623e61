def iv_X8_within (cy : Nat → ClassId) (P : Pm) : Nat → Nat → Option Sg
  | _, _ => none
def sp_X8_within (cy : Nat → ClassId) (P : Pm) : Sg := mS [0, 0, 0] b0 (fun as σ K _ => match as with
  | [.int x, .int lo, .int hi] => yn (lo ≤ x ∧ x ≤ hi) K σ
  | _ => False)
set_option maxHeartbeats 2000000 in
theorem m_X8_within (cy : Nat → ClassId) (P : Pm) (hP : PmOK P) : MOK (cl_X8 P) cy P.2.1 obj cX8_within (iv_X8_within cy P) (fun _ => none) (fun _ => some none) (some .boolean) 3 (sp_X8_within cy P) := by
  intro as σ K KX J hlen hT hJ hOld
  obtain ⟨-, hT⟩ := hT
  split at hT
  · rename_i x lo hi
    obtain ⟨hT1, hT2⟩ := hT
    refine wp_of_S hJ (ct []) 400 _ _ _ _ _ _ ?_
    simp only [w_iload_n (cut := ct []) (pc' := 1) (i := 0) rfl dX8_within_0 rfl rfl, w_iload_n (cut := ct []) (pc' := 2) (i := 1) rfl dX8_within_1 rfl rfl, w_icmp_lt (cut := ct []) (pc' := 5) (t := 14) rfl dX8_within_2 rfl (by decide) rfl, w_iload_n (cut := ct []) (pc' := 6) (i := 0) rfl dX8_within_5 rfl rfl, w_iload_n (cut := ct []) (pc' := 7) (i := 2) rfl dX8_within_6 rfl rfl, w_icmp_gt (cut := ct []) (pc' := 10) (t := 14) rfl dX8_within_7 rfl (by decide) rfl, w_iconst (cut := ct []) (pc' := 11) (v := 1) rfl dX8_within_10 rfl rfl, w_goto (cut := ct []) (t := 15) rfl dX8_within_11 (by decide) rfl, w_iconst (cut := ct []) (pc' := 15) (v := 0) rfl dX8_within_14 rfl rfl, w_ireturn (ty := .boolean) (cut := ct []) rfl dX8_within_15 rfl, rsum, cg_int, cg_ref, cg_null, nby0, strd, mStr, onAL, true_imp_iff, false_imp_iff, not_true_eq_false, not_false_eq_true, Classical.not_not, eq_self, e10, e01, em1, Int32.reduceLT, Int32.reduceLE, onBoat, onGale, onOut, onPort, onRep, onWarn, yn, mI, mS, b0, okA, rcvd, nb0, nb1, ini, List.map_cons, List.map_nil, List.replicate_zero, List.replicate_succ, List.append_nil, ldI, ldA, incK, getK, putK, oldK, castK, inv1, nwO, nwA, nwR, alen, ald, bald, ast, lald, last, rald, rast, goTo, nth, sto, setN, popN, okv, cat1_int, cat1_ref, cat1_null, cat1_rf, va_rf, hup_same, hup_hup, List.length_cons, List.length_nil, List.nil_append, List.cons_append, Option.toList, true_and, and_true, Nat.reduceAdd, Nat.reduceSub, Nat.reduceLT, Nat.reduceLeDiff, Nat.zero_le, Nat.sub_zero, Nat.zero_lt_succ, Nat.lt_add_left_iff_pos, Nat.succ_lt_succ_iff, sp_X8_within]
    grind
  · exact hT.elim
set_option maxRecDepth 100000 in
theorem con_X8_within {l : Launch} {s0 : State} {D : va_G} {cy : Nat → ClassId} {P : Pm} {a0 : Array Value} (hE : E0 l s0 D cy P a0) : Con l s0 D yX8_within (Cond.code yX8_within cX8_within 3 (some .boolean)) 0 0 (sp_X8_within cy P) := by
  refine con_of (clok_X8 hE _) (by decide) (fun as σ K KX h => okA_cat h.1) (Nat.le_of_ble_eq_true rfl) ?_ ?_ (m_X8_within cy P hE.2.2.2.1)
  · intro p e R s m args below meth c A Q hfr hlo hW B kd j g hg
    cases hg
  · intro p e R s m args below meth c A K KX hfr hlo hW B htab
    exact xok_none htab
def iv_X1_init (cy : Nat → ClassId) (P : Pm) : Nat → Nat → Option Sg
  | 2, 1 => some (sp_OBJINIT cy P)
  | _, _ => none
def sp_X1_init (cy : Nat → ClassId) (P : Pm) : Sg := mI 2 [0, 0, 0, 0] b0 (fun as σ K _ => match as with
  | [.ref b, .int pt, .int fr, .int to, .int fo] => σ b = some (.inr (2, [.int 0, .int 0, .int 0, .int 0])) ∧ K none (hup σ b (oGale pt fr to fo))
  | _ => False)
set_option maxHeartbeats 2000000 in
theorem m_X1_init (cy : Nat → ClassId) (P : Pm) (hP : PmOK P) : MOK (cl_X1i P) cy P.2.1 obj cX1_init (iv_X1_init cy P) (fun _ => none) (fun _ => some none) (none) 5 (sp_X1_init cy P) := by
  intro as σ K KX J hlen hT hJ hOld
  obtain ⟨-, -, hT⟩ := hT
  split at hT
  · rename_i b pt fr to fo
    obtain ⟨hb, hT⟩ := hT
    refine wp_of_S hJ (ct []) 400 _ _ _ _ _ _ ?_
    simp only [w_aload_n (cut := ct []) (pc' := 1) (i := 0) rfl dX1_init_0 rfl rfl, w_invoke (inv := iv_X1_init cy P) (kd := 2) (f := 1) (g := sp_OBJINIT cy P) (cut := ct []) rfl dX1_init_1 rfl (by decide) rfl, w_aload_n (cut := ct []) (pc' := 5) (i := 0) rfl dX1_init_4 rfl rfl, w_iload_n (cut := ct []) (pc' := 6) (i := 1) rfl dX1_init_5 rfl rfl, w_putfield (cut := ct []) (pc' := 9) rfl dX1_init_6 rfl (q_X1i_f7 P), w_aload_n (cut := ct []) (pc' := 10) (i := 0) rfl dX1_init_9 rfl rfl, w_iload_n (cut := ct []) (pc' := 11) (i := 2) rfl dX1_init_10 rfl rfl, w_putfield (cut := ct []) (pc' := 14) rfl dX1_init_11 rfl (q_X1i_f13 P), w_aload_n (cut := ct []) (pc' := 15) (i := 0) rfl dX1_init_14 rfl rfl, w_iload_n (cut := ct []) (pc' := 16) (i := 3) rfl dX1_init_15 rfl rfl, w_putfield (cut := ct []) (pc' := 19) rfl dX1_init_16 rfl (q_X1i_f16 P), w_aload_n (cut := ct []) (pc' := 20) (i := 0) rfl dX1_init_19 rfl rfl, w_iload (cut := ct []) (pc' := 22) (i := 4) rfl dX1_init_20 rfl rfl, w_putfield (cut := ct []) (pc' := 25) rfl dX1_init_22 rfl (q_X1i_f19 P), w_return (cut := ct []) rfl dX1_init_25 rfl, rsum, cg_int, cg_ref, cg_null, nby0, strd, mStr, onAL, true_imp_iff, false_imp_iff, not_true_eq_false, not_false_eq_true, Classical.not_not, eq_self, e10, e01, em1, Int32.reduceLT, Int32.reduceLE, onBoat, onGale, onOut, onPort, onRep, onWarn, yn, mI, mS, b0, okA, rcvd, nb0, nb1, ini, List.map_cons, List.map_nil, List.replicate_zero, List.replicate_succ, List.append_nil, ldI, ldA, incK, getK, putK, oldK, castK, inv1, nwO, nwA, nwR, alen, ald, bald, ast, lald, last, rald, rast, goTo, nth, sto, setN, popN, okv, cat1_int, cat1_ref, cat1_null, cat1_rf, va_rf, hup_same, hup_hup, List.length_cons, List.length_nil, List.nil_append, List.cons_append, Option.toList, true_and, and_true, Nat.reduceAdd, Nat.reduceSub, Nat.reduceLT, Nat.reduceLeDiff, Nat.zero_le, Nat.sub_zero, Nat.zero_lt_succ, Nat.lt_add_left_iff_pos, Nat.succ_lt_succ_iff, sp_X1_init, hb, sp_OBJINIT]
    exact hT
  · exact hT.elim
set_option maxRecDepth 100000 in
theorem con_X1_init {l : Launch} {s0 : State} {D : va_G} {cy : Nat → ClassId} {P : Pm} {a0 : Array Value} (hE : E0 l s0 D cy P a0) : Con l s0 D yX1_init (Cond.code yX1_init cX1_init 5 none) 1 20 (sp_X1_init cy P) := by
  refine con_of (clok_X1i hE) (by decide) (fun as σ K KX h => okA_cat h.1) (Nat.le_of_ble_eq_true rfl) ?_ ?_ (m_X1_init cy P hE.2.2.2.1)
  · intro p e R s m args below meth c A Q hfr hlo hW B kd j g hg
    unfold iv_X1_init at hg
    split at hg
    · cases hg; exact inv_obj B hE tw_648 tw_36 tw_37 (by rw [hfr]; decide) (by rw [hlo]; decide)
    · cases hg
  · intro p e R s m args below meth c A K KX hfr hlo hW B htab
    exact xok_none htab
def iv_X2_meets (cy : Nat → ClassId) (P : Pm) : Nat → Nat → Option Sg
  | _, _ => none
/-- a rule's condition at an outlook -/
def meetsC (k n co gb gl wi : Int32) : Prop := (k = 0 ∧ ¬ gb = -1 ∧ ¬ gl = -1 ∧ n < gb - gl) ∨ (k = 1 ∧ ¬ gl = -1 ∧ gl < n) ∨ (k = 2 ∧ n < wi) ∨ (k = 3 ∧ co = n)
def sp_X2_meets (cy : Nat → ClassId) (P : Pm) : Sg := mI 3 [0, 0] b0 (fun as σ K _ => match as with
  | [.ref b, .int k, .int n] => onOut σ b (fun co gb gl wi => (k = 0 ∨ k = 1 ∨ k = 2 ∨ k = 3) ∧ yn (meetsC k n co gb gl wi) K σ)
  | _ => False)
set_option maxHeartbeats 2000000 in
theorem m_X2_meets (cy : Nat → ClassId) (P : Pm) (hP : PmOK P) : MOK (cl_X2 P) cy P.2.1 obj cX2_meets (iv_X2_meets cy P) (fun _ => none) (fun _ => some none) (some .boolean) 3 (sp_X2_meets cy P) := by
  intro as σ K KX J hlen hT hJ hOld
  obtain ⟨-, -, hT⟩ := hT
  split at hT
  · rename_i b k n
    obtain ⟨co, gb, gl, wi, hb, hk, hT1, hT2⟩ := onOut_spec hT
    rcases hk with rfl | rfl | rfl | rfl
    all_goals
      refine wp_of_S hJ (ct []) 400 _ _ _ _ _ _ ?_
      simp only [w_iload_n (cut := ct []) (pc' := 1) (i := 1) rfl dX2_meets_0 rfl rfl, w_tsw (v := 0) (o := 31) (cut := ct []) (t := 32) rfl dX2_meets_1 (by decide) (by decide) rfl (by decide) rfl, w_tsw (v := 1) (o := 66) (cut := ct []) (t := 67) rfl dX2_meets_1 (by decide) (by decide) rfl (by decide) rfl, w_tsw (v := 2) (o := 88) (cut := ct []) (t := 89) rfl dX2_meets_1 (by decide) (by decide) rfl (by decide) rfl, w_tsw (v := 3) (o := 102) (cut := ct []) (t := 103) rfl dX2_meets_1 (by decide) (by decide) rfl (by decide) rfl, w_tsd (cut := ct []) (t := 117) rfl dX2_meets_1 (by decide) rfl, w_aload_n (cut := ct []) (pc' := 33) (i := 0) rfl dX2_meets_32 rfl rfl, w_getfield (cut := ct []) (pc' := 36) rfl dX2_meets_33 rfl (q_X2_f15 P), w_iconst (cut := ct []) (pc' := 37) (v := (-1)) rfl dX2_meets_36 rfl rfl, w_icmp_eq (cut := ct []) (pc' := 40) (t := 65) rfl dX2_meets_37 rfl (by decide) rfl, w_aload_n (cut := ct []) (pc' := 41) (i := 0) rfl dX2_meets_40 rfl rfl, w_getfield (cut := ct []) (pc' := 44) rfl dX2_meets_41 rfl (q_X2_f18 P), w_iconst (cut := ct []) (pc' := 45) (v := (-1)) rfl dX2_meets_44 rfl rfl, w_icmp_eq (cut := ct []) (pc' := 48) (t := 65) rfl dX2_meets_45 rfl (by decide) rfl, w_aload_n (cut := ct []) (pc' := 49) (i := 0) rfl dX2_meets_48 rfl rfl, w_getfield (cut := ct []) (pc' := 52) rfl dX2_meets_49 rfl (q_X2_f15 P), w_aload_n (cut := ct []) (pc' := 53) (i := 0) rfl dX2_meets_52 rfl rfl, w_getfield (cut := ct []) (pc' := 56) rfl dX2_meets_53 rfl (q_X2_f18 P), w_isub (cut := ct []) (pc' := 57) rfl dX2_meets_56 rfl, w_iload_n (cut := ct []) (pc' := 58) (i := 2) rfl dX2_meets_57 rfl rfl, w_icmp_le (cut := ct []) (pc' := 61) (t := 65) rfl dX2_meets_58 rfl (by decide) rfl, w_iconst (cut := ct []) (pc' := 62) (v := 1) rfl dX2_meets_61 rfl rfl, w_goto (cut := ct []) (t := 66) rfl dX2_meets_62 (by decide) rfl, w_iconst (cut := ct []) (pc' := 66) (v := 0) rfl dX2_meets_65 rfl rfl, w_ireturn (ty := .boolean) (cut := ct []) rfl dX2_meets_66 rfl, w_aload_n (cut := ct []) (pc' := 68) (i := 0) rfl dX2_meets_67 rfl rfl, w_getfield (cut := ct []) (pc' := 71) rfl dX2_meets_68 rfl (q_X2_f18 P), w_iconst (cut := ct []) (pc' := 72) (v := (-1)) rfl dX2_meets_71 rfl rfl, w_icmp_eq (cut := ct []) (pc' := 75) (t := 87) rfl dX2_meets_72 rfl (by decide) rfl, w_aload_n (cut := ct []) (pc' := 76) (i := 0) rfl dX2_meets_75 rfl rfl, w_getfield (cut := ct []) (pc' := 79) rfl dX2_meets_76 rfl (q_X2_f18 P), w_iload_n (cut := ct []) (pc' := 80) (i := 2) rfl dX2_meets_79 rfl rfl, w_icmp_ge (cut := ct []) (pc' := 83) (t := 87) rfl dX2_meets_80 rfl (by decide) rfl, w_iconst (cut := ct []) (pc' := 84) (v := 1) rfl dX2_meets_83 rfl rfl, w_goto (cut := ct []) (t := 88) rfl dX2_meets_84 (by decide) rfl, w_iconst (cut := ct []) (pc' := 88) (v := 0) rfl dX2_meets_87 rfl rfl, w_ireturn (ty := .boolean) (cut := ct []) rfl dX2_meets_88 rfl, w_aload_n (cut := ct []) (pc' := 90) (i := 0) rfl dX2_meets_89 rfl rfl, w_getfield (cut := ct []) (pc' := 93) rfl dX2_meets_90 rfl (q_X2_f21 P), w_iload_n (cut := ct []) (pc' := 94) (i := 2) rfl dX2_meets_93 rfl rfl, w_icmp_le (cut := ct []) (pc' := 97) (t := 101) rfl dX2_meets_94 rfl (by decide) rfl, w_iconst (cut := ct []) (pc' := 98) (v := 1) rfl dX2_meets_97 rfl rfl, w_goto (cut := ct []) (t := 102) rfl dX2_meets_98 (by decide) rfl, w_iconst (cut := ct []) (pc' := 102) (v := 0) rfl dX2_meets_101 rfl rfl, w_ireturn (ty := .boolean) (cut := ct []) rfl dX2_meets_102 rfl, w_aload_n (cut := ct []) (pc' := 104) (i := 0) rfl dX2_meets_103 rfl rfl, w_getfield (cut := ct []) (pc' := 107) rfl dX2_meets_104 rfl (q_X2_f9 P), w_iload_n (cut := ct []) (pc' := 108) (i := 2) rfl dX2_meets_107 rfl rfl, w_icmp_ne (cut := ct []) (pc' := 111) (t := 115) rfl dX2_meets_108 rfl (by decide) rfl, w_iconst (cut := ct []) (pc' := 112) (v := 1) rfl dX2_meets_111 rfl rfl, w_goto (cut := ct []) (t := 116) rfl dX2_meets_112 (by decide) rfl, w_iconst (cut := ct []) (pc' := 116) (v := 0) rfl dX2_meets_115 rfl rfl, w_ireturn (ty := .boolean) (cut := ct []) rfl dX2_meets_116 rfl, w_iconst (cut := ct []) (pc' := 118) (v := 0) rfl dX2_meets_117 rfl rfl, w_ireturn (ty := .boolean) (cut := ct []) rfl dX2_meets_118 rfl, rsum, cg_int, cg_ref, cg_null, nby0, strd, mStr, onAL, true_imp_iff, false_imp_iff, not_true_eq_false, not_false_eq_true, Classical.not_not, eq_self, e10, e01, em1, Int32.reduceLT, Int32.reduceLE, onBoat, onGale, onOut, onPort, onRep, onWarn, yn, mI, mS, b0, okA, rcvd, nb0, nb1, ini, List.map_cons, List.map_nil, List.replicate_zero, List.replicate_succ, List.append_nil, ldI, ldA, incK, getK, putK, oldK, castK, inv1, nwO, nwA, nwR, alen, ald, bald, ast, lald, last, rald, rast, goTo, nth, sto, setN, popN, okv, cat1_int, cat1_ref, cat1_null, cat1_rf, va_rf, hup_same, hup_hup, List.length_cons, List.length_nil, List.nil_append, List.cons_append, Option.toList, true_and, and_true, Nat.reduceAdd, Nat.reduceSub, Nat.reduceLT, Nat.reduceLeDiff, Nat.zero_le, Nat.sub_zero, Nat.zero_lt_succ, Nat.lt_add_left_iff_pos, Nat.succ_lt_succ_iff, sp_X2_meets, hb]
      (try trace_state)
      grind [meetsC]
  · exact hT.elim
set_option maxRecDepth 100000 in
theorem con_X2_meets {l : Launch} {s0 : State} {D : va_G} {cy : Nat → ClassId} {P : Pm} {a0 : Array Value} (hE : E0 l s0 D cy P a0) : Con l s0 D yX2_meets (Cond.code yX2_meets cX2_meets 3 (some .boolean)) 0 0 (sp_X2_meets cy P) := by
  refine con_of (clok_X2 hE _) (by decide) (fun as σ K KX h => okA_cat h.1) (Nat.le_of_ble_eq_true rfl) ?_ ?_ (m_X2_meets cy P hE.2.2.2.1)
  · intro p e R s m args below meth c A Q hfr hlo hW B kd j g hg
    cases hg
  · intro p e R s m args below meth c A K KX hfr hlo hW B htab
    exact xok_none htab
def iv_X2_init (cy : Nat → ClassId) (P : Pm) : Nat → Nat → Option Sg
  | 2, 3 => some (sp_OBJINIT cy P)
  | _, _ => none
def sp_X2_init (cy : Nat → ClassId) (P : Pm) : Sg := mI 3 [] b0 (fun as σ K _ => match as with
  | [.ref b] => σ b = some (.inr (3, [.int 0, .int 0, .int 0, .int 0])) ∧ K none (hup σ b (oOut (-1) (-1) (-1) (-1)))
  | _ => False)
set_option maxHeartbeats 2000000 in
theorem m_X2_init (cy : Nat → ClassId) (P : Pm) (hP : PmOK P) : MOK (cl_X2i P) cy P.2.1 obj cX2_init (iv_X2_init cy P) (fun _ => none) (fun _ => some none) (none) 1 (sp_X2_init cy P) := by
  intro as σ K KX J hlen hT hJ hOld
  obtain ⟨-, -, hT⟩ := hT
  split at hT
  · rename_i b
    obtain ⟨hb, hT⟩ := hT
    refine wp_of_S hJ (ct []) 400 _ _ _ _ _ _ ?_
    simp only [w_aload_n (cut := ct []) (pc' := 1) (i := 0) rfl dX2_init_0 rfl rfl, w_invoke (inv := iv_X2_init cy P) (kd := 2) (f := 3) (g := sp_OBJINIT cy P) (cut := ct []) rfl dX2_init_1 rfl (by decide) rfl, w_aload_n (cut := ct []) (pc' := 5) (i := 0) rfl dX2_init_4 rfl rfl, w_iconst (cut := ct []) (pc' := 6) (v := (-1)) rfl dX2_init_5 rfl rfl, w_putfield (cut := ct []) (pc' := 9) rfl dX2_init_6 rfl (q_X2i_f9 P), w_aload_n (cut := ct []) (pc' := 10) (i := 0) rfl dX2_init_9 rfl rfl, w_iconst (cut := ct []) (pc' := 11) (v := (-1)) rfl dX2_init_10 rfl rfl, w_putfield (cut := ct []) (pc' := 14) rfl dX2_init_11 rfl (q_X2i_f15 P), w_aload_n (cut := ct []) (pc' := 15) (i := 0) rfl dX2_init_14 rfl rfl, w_iconst (cut := ct []) (pc' := 16) (v := (-1)) rfl dX2_init_15 rfl rfl, w_putfield (cut := ct []) (pc' := 19) rfl dX2_init_16 rfl (q_X2i_f18 P), w_aload_n (cut := ct []) (pc' := 20) (i := 0) rfl dX2_init_19 rfl rfl, w_iconst (cut := ct []) (pc' := 21) (v := (-1)) rfl dX2_init_20 rfl rfl, w_putfield (cut := ct []) (pc' := 24) rfl dX2_init_21 rfl (q_X2i_f21 P), w_return (cut := ct []) rfl dX2_init_24 rfl, rsum, cg_int, cg_ref, cg_null, nby0, strd, mStr, onAL, true_imp_iff, false_imp_iff, not_true_eq_false, not_false_eq_true, Classical.not_not, eq_self, e10, e01, em1, Int32.reduceLT, Int32.reduceLE, onBoat, onGale, onOut, onPort, onRep, onWarn, yn, mI, mS, b0, okA, rcvd, nb0, nb1, ini, List.map_cons, List.map_nil, List.replicate_zero, List.replicate_succ, List.append_nil, ldI, ldA, incK, getK, putK, oldK, castK, inv1, nwO, nwA, nwR, alen, ald, bald, ast, lald, last, rald, rast, goTo, nth, sto, setN, popN, okv, cat1_int, cat1_ref, cat1_null, cat1_rf, va_rf, hup_same, hup_hup, List.length_cons, List.length_nil, List.nil_append, List.cons_append, Option.toList, true_and, and_true, Nat.reduceAdd, Nat.reduceSub, Nat.reduceLT, Nat.reduceLeDiff, Nat.zero_le, Nat.sub_zero, Nat.zero_lt_succ, Nat.lt_add_left_iff_pos, Nat.succ_lt_succ_iff, sp_X2_init, hb, sp_OBJINIT]
    exact hT
  · exact hT.elim
set_option maxRecDepth 100000 in
theorem con_X2_init {l : Launch} {s0 : State} {D : va_G} {cy : Nat → ClassId} {P : Pm} {a0 : Array Value} (hE : E0 l s0 D cy P a0) : Con l s0 D yX2_init (Cond.code yX2_init cX2_init 1 none) 1 20 (sp_X2_init cy P) := by
  refine con_of (clok_X2i hE) (by decide) (fun as σ K KX h => okA_cat h.1) (Nat.le_of_ble_eq_true rfl) ?_ ?_ (m_X2_init cy P hE.2.2.2.1)
  · intro p e R s m args below meth c A Q hfr hlo hW B kd j g hg
    unfold iv_X2_init at hg
    split at hg
    · cases hg; exact inv_obj B hE tw_86 tw_36 tw_37 (by rw [hfr]; decide) (by rw [hlo]; decide)
    · cases hg
  · intro p e R s m args below meth c A K KX hfr hlo hW B htab
    exact xok_none htab
def iv_X2_signOf (cy : Nat → ClassId) (P : Pm) : Nat → Nat → Option Sg
  | _, _ => none
/-- the sign of a kind of condition -/
def signC (k : Int32) : Int32 := if k = 1 then 60 else if k = 3 then 61 else 62
def sp_X2_signOf (cy : Nat → ClassId) (P : Pm) : Sg := mS [0] b0 (fun as σ K _ => match as with
  | [.int k] => (k = 0 ∨ k = 1 ∨ k = 2 ∨ k = 3) ∧ K (some (.int (signC k))) σ
  | _ => False)
set_option maxHeartbeats 2000000 in
theorem m_X2_signOf (cy : Nat → ClassId) (P : Pm) (hP : PmOK P) : MOK (cl_X2 P) cy P.2.1 obj cX2_signOf (iv_X2_signOf cy P) (fun _ => none) (fun _ => some none) (some .char) 1 (sp_X2_signOf cy P) := by
  intro as σ K KX J hlen hT hJ hOld
  obtain ⟨-, hT⟩ := hT
  split at hT
  · rename_i k
    obtain ⟨hk, hT⟩ := hT
    rcases hk with rfl | rfl | rfl | rfl
    all_goals
      refine wp_of_S hJ (ct []) 400 _ _ _ _ _ _ ?_
      simp only [w_iload_n (cut := ct []) (pc' := 1) (i := 0) rfl dX2_signOf_0 rfl rfl, w_lsw (v := 0) (o := 33) (cut := ct []) (t := 34) rfl dX2_signOf_1 (by decide) rfl (by decide) rfl, w_lsw (v := 1) (o := 27) (cut := ct []) (t := 28) rfl dX2_signOf_1 (by decide) rfl (by decide) rfl, w_lsw (v := 2) (o := 33) (cut := ct []) (t := 34) rfl dX2_signOf_1 (by decide) rfl (by decide) rfl, w_lsw (v := 3) (o := 30) (cut := ct []) (t := 31) rfl dX2_signOf_1 (by decide) rfl (by decide) rfl, w_lsw (v := 4) (o := 33) (cut := ct []) (t := 34) rfl dX2_signOf_1 (by decide) rfl (by decide) rfl, w_bipush (cut := ct []) (pc' := 30) (v := 60) rfl dX2_signOf_28 rfl rfl, w_ireturn (ty := .char) (cut := ct []) rfl dX2_signOf_30 rfl, w_bipush (cut := ct []) (pc' := 33) (v := 61) rfl dX2_signOf_31 rfl rfl, w_ireturn (ty := .char) (cut := ct []) rfl dX2_signOf_33 rfl, w_bipush (cut := ct []) (pc' := 36) (v := 62) rfl dX2_signOf_34 rfl rfl, w_ireturn (ty := .char) (cut := ct []) rfl dX2_signOf_36 rfl, rsum, cg_int, cg_ref, cg_null, nby0, strd, mStr, onAL, true_imp_iff, false_imp_iff, not_true_eq_false, not_false_eq_true, Classical.not_not, eq_self, e10, e01, em1, Int32.reduceLT, Int32.reduceLE, onBoat, onGale, onOut, onPort, onRep, onWarn, yn, mI, mS, b0, okA, rcvd, nb0, nb1, ini, List.map_cons, List.map_nil, List.replicate_zero, List.replicate_succ, List.append_nil, ldI, ldA, incK, getK, putK, oldK, castK, inv1, nwO, nwA, nwR, alen, ald, bald, ast, lald, last, rald, rast, goTo, nth, sto, setN, popN, okv, cat1_int, cat1_ref, cat1_null, cat1_rf, va_rf, hup_same, hup_hup, List.length_cons, List.length_nil, List.nil_append, List.cons_append, Option.toList, true_and, and_true, Nat.reduceAdd, Nat.reduceSub, Nat.reduceLT, Nat.reduceLeDiff, Nat.zero_le, Nat.sub_zero, Nat.zero_lt_succ, Nat.lt_add_left_iff_pos, Nat.succ_lt_succ_iff, sp_X2_signOf]
      exact ⟨by decide, hT⟩
  · exact hT.elim
set_option maxRecDepth 100000 in
theorem con_X2_signOf {l : Launch} {s0 : State} {D : va_G} {cy : Nat → ClassId} {P : Pm} {a0 : Array Value} (hE : E0 l s0 D cy P a0) : Con l s0 D yX2_signOf (Cond.code yX2_signOf cX2_signOf 1 (some .char)) 0 0 (sp_X2_signOf cy P) := by
  refine con_of (clok_X2 hE _) (by decide) (fun as σ K KX h => okA_cat h.1) (Nat.le_of_ble_eq_true rfl) ?_ ?_ (m_X2_signOf cy P hE.2.2.2.1)
  · intro p e R s m args below meth c A Q hfr hlo hW B kd j g hg
    cases hg
  · intro p e R s m args below meth c A K KX hfr hlo hW B htab
    exact xok_none htab
def iv_X4_init (cy : Nat → ClassId) (P : Pm) : Nat → Nat → Option Sg
  | 2, 1 => some (sp_OBJINIT cy P)
  | _, _ => none
def sp_X4_init (cy : Nat → ClassId) (P : Pm) : Sg := mI 5 [0, 0, 0, 0, 0, 2] b0 (fun as σ K _ => match as with
  | [.ref b, .int nu, .int wa, .int gl, .int wi, .int kf, ea] => σ b = some (.inr (5, [.int 0, .int 0, .int 0, .int 0, .int 0, .null])) ∧ (ea = .null ∨ ∃ q, ea = .ref q) ∧ K none (hup σ b (oRep nu wa gl wi kf ea))
  | _ => False)
set_option maxHeartbeats 2000000 in
theorem m_X4_init (cy : Nat → ClassId) (P : Pm) (hP : PmOK P) : MOK (cl_X4i P) cy P.2.1 obj cX4_init (iv_X4_init cy P) (fun _ => none) (fun _ => some none) (none) 7 (sp_X4_init cy P) := by
  intro as σ K KX J hlen hT hJ hOld
  obtain ⟨-, -, hT⟩ := hT
  split at hT
  · rename_i b nu wa gl wi kf ea
    obtain ⟨hb, he, hT⟩ := hT
    rcases he with rfl | ⟨q, rfl⟩
    all_goals
      refine wp_of_S hJ (ct []) 400 _ _ _ _ _ _ ?_
      simp only [w_aload_n (cut := ct []) (pc' := 1) (i := 0) rfl dX4_init_0 rfl rfl, w_invoke (inv := iv_X4_init cy P) (kd := 2) (f := 1) (g := sp_OBJINIT cy P) (cut := ct []) rfl dX4_init_1 rfl (by decide) rfl, w_aload_n (cut := ct []) (pc' := 5) (i := 0) rfl dX4_init_4 rfl rfl, w_iload_n (cut := ct []) (pc' := 6) (i := 1) rfl dX4_init_5 rfl rfl, w_putfield (cut := ct []) (pc' := 9) rfl dX4_init_6 rfl (q_X4i_f7 P), w_aload_n (cut := ct []) (pc' := 10) (i := 0) rfl dX4_init_9 rfl rfl, w_iload_n (cut := ct []) (pc' := 11) (i := 2) rfl dX4_init_10 rfl rfl, w_putfield (cut := ct []) (pc' := 14) rfl dX4_init_11 rfl (q_X4i_f13 P), w_aload_n (cut := ct []) (pc' := 15) (i := 0) rfl dX4_init_14 rfl rfl, w_iload_n (cut := ct []) (pc' := 16) (i := 3) rfl dX4_init_15 rfl rfl, w_putfield (cut := ct []) (pc' := 19) rfl dX4_init_16 rfl (q_X4i_f16 P), w_aload_n (cut := ct []) (pc' := 20) (i := 0) rfl dX4_init_19 rfl rfl, w_iload (cut := ct []) (pc' := 22) (i := 4) rfl dX4_init_20 rfl rfl, w_putfield (cut := ct []) (pc' := 25) rfl dX4_init_22 rfl (q_X4i_f19 P), w_aload_n (cut := ct []) (pc' := 26) (i := 0) rfl dX4_init_25 rfl rfl, w_iload (cut := ct []) (pc' := 28) (i := 5) rfl dX4_init_26 rfl rfl, w_putfield (cut := ct []) (pc' := 31) rfl dX4_init_28 rfl (q_X4i_f22 P), w_aload_n (cut := ct []) (pc' := 32) (i := 0) rfl dX4_init_31 rfl rfl, w_aload (cut := ct []) (pc' := 34) (i := 6) rfl dX4_init_32 rfl rfl, w_putfield (cut := ct []) (pc' := 37) rfl dX4_init_34 rfl (q_X4i_f25 P), w_return (cut := ct []) rfl dX4_init_37 rfl, rsum, cg_int, cg_ref, cg_null, nby0, strd, mStr, onAL, true_imp_iff, false_imp_iff, not_true_eq_false, not_false_eq_true, Classical.not_not, eq_self, e10, e01, em1, Int32.reduceLT, Int32.reduceLE, onBoat, onGale, onOut, onPort, onRep, onWarn, yn, mI, mS, b0, okA, rcvd, nb0, nb1, ini, List.map_cons, List.map_nil, List.replicate_zero, List.replicate_succ, List.append_nil, ldI, ldA, incK, getK, putK, oldK, castK, inv1, nwO, nwA, nwR, alen, ald, bald, ast, lald, last, rald, rast, goTo, nth, sto, setN, popN, okv, cat1_int, cat1_ref, cat1_null, cat1_rf, va_rf, hup_same, hup_hup, List.length_cons, List.length_nil, List.nil_append, List.cons_append, Option.toList, true_and, and_true, Nat.reduceAdd, Nat.reduceSub, Nat.reduceLT, Nat.reduceLeDiff, Nat.zero_le, Nat.sub_zero, Nat.zero_lt_succ, Nat.lt_add_left_iff_pos, Nat.succ_lt_succ_iff, sp_X4_init, hb, sp_OBJINIT]
      exact hT
  · exact hT.elim
set_option maxRecDepth 100000 in
theorem con_X4_init {l : Launch} {s0 : State} {D : va_G} {cy : Nat → ClassId} {P : Pm} {a0 : Array Value} (hE : E0 l s0 D cy P a0) : Con l s0 D yX4_init (Cond.code yX4_init cX4_init 7 none) 1 20 (sp_X4_init cy P) := by
  refine con_of (clok_X4i hE) (by decide) (fun as σ K KX h => okA_cat h.1) (Nat.le_of_ble_eq_true rfl) ?_ ?_ (m_X4_init cy P hE.2.2.2.1)
  · intro p e R s m args below meth c A Q hfr hlo hW B kd j g hg
    unfold iv_X4_init at hg
    split at hg
    · cases hg; exact inv_obj B hE tw_457 tw_36 tw_37 (by rw [hfr]; decide) (by rw [hlo]; decide)
    · cases hg
  · intro p e R s m args below meth c A K KX hfr hlo hW B htab
    exact xok_none htab
def iv_X7_init (cy : Nat → ClassId) (P : Pm) : Nat → Nat → Option Sg
  | 2, 3 => some (sp_OBJINIT cy P)
  | _, _ => none
def sp_X7_init (cy : Nat → ClassId) (P : Pm) : Sg := mI 8 [0, 0, 0, 0, 0] b0 (fun as σ K _ => match as with
  | [.ref b, .int ho, .int co, .int fl, .int ru, .int po] => σ b = some (.inr (8, [.int 0, .int 0, .int 0, .int 0, .int 0])) ∧ K none (hup σ b (oWarn ho co fl ru po))
  | _ => False)
set_option maxHeartbeats 2000000 in
theorem m_X7_init (cy : Nat → ClassId) (P : Pm) (hP : PmOK P) : MOK (cl_X7i P) cy P.2.1 obj cX7_init (iv_X7_init cy P) (fun _ => none) (fun _ => some none) (none) 6 (sp_X7_init cy P) := by
  intro as σ K KX J hlen hT hJ hOld
  obtain ⟨-, -, hT⟩ := hT
  split at hT
  · rename_i b ho co fl ru po
    obtain ⟨hb, hT⟩ := hT
    refine wp_of_S hJ (ct []) 400 _ _ _ _ _ _ ?_
    simp only [w_aload_n (cut := ct []) (pc' := 1) (i := 0) rfl dX7_init_0 rfl rfl, w_invoke (inv := iv_X7_init cy P) (kd := 2) (f := 3) (g := sp_OBJINIT cy P) (cut := ct []) rfl dX7_init_1 rfl (by decide) rfl, w_aload_n (cut := ct []) (pc' := 5) (i := 0) rfl dX7_init_4 rfl rfl, w_iload_n (cut := ct []) (pc' := 6) (i := 1) rfl dX7_init_5 rfl rfl, w_putfield (cut := ct []) (pc' := 9) rfl dX7_init_6 rfl (q_X7i_f9 P), w_aload_n (cut := ct []) (pc' := 10) (i := 0) rfl dX7_init_9 rfl rfl, w_iload_n (cut := ct []) (pc' := 11) (i := 2) rfl dX7_init_10 rfl rfl, w_putfield (cut := ct []) (pc' := 14) rfl dX7_init_11 rfl (q_X7i_f15 P), w_aload_n (cut := ct []) (pc' := 15) (i := 0) rfl dX7_init_14 rfl rfl, w_iload_n (cut := ct []) (pc' := 16) (i := 3) rfl dX7_init_15 rfl rfl, w_putfield (cut := ct []) (pc' := 19) rfl dX7_init_16 rfl (q_X7i_f18 P), w_aload_n (cut := ct []) (pc' := 20) (i := 0) rfl dX7_init_19 rfl rfl, w_iload (cut := ct []) (pc' := 22) (i := 4) rfl dX7_init_20 rfl rfl, w_putfield (cut := ct []) (pc' := 25) rfl dX7_init_22 rfl (q_X7i_f21 P), w_aload_n (cut := ct []) (pc' := 26) (i := 0) rfl dX7_init_25 rfl rfl, w_iload (cut := ct []) (pc' := 28) (i := 5) rfl dX7_init_26 rfl rfl, w_putfield (cut := ct []) (pc' := 31) rfl dX7_init_28 rfl (q_X7i_f24 P), w_return (cut := ct []) rfl dX7_init_31 rfl, rsum, cg_int, cg_ref, cg_null, nby0, strd, mStr, onAL, true_imp_iff, false_imp_iff, not_true_eq_false, not_false_eq_true, Classical.not_not, eq_self, e10, e01, em1, Int32.reduceLT, Int32.reduceLE, onBoat, onGale, onOut, onPort, onRep, onWarn, yn, mI, mS, b0, okA, rcvd, nb0, nb1, ini, List.map_cons, List.map_nil, List.replicate_zero, List.replicate_succ, List.append_nil, ldI, ldA, incK, getK, putK, oldK, castK, inv1, nwO, nwA, nwR, alen, ald, bald, ast, lald, last, rald, rast, goTo, nth, sto, setN, popN, okv, cat1_int, cat1_ref, cat1_null, cat1_rf, va_rf, hup_same, hup_hup, List.length_cons, List.length_nil, List.nil_append, List.cons_append, Option.toList, true_and, and_true, Nat.reduceAdd, Nat.reduceSub, Nat.reduceLT, Nat.reduceLeDiff, Nat.zero_le, Nat.sub_zero, Nat.zero_lt_succ, Nat.lt_add_left_iff_pos, Nat.succ_lt_succ_iff, sp_X7_init, hb, sp_OBJINIT]
    exact hT
  · exact hT.elim
set_option maxRecDepth 100000 in
theorem con_X7_init {l : Launch} {s0 : State} {D : va_G} {cy : Nat → ClassId} {P : Pm} {a0 : Array Value} (hE : E0 l s0 D cy P a0) : Con l s0 D yX7_init (Cond.code yX7_init cX7_init 6 none) 1 20 (sp_X7_init cy P) := by
  refine con_of (clok_X7i hE) (by decide) (fun as σ K KX h => okA_cat h.1) (Nat.le_of_ble_eq_true rfl) ?_ ?_ (m_X7_init cy P hE.2.2.2.1)
  · intro p e R s m args below meth c A Q hfr hlo hW B kd j g hg
    unfold iv_X7_init at hg
    split at hg
    · cases hg; exact inv_obj B hE tw_778 tw_36 tw_37 (by rw [hfr]; decide) (by rw [hlo]; decide)
    · cases hg
  · intro p e R s m args below meth c A K KX hfr hlo hW B htab
    exact xok_none htab
def iv_X7_isFor (cy : Nat → ClassId) (P : Pm) : Nat → Nat → Option Sg
  | _, _ => none
def sp_X7_isFor (cy : Nat → ClassId) (P : Pm) : Sg := mI 8 [1] b0 (fun as σ K _ => match as with
  | [.ref b, .ref p] => onWarn σ b (fun ho co fl ru po => onPort σ p (fun nu x y pco pwi la => yn (pco = co ∧ nu < po) K σ))
  | _ => False)
set_option maxHeartbeats 2000000 in
theorem m_X7_isFor (cy : Nat → ClassId) (P : Pm) (hP : PmOK P) : MOK (cl_X7 P) cy P.2.1 obj cX7_isFor (iv_X7_isFor cy P) (fun _ => none) (fun _ => some none) (some .boolean) 2 (sp_X7_isFor cy P) := by
  intro as σ K KX J hlen hT hJ hOld
  obtain ⟨-, -, hT⟩ := hT
  split at hT
  · rename_i b p
    obtain ⟨ho, co, fl, ru, po, hb, hT⟩ := onWarn_spec hT
    obtain ⟨nu, x, y, pco, pwi, la, hp, hT1, hT2⟩ := onPort_spec hT
    all_goals
      refine wp_of_S hJ (ct []) 400 _ _ _ _ _ _ ?_
      simp only [w_aload_n (cut := ct []) (pc' := 1) (i := 1) rfl dX7_isFor_0 rfl rfl, w_getfield (cut := ct []) (pc' := 4) rfl dX7_isFor_1 rfl (q_X7_f27 P), w_aload_n (cut := ct []) (pc' := 5) (i := 0) rfl dX7_isFor_4 rfl rfl, w_getfield (cut := ct []) (pc' := 8) rfl dX7_isFor_5 rfl (q_X7_f15 P), w_icmp_ne (cut := ct []) (pc' := 11) (t := 26) rfl dX7_isFor_8 rfl (by decide) rfl, w_aload_n (cut := ct []) (pc' := 12) (i := 1) rfl dX7_isFor_11 rfl rfl, w_getfield (cut := ct []) (pc' := 15) rfl dX7_isFor_12 rfl (q_X7_f30 P), w_aload_n (cut := ct []) (pc' := 16) (i := 0) rfl dX7_isFor_15 rfl rfl, w_getfield (cut := ct []) (pc' := 19) rfl dX7_isFor_16 rfl (q_X7_f24 P), w_icmp_ge (cut := ct []) (pc' := 22) (t := 26) rfl dX7_isFor_19 rfl (by decide) rfl, w_iconst (cut := ct []) (pc' := 23) (v := 1) rfl dX7_isFor_22 rfl rfl, w_goto (cut := ct []) (t := 27) rfl dX7_isFor_23 (by decide) rfl, w_iconst (cut := ct []) (pc' := 27) (v := 0) rfl dX7_isFor_26 rfl rfl, w_ireturn (ty := .boolean) (cut := ct []) rfl dX7_isFor_27 rfl, rsum, cg_int, cg_ref, cg_null, nby0, strd, mStr, onAL, true_imp_iff, false_imp_iff, not_true_eq_false, not_false_eq_true, Classical.not_not, eq_self, e10, e01, em1, Int32.reduceLT, Int32.reduceLE, onBoat, onGale, onOut, onPort, onRep, onWarn, yn, mI, mS, b0, okA, rcvd, nb0, nb1, ini, List.map_cons, List.map_nil, List.replicate_zero, List.replicate_succ, List.append_nil, ldI, ldA, incK, getK, putK, oldK, castK, inv1, nwO, nwA, nwR, alen, ald, bald, ast, lald, last, rald, rast, goTo, nth, sto, setN, popN, okv, cat1_int, cat1_ref, cat1_null, cat1_rf, va_rf, hup_same, hup_hup, List.length_cons, List.length_nil, List.nil_append, List.cons_append, Option.toList, true_and, and_true, Nat.reduceAdd, Nat.reduceSub, Nat.reduceLT, Nat.reduceLeDiff, Nat.zero_le, Nat.sub_zero, Nat.zero_lt_succ, Nat.lt_add_left_iff_pos, Nat.succ_lt_succ_iff, sp_X7_isFor, hb, hp]
      grind
  · exact hT.elim
set_option maxRecDepth 100000 in
theorem con_X7_isFor {l : Launch} {s0 : State} {D : va_G} {cy : Nat → ClassId} {P : Pm} {a0 : Array Value} (hE : E0 l s0 D cy P a0) : Con l s0 D yX7_isFor (Cond.code yX7_isFor cX7_isFor 2 (some .boolean)) 0 0 (sp_X7_isFor cy P) := by
  refine con_of (clok_X7 hE _) (by decide) (fun as σ K KX h => okA_cat h.1) (Nat.le_of_ble_eq_true rfl) ?_ ?_ (m_X7_isFor cy P hE.2.2.2.1)
  · intro p e R s m args below meth c A Q hfr hlo hW B kd j g hg
    cases hg
  · intro p e R s m args below meth c A K KX hfr hlo hW B htab
    exact xok_none htab
def iv_X7_firstHour (cy : Nat → ClassId) (P : Pm) : Nat → Nat → Option Sg
  | _, _ => none
def sp_X7_firstHour (cy : Nat → ClassId) (P : Pm) : Sg := mI 8 [1] b0 (fun as σ K _ => match as with
  | [.ref b, .ref p] => onWarn σ b (fun ho co fl ru po => onPort σ p (fun nu x y pco pwi la => K (some (.int (ho + pwi))) σ))
  | _ => False)
set_option maxHeartbeats 2000000 in
theorem m_X7_firstHour (cy : Nat → ClassId) (P : Pm) (hP : PmOK P) : MOK (cl_X7 P) cy P.2.1 obj cX7_firstHour (iv_X7_firstHour cy P) (fun _ => none) (fun _ => some none) (some .int) 2 (sp_X7_firstHour cy P) := by
  intro as σ K KX J hlen hT hJ hOld
  obtain ⟨-, -, hT⟩ := hT
  split at hT
  · rename_i b p
    obtain ⟨ho, co, fl, ru, po, hb, hT⟩ := onWarn_spec hT
    obtain ⟨nu, x, y, pco, pwi, la, hp, hT⟩ := onPort_spec hT
    all_goals
      refine wp_of_S hJ (ct []) 400 _ _ _ _ _ _ ?_
      simp only [w_aload_n (cut := ct []) (pc' := 1) (i := 0) rfl dX7_firstHour_0 rfl rfl, w_getfield (cut := ct []) (pc' := 4) rfl dX7_firstHour_1 rfl (q_X7_f9 P), w_aload_n (cut := ct []) (pc' := 5) (i := 1) rfl dX7_firstHour_4 rfl rfl, w_getfield (cut := ct []) (pc' := 8) rfl dX7_firstHour_5 rfl (q_X7_f33 P), w_iadd (cut := ct []) (pc' := 9) rfl dX7_firstHour_8 rfl, w_ireturnI (cut := ct []) rfl dX7_firstHour_9 rfl, rsum, cg_int, cg_ref, cg_null, nby0, strd, mStr, onAL, true_imp_iff, false_imp_iff, not_true_eq_false, not_false_eq_true, Classical.not_not, eq_self, e10, e01, em1, Int32.reduceLT, Int32.reduceLE, onBoat, onGale, onOut, onPort, onRep, onWarn, yn, mI, mS, b0, okA, rcvd, nb0, nb1, ini, List.map_cons, List.map_nil, List.replicate_zero, List.replicate_succ, List.append_nil, ldI, ldA, incK, getK, putK, oldK, castK, inv1, nwO, nwA, nwR, alen, ald, bald, ast, lald, last, rald, rast, goTo, nth, sto, setN, popN, okv, cat1_int, cat1_ref, cat1_null, cat1_rf, va_rf, hup_same, hup_hup, List.length_cons, List.length_nil, List.nil_append, List.cons_append, Option.toList, true_and, and_true, Nat.reduceAdd, Nat.reduceSub, Nat.reduceLT, Nat.reduceLeDiff, Nat.zero_le, Nat.sub_zero, Nat.zero_lt_succ, Nat.lt_add_left_iff_pos, Nat.succ_lt_succ_iff, sp_X7_firstHour, hb, hp]
      exact hT
  · exact hT.elim
set_option maxRecDepth 100000 in
theorem con_X7_firstHour {l : Launch} {s0 : State} {D : va_G} {cy : Nat → ClassId} {P : Pm} {a0 : Array Value} (hE : E0 l s0 D cy P a0) : Con l s0 D yX7_firstHour (Cond.code yX7_firstHour cX7_firstHour 2 (some .int)) 0 0 (sp_X7_firstHour cy P) := by
  refine con_of (clok_X7 hE _) (by decide) (fun as σ K KX h => okA_cat h.1) (Nat.le_of_ble_eq_true rfl) ?_ ?_ (m_X7_firstHour cy P hE.2.2.2.1)
  · intro p e R s m args below meth c A Q hfr hlo hW B kd j g hg
    cases hg
  · intro p e R s m args below meth c A K KX hfr hlo hW B htab
    exact xok_none htab
def iv_X7_lastHour (cy : Nat → ClassId) (P : Pm) : Nat → Nat → Option Sg
  | 0, 36 => some (sp_X7_firstHour cy P)
  | _, _ => none
def sp_X7_lastHour (cy : Nat → ClassId) (P : Pm) : Sg := mI 8 [1] b0 (fun as σ K _ => match as with
  | [.ref b, .ref p] => onWarn σ b (fun ho co fl ru po => onPort σ p (fun nu x y pco pwi la => K (some (.int (ho + pwi + 24 - 1))) σ))
  | _ => False)
set_option maxHeartbeats 2000000 in
theorem m_X7_lastHour (cy : Nat → ClassId) (P : Pm) (hP : PmOK P) : MOK (cl_X7 P) cy P.2.1 obj cX7_lastHour (iv_X7_lastHour cy P) (fun _ => none) (fun _ => some none) (some .int) 2 (sp_X7_lastHour cy P) := by
  intro as σ K KX J hlen hT hJ hOld
  obtain ⟨-, -, hT⟩ := hT
  split at hT
  · rename_i b p
    obtain ⟨ho, co, fl, ru, po, hb, hT⟩ := onWarn_spec hT
    obtain ⟨nu, x, y, pco, pwi, la, hp, hT⟩ := onPort_spec hT
    all_goals
      refine wp_of_S hJ (ct []) 400 _ _ _ _ _ _ ?_
      simp only [w_aload_n (cut := ct []) (pc' := 1) (i := 0) rfl dX7_lastHour_0 rfl rfl, w_aload_n (cut := ct []) (pc' := 2) (i := 1) rfl dX7_lastHour_1 rfl rfl, w_invoke (inv := iv_X7_lastHour cy P) (kd := 0) (f := 36) (g := sp_X7_firstHour cy P) (cut := ct []) rfl dX7_lastHour_2 rfl (by decide) rfl, w_bipush (cut := ct []) (pc' := 7) (v := 24) rfl dX7_lastHour_5 rfl rfl, w_iadd (cut := ct []) (pc' := 8) rfl dX7_lastHour_7 rfl, w_iconst (cut := ct []) (pc' := 9) (v := 1) rfl dX7_lastHour_8 rfl rfl, w_isub (cut := ct []) (pc' := 10) rfl dX7_lastHour_9 rfl, w_ireturnI (cut := ct []) rfl dX7_lastHour_10 rfl, rsum, cg_int, cg_ref, cg_null, nby0, strd, mStr, onAL, true_imp_iff, false_imp_iff, not_true_eq_false, not_false_eq_true, Classical.not_not, eq_self, e10, e01, em1, Int32.reduceLT, Int32.reduceLE, onBoat, onGale, onOut, onPort, onRep, onWarn, yn, mI, mS, b0, okA, rcvd, nb0, nb1, ini, List.map_cons, List.map_nil, List.replicate_zero, List.replicate_succ, List.append_nil, ldI, ldA, incK, getK, putK, oldK, castK, inv1, nwO, nwA, nwR, alen, ald, bald, ast, lald, last, rald, rast, goTo, nth, sto, setN, popN, okv, cat1_int, cat1_ref, cat1_null, cat1_rf, va_rf, hup_same, hup_hup, List.length_cons, List.length_nil, List.nil_append, List.cons_append, Option.toList, true_and, and_true, Nat.reduceAdd, Nat.reduceSub, Nat.reduceLT, Nat.reduceLeDiff, Nat.zero_le, Nat.sub_zero, Nat.zero_lt_succ, Nat.lt_add_left_iff_pos, Nat.succ_lt_succ_iff, sp_X7_lastHour, hb, hp, sp_X7_firstHour]
      exact hT
  · exact hT.elim
set_option maxRecDepth 100000 in
theorem con_X7_lastHour {l : Launch} {s0 : State} {D : va_G} {cy : Nat → ClassId} {P : Pm} {a0 : Array Value} (hE : E0 l s0 D cy P a0) : Con l s0 D yX7_lastHour (Cond.code yX7_lastHour cX7_lastHour 2 (some .int)) 1 21 (sp_X7_lastHour cy P) := by
  refine con_of (clok_X7 hE _) (by decide) (fun as σ K KX h => okA_cat h.1) (Nat.le_of_ble_eq_true rfl) ?_ ?_ (m_X7_lastHour cy P hE.2.2.2.1)
  · intro p e R s m args below meth c A Q hfr hlo hW B kd j g hg
    unfold iv_X7_lastHour at hg
    split at hg
    · cases hg; exact inv_V (ci := 8) B (con_X7_firstHour hE) rfl (fun as σ K KX h => rcvd_spec h.2.1) (cw_mk hE hW tw_826 rfl tw_28 ⟨by decide, by decide⟩ rfl) rfl (wd hE hW tw_831 rfl) (wd hE hW tw_824 rfl) (wd hE hW tw_825 rfl) (by rw [hfr]; decide) (by rw [hlo]; decide)
    · cases hg
  · intro p e R s m args below meth c A K KX hfr hlo hW B htab
    exact xok_none htab
def iv_X1_blows (cy : Nat → ClassId) (P : Pm) : Nat → Nat → Option Sg
  | _, _ => none
def sp_X1_blows (cy : Nat → ClassId) (P : Pm) : Sg := mI 2 [1, 0, 0] b0 (fun as σ K _ => match as with
  | [.ref b, .ref p, .int a, .int z] => onGale σ b (fun pt fr to fo => onPort σ p (fun nu x y pco pwi la => yn (pt = nu ∧ fr ≤ z ∧ a ≤ to) K σ))
  | _ => False)
set_option maxHeartbeats 2000000 in
theorem m_X1_blows (cy : Nat → ClassId) (P : Pm) (hP : PmOK P) : MOK (cl_X1 P) cy P.2.1 obj cX1_blows (iv_X1_blows cy P) (fun _ => none) (fun _ => some none) (some .boolean) 4 (sp_X1_blows cy P) := by
  intro as σ K KX J hlen hT hJ hOld
  obtain ⟨-, -, hT⟩ := hT
  split at hT
  · rename_i b p a z
    obtain ⟨pt, fr, to, fo, hb, hT⟩ := onGale_spec hT
    obtain ⟨nu, x, y, pco, pwi, la, hp, hT1, hT2⟩ := onPort_spec hT
    all_goals
      refine wp_of_S hJ (ct []) 400 _ _ _ _ _ _ ?_
      simp only [w_aload_n (cut := ct []) (pc' := 1) (i := 0) rfl dX1_blows_0 rfl rfl, w_getfield (cut := ct []) (pc' := 4) rfl dX1_blows_1 rfl (q_X1_f7 P), w_aload_n (cut := ct []) (pc' := 5) (i := 1) rfl dX1_blows_4 rfl rfl, w_getfield (cut := ct []) (pc' := 8) rfl dX1_blows_5 rfl (q_X1_f22 P), w_icmp_ne (cut := ct []) (pc' := 11) (t := 31) rfl dX1_blows_8 rfl (by decide) rfl, w_aload_n (cut := ct []) (pc' := 12) (i := 0) rfl dX1_blows_11 rfl rfl, w_getfield (cut := ct []) (pc' := 15) rfl dX1_blows_12 rfl (q_X1_f13 P), w_iload_n (cut := ct []) (pc' := 16) (i := 3) rfl dX1_blows_15 rfl rfl, w_icmp_gt (cut := ct []) (pc' := 19) (t := 31) rfl dX1_blows_16 rfl (by decide) rfl, w_aload_n (cut := ct []) (pc' := 20) (i := 0) rfl dX1_blows_19 rfl rfl, w_getfield (cut := ct []) (pc' := 23) rfl dX1_blows_20 rfl (q_X1_f16 P), w_iload_n (cut := ct []) (pc' := 24) (i := 2) rfl dX1_blows_23 rfl rfl, w_icmp_lt (cut := ct []) (pc' := 27) (t := 31) rfl dX1_blows_24 rfl (by decide) rfl, w_iconst (cut := ct []) (pc' := 28) (v := 1) rfl dX1_blows_27 rfl rfl, w_goto (cut := ct []) (t := 32) rfl dX1_blows_28 (by decide) rfl, w_iconst (cut := ct []) (pc' := 32) (v := 0) rfl dX1_blows_31 rfl rfl, w_ireturn (ty := .boolean) (cut := ct []) rfl dX1_blows_32 rfl, rsum, cg_int, cg_ref, cg_null, nby0, strd, mStr, onAL, true_imp_iff, false_imp_iff, not_true_eq_false, not_false_eq_true, Classical.not_not, eq_self, e10, e01, em1, Int32.reduceLT, Int32.reduceLE, onBoat, onGale, onOut, onPort, onRep, onWarn, yn, mI, mS, b0, okA, rcvd, nb0, nb1, ini, List.map_cons, List.map_nil, List.replicate_zero, List.replicate_succ, List.append_nil, ldI, ldA, incK, getK, putK, oldK, castK, inv1, nwO, nwA, nwR, alen, ald, bald, ast, lald, last, rald, rast, goTo, nth, sto, setN, popN, okv, cat1_int, cat1_ref, cat1_null, cat1_rf, va_rf, hup_same, hup_hup, List.length_cons, List.length_nil, List.nil_append, List.cons_append, Option.toList, true_and, and_true, Nat.reduceAdd, Nat.reduceSub, Nat.reduceLT, Nat.reduceLeDiff, Nat.zero_le, Nat.sub_zero, Nat.zero_lt_succ, Nat.lt_add_left_iff_pos, Nat.succ_lt_succ_iff, sp_X1_blows, hb, hp]
      grind
  · exact hT.elim
set_option maxRecDepth 100000 in
theorem con_X1_blows {l : Launch} {s0 : State} {D : va_G} {cy : Nat → ClassId} {P : Pm} {a0 : Array Value} (hE : E0 l s0 D cy P a0) : Con l s0 D yX1_blows (Cond.code yX1_blows cX1_blows 4 (some .boolean)) 0 0 (sp_X1_blows cy P) := by
  refine con_of (clok_X1 hE _) (by decide) (fun as σ K KX h => okA_cat h.1) (Nat.le_of_ble_eq_true rfl) ?_ ?_ (m_X1_blows cy P hE.2.2.2.1)
  · intro p e R s m args below meth c A Q hfr hlo hW B kd j g hg
    cases hg
  · intro p e R s m args below meth c A K KX hfr hlo hW B htab
    exact xok_none htab
def iv_X3_init (cy : Nat → ClassId) (P : Pm) : Nat → Nat → Option Sg
  | 2, 3 => some (sp_OBJINIT cy P)
  | _, _ => none
def sp_X3_init (cy : Nat → ClassId) (P : Pm) : Sg := mI 4 [0, 0, 0, 0, 0] b0 (fun as σ K _ => match as with
  | [.ref b, .int nu, .int x, .int y, .int co, .int wi] => σ b = some (.inr (4, [.int 0, .int 0, .int 0, .int 0, .int 0, .null])) ∧ K none (hup σ b (oPort nu x y co wi .null))
  | _ => False)
set_option maxHeartbeats 2000000 in
theorem m_X3_init (cy : Nat → ClassId) (P : Pm) (hP : PmOK P) : MOK (cl_X3i P) cy P.2.1 obj cX3_init (iv_X3_init cy P) (fun _ => none) (fun _ => some none) (none) 6 (sp_X3_init cy P) := by
  intro as σ K KX J hlen hT hJ hOld
  obtain ⟨-, -, hT⟩ := hT
  split at hT
  · rename_i b nu x y co wi
    obtain ⟨hb, hT⟩ := hT
    refine wp_of_S hJ (ct []) 400 _ _ _ _ _ _ ?_
    simp only [w_aload_n (cut := ct []) (pc' := 1) (i := 0) rfl dX3_init_0 rfl rfl, w_invoke (inv := iv_X3_init cy P) (kd := 2) (f := 3) (g := sp_OBJINIT cy P) (cut := ct []) rfl dX3_init_1 rfl (by decide) rfl, w_aload_n (cut := ct []) (pc' := 5) (i := 0) rfl dX3_init_4 rfl rfl, w_iload_n (cut := ct []) (pc' := 6) (i := 1) rfl dX3_init_5 rfl rfl, w_putfield (cut := ct []) (pc' := 9) rfl dX3_init_6 rfl (q_X3i_f9 P), w_aload_n (cut := ct []) (pc' := 10) (i := 0) rfl dX3_init_9 rfl rfl, w_iload_n (cut := ct []) (pc' := 11) (i := 2) rfl dX3_init_10 rfl rfl, w_putfield (cut := ct []) (pc' := 14) rfl dX3_init_11 rfl (q_X3i_f15 P), w_aload_n (cut := ct []) (pc' := 15) (i := 0) rfl dX3_init_14 rfl rfl, w_iload_n (cut := ct []) (pc' := 16) (i := 3) rfl dX3_init_15 rfl rfl, w_putfield (cut := ct []) (pc' := 19) rfl dX3_init_16 rfl (q_X3i_f18 P), w_aload_n (cut := ct []) (pc' := 20) (i := 0) rfl dX3_init_19 rfl rfl, w_iload (cut := ct []) (pc' := 22) (i := 4) rfl dX3_init_20 rfl rfl, w_putfield (cut := ct []) (pc' := 25) rfl dX3_init_22 rfl (q_X3i_f21 P), w_aload_n (cut := ct []) (pc' := 26) (i := 0) rfl dX3_init_25 rfl rfl, w_iload (cut := ct []) (pc' := 28) (i := 5) rfl dX3_init_26 rfl rfl, w_putfield (cut := ct []) (pc' := 31) rfl dX3_init_28 rfl (q_X3i_f24 P), w_aload_n (cut := ct []) (pc' := 32) (i := 0) rfl dX3_init_31 rfl rfl, w_aconst_null (cut := ct []) (pc' := 33) rfl dX3_init_32 rfl, w_putfield (cut := ct []) (pc' := 36) rfl dX3_init_33 rfl (q_X3i_f27 P), w_return (cut := ct []) rfl dX3_init_36 rfl, rsum, cg_int, cg_ref, cg_null, nby0, strd, mStr, onAL, true_imp_iff, false_imp_iff, not_true_eq_false, not_false_eq_true, Classical.not_not, eq_self, e10, e01, em1, Int32.reduceLT, Int32.reduceLE, onBoat, onGale, onOut, onPort, onRep, onWarn, yn, mI, mS, b0, okA, rcvd, nb0, nb1, ini, List.map_cons, List.map_nil, List.replicate_zero, List.replicate_succ, List.append_nil, ldI, ldA, incK, getK, putK, oldK, castK, inv1, nwO, nwA, nwR, alen, ald, bald, ast, lald, last, rald, rast, goTo, nth, sto, setN, popN, okv, cat1_int, cat1_ref, cat1_null, cat1_rf, va_rf, hup_same, hup_hup, List.length_cons, List.length_nil, List.nil_append, List.cons_append, Option.toList, true_and, and_true, Nat.reduceAdd, Nat.reduceSub, Nat.reduceLT, Nat.reduceLeDiff, Nat.zero_le, Nat.sub_zero, Nat.zero_lt_succ, Nat.lt_add_left_iff_pos, Nat.succ_lt_succ_iff, sp_X3_init, hb, sp_OBJINIT]
    exact hT
  · exact hT.elim
set_option maxRecDepth 100000 in
theorem con_X3_init {l : Launch} {s0 : State} {D : va_G} {cy : Nat → ClassId} {P : Pm} {a0 : Array Value} (hE : E0 l s0 D cy P a0) : Con l s0 D yX3_init (Cond.code yX3_init cX3_init 6 none) 1 20 (sp_X3_init cy P) := by
  refine con_of (clok_X3i hE) (by decide) (fun as σ K KX h => okA_cat h.1) (Nat.le_of_ble_eq_true rfl) ?_ ?_ (m_X3_init cy P hE.2.2.2.1)
  · intro p e R s m args below meth c A Q hfr hlo hW B kd j g hg
    unfold iv_X3_init at hg
    split at hg
    · cases hg; exact inv_obj B hE tw_326 tw_36 tw_37 (by rw [hfr]; decide) (by rw [hlo]; decide)
    · cases hg
  · intro p e R s m args below meth c A K KX hfr hlo hW B htab
    exact xok_none htab
/-- the weight of a port at a place -/
def weightC (x y ox oy : Int32) : Int32 := let a := 1 + (x - ox) * (x - ox) + (y - oy) * (y - oy); if 1 ≤ a ∧ a ≤ 1000 then 1000 / a else 1
def iv_X3_weightAt (cy : Nat → ClassId) (P : Pm) : Nat → Nat → Option Sg
  | 1, 49 => some (sp_X8_within cy P)
  | _, _ => none
def sp_X3_weightAt (cy : Nat → ClassId) (P : Pm) : Sg := mI 4 [0, 0] b0 (fun as σ K _ => match as with
  | [.ref p, .int ox, .int oy] => onPort σ p (fun nu x y co wi la => K (some (.int (weightC x y ox oy))) σ)
  | _ => False)
set_option maxHeartbeats 2000000 in
theorem m_X3_weightAt (cy : Nat → ClassId) (P : Pm) (hP : PmOK P) : MOK (cl_X3 P) cy P.2.1 obj cX3_weightAt (iv_X3_weightAt cy P) (fun _ => none) (fun _ => some none) (some .int) 4 (sp_X3_weightAt cy P) := by
  intro as σ K KX J hlen hT hJ hOld
  obtain ⟨-, -, hT⟩ := hT
  split at hT
  · rename_i p ox oy
    obtain ⟨nu, x, y, co, wi, la, hp, hT⟩ := onPort_spec hT
    refine wp_of_S hJ (ct []) 400 _ _ _ _ _ _ ?_
    simp only [w_iconst (cut := ct []) (pc' := 1) (v := 1) rfl dX3_weightAt_0 rfl rfl, w_aload_n (cut := ct []) (pc' := 2) (i := 0) rfl dX3_weightAt_1 rfl rfl, w_getfield (cut := ct []) (pc' := 5) rfl dX3_weightAt_2 rfl (q_X3_f15 P), w_iload_n (cut := ct []) (pc' := 6) (i := 1) rfl dX3_weightAt_5 rfl rfl, w_isub (cut := ct []) (pc' := 7) rfl dX3_weightAt_6 rfl, w_aload_n (cut := ct []) (pc' := 8) (i := 0) rfl dX3_weightAt_7 rfl rfl, w_getfield (cut := ct []) (pc' := 11) rfl dX3_weightAt_8 rfl (q_X3_f15 P), w_iload_n (cut := ct []) (pc' := 12) (i := 1) rfl dX3_weightAt_11 rfl rfl, w_isub (cut := ct []) (pc' := 13) rfl dX3_weightAt_12 rfl, w_imul (cut := ct []) (pc' := 14) rfl dX3_weightAt_13 rfl, w_iadd (cut := ct []) (pc' := 15) rfl dX3_weightAt_14 rfl, w_aload_n (cut := ct []) (pc' := 16) (i := 0) rfl dX3_weightAt_15 rfl rfl, w_getfield (cut := ct []) (pc' := 19) rfl dX3_weightAt_16 rfl (q_X3_f18 P), w_iload_n (cut := ct []) (pc' := 20) (i := 2) rfl dX3_weightAt_19 rfl rfl, w_isub (cut := ct []) (pc' := 21) rfl dX3_weightAt_20 rfl, w_aload_n (cut := ct []) (pc' := 22) (i := 0) rfl dX3_weightAt_21 rfl rfl, w_getfield (cut := ct []) (pc' := 25) rfl dX3_weightAt_22 rfl (q_X3_f18 P), w_iload_n (cut := ct []) (pc' := 26) (i := 2) rfl dX3_weightAt_25 rfl rfl, w_isub (cut := ct []) (pc' := 27) rfl dX3_weightAt_26 rfl, w_imul (cut := ct []) (pc' := 28) rfl dX3_weightAt_27 rfl, w_iadd (cut := ct []) (pc' := 29) rfl dX3_weightAt_28 rfl, w_istore_n (cut := ct []) (pc' := 30) (i := 3) rfl dX3_weightAt_29 rfl rfl, w_iload_n (cut := ct []) (pc' := 31) (i := 3) rfl dX3_weightAt_30 rfl rfl, w_iconst (cut := ct []) (pc' := 32) (v := 1) rfl dX3_weightAt_31 rfl rfl, w_sipush (cut := ct []) (pc' := 35) (v := 1000) rfl dX3_weightAt_32 rfl rfl, w_invoke (inv := iv_X3_weightAt cy P) (kd := 1) (f := 49) (g := sp_X8_within cy P) (cut := ct []) rfl dX3_weightAt_35 rfl (by decide) rfl, w_if_eq (cut := ct []) (pc' := 41) (t := 49) rfl dX3_weightAt_38 rfl (by decide) rfl, w_sipush (cut := ct []) (pc' := 44) (v := 1000) rfl dX3_weightAt_41 rfl rfl, w_iload_n (cut := ct []) (pc' := 45) (i := 3) rfl dX3_weightAt_44 rfl rfl, w_idiv (cut := ct []) (pc' := 46) rfl dX3_weightAt_45 rfl, w_goto (cut := ct []) (t := 50) rfl dX3_weightAt_46 (by decide) rfl, w_iconst (cut := ct []) (pc' := 50) (v := 1) rfl dX3_weightAt_49 rfl rfl, w_ireturnI (cut := ct []) rfl dX3_weightAt_50 rfl, rsum, cg_int, cg_ref, cg_null, nby0, strd, mStr, onAL, true_imp_iff, false_imp_iff, not_true_eq_false, not_false_eq_true, Classical.not_not, eq_self, e10, e01, em1, Int32.reduceLT, Int32.reduceLE, onBoat, onGale, onOut, onPort, onRep, onWarn, yn, mI, mS, b0, okA, rcvd, nb0, nb1, ini, List.map_cons, List.map_nil, List.replicate_zero, List.replicate_succ, List.append_nil, ldI, ldA, incK, getK, putK, oldK, castK, inv1, nwO, nwA, nwR, alen, ald, bald, ast, lald, last, rald, rast, goTo, nth, sto, setN, popN, okv, cat1_int, cat1_ref, cat1_null, cat1_rf, va_rf, hup_same, hup_hup, List.length_cons, List.length_nil, List.nil_append, List.cons_append, Option.toList, true_and, and_true, Nat.reduceAdd, Nat.reduceSub, Nat.reduceLT, Nat.reduceLeDiff, Nat.zero_le, Nat.sub_zero, Nat.zero_lt_succ, Nat.lt_add_left_iff_pos, Nat.succ_lt_succ_iff, sp_X3_weightAt, hp, sp_X8_within]
    refine ⟨fun h => ⟨fun z => ?_, ?_⟩, fun h => ?_⟩
    · rw [z] at h; exact absurd h.1 (by decide)
    · unfold weightC at hT; dsimp only at hT; rw [if_pos h] at hT; exact hT
    · unfold weightC at hT; dsimp only at hT; rw [if_neg h] at hT; exact hT
  · exact hT.elim
set_option maxRecDepth 100000 in
theorem con_X3_weightAt {l : Launch} {s0 : State} {D : va_G} {cy : Nat → ClassId} {P : Pm} {a0 : Array Value} (hE : E0 l s0 D cy P a0) : Con l s0 D yX3_weightAt (Cond.code yX3_weightAt cX3_weightAt 4 (some .int)) 1 22 (sp_X3_weightAt cy P) := by
  refine con_of (clok_X3 hE _) (by decide) (fun as σ K KX h => okA_cat h.1) (Nat.le_of_ble_eq_true rfl) ?_ ?_ (m_X3_weightAt cy P hE.2.2.2.1)
  · intro p e R s m args below meth c A Q hfr hlo hW B kd j g hg
    unfold iv_X3_weightAt at hg
    split at hg
    · cases hg; exact inv_SN B (con_X8_within hE) (fun as σ K KX h => h) (cw_mk hE hW tw_235 rfl tw_1 ⟨by decide, by decide⟩ rfl) (wd (args := #[]) hE hW tw_510 rfl) (wd hE hW tw_234 rfl) (by rw [hfr]; decide) (by rw [hlo]; decide)
    · cases hg
  · intro p e R s m args below meth c A K KX hfr hlo hW B htab
    exact xok_none htab
