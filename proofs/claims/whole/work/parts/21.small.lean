def iv_X8_within : Nat → Nat → Option Sg
  | _, _ => none
def sp_X8_within : Sg := mS [0, 0, 0] b0 (fun as σ K _ => match as with
  | [.int x, .int lo, .int hi] => yn (lo ≤ x ∧ x ≤ hi) K σ
  | _ => False)
set_option maxHeartbeats 2000000 in
theorem m_X8_within (cy : Nat → ClassId) (P : Pm) : MOK (cl_X8 P) cy P.2.1 obj cX8_within iv_X8_within (fun _ => none) (fun _ => some none) (some .boolean) 3 sp_X8_within := by
  intro as σ K KX J hlen hT hJ
  obtain ⟨-, hT⟩ := hT
  split at hT
  · rename_i x lo hi
    refine wp_of_S hJ (ct []) 400 _ _ _ _ _ _ ?_
    simp only [w_iload_n (cut := ct []) (pc' := 1) (i := 0) rfl dX8_within_0 rfl rfl, w_iload_n (cut := ct []) (pc' := 2) (i := 1) rfl dX8_within_1 rfl rfl, w_icmp_lt (cut := ct []) (pc' := 5) (t := 14) rfl dX8_within_2 rfl (by decide) rfl, w_iload_n (cut := ct []) (pc' := 6) (i := 0) rfl dX8_within_5 rfl rfl, w_iload_n (cut := ct []) (pc' := 7) (i := 2) rfl dX8_within_6 rfl rfl, w_icmp_gt (cut := ct []) (pc' := 10) (t := 14) rfl dX8_within_7 rfl (by decide) rfl, w_iconst (cut := ct []) (pc' := 11) (v := 1) rfl dX8_within_10 rfl rfl, w_goto (cut := ct []) (t := 15) rfl dX8_within_11 (by decide) rfl, w_iconst (cut := ct []) (pc' := 15) (v := 0) rfl dX8_within_14 rfl rfl, w_ireturn (ty := .boolean) (cut := ct []) rfl dX8_within_15 rfl, onBoat, onGale, onOut, onPort, onRep, onWarn, yn, mI, mS, b0, okA, rcvd, nb0, nb1, ini, List.map_cons, List.map_nil, List.replicate_zero, List.replicate_succ, List.append_nil, ldI, ldA, incK, getK, putK, oldK, castK, inv1, nwO, nwA, nwR, alen, ald, bald, ast, lald, last, rald, rast, goTo, nth, sto, setN, popN, okv, cat1_int, cat1_ref, cat1_null, cat1_rf, va_rf, hup_same, hup_hup, List.length_cons, List.length_nil, List.nil_append, List.cons_append, Option.toList, true_and, and_true, Nat.reduceAdd, Nat.reduceSub, Nat.reduceLT, Nat.reduceLeDiff, Nat.zero_le, Nat.sub_zero, Nat.zero_lt_succ, Nat.lt_add_left_iff_pos, Nat.succ_lt_succ_iff, sp_X8_within]
    trace_state
    sorry
  · exact hT.elim
set_option maxRecDepth 100000 in
theorem con_X8_within {l : Launch} {s0 : State} {D : va_G} {cy : Nat → ClassId} {P : Pm} {a0 : Array Value} (hE : E0 l s0 D cy P a0) : Con l s0 D yX8_within (Cond.code yX8_within cX8_within 3 (some .boolean)) 0 0 sp_X8_within := by
  refine con_of (clok_X8 hE _) (by decide) (fun as σ K KX h => okA_cat h.1) (by decide) ?_ ?_ (m_X8_within cy P)
  · intro p e R s m args below meth c A Q hfr hlo hW B kd j g hg
    cases hg
  · intro p e R s m args below meth c A K KX hfr hlo hW B htab
    exact xok_none htab
def iv_X1_init : Nat → Nat → Option Sg
  | 2, 1 => some sp_OBJINIT
  | _, _ => none
def sp_X1_init : Sg := mI 2 [0, 0, 0, 0] b0 (fun as σ K _ => match as with
  | [.ref b, .int pt, .int fr, .int to, .int fo] => σ b = some (.inr (2, [.int 0, .int 0, .int 0, .int 0])) ∧ K none (hup σ b (oGale pt fr to fo))
  | _ => False)
set_option maxHeartbeats 2000000 in
theorem m_X1_init (cy : Nat → ClassId) (P : Pm) : MOK (cl_X1i P) cy P.2.1 obj cX1_init iv_X1_init (fun _ => none) (fun _ => some none) (none) 5 sp_X1_init := by
  intro as σ K KX J hlen hT hJ
  obtain ⟨-, -, hT⟩ := hT
  split at hT
  · rename_i b pt fr to fo
    obtain ⟨hb, hT⟩ := hT
    refine wp_of_S hJ (ct []) 400 _ _ _ _ _ _ ?_
    simp only [w_aload_n (cut := ct []) (pc' := 1) (i := 0) rfl dX1_init_0 rfl rfl, w_invoke (inv := iv_X1_init) (kd := 2) (f := 1) (g := sp_OBJINIT) (cut := ct []) rfl dX1_init_1 rfl (by decide) rfl, w_aload_n (cut := ct []) (pc' := 5) (i := 0) rfl dX1_init_4 rfl rfl, w_iload_n (cut := ct []) (pc' := 6) (i := 1) rfl dX1_init_5 rfl rfl, w_putfield (cut := ct []) (pc' := 9) rfl dX1_init_6 rfl (q_X1i_f7 P), w_aload_n (cut := ct []) (pc' := 10) (i := 0) rfl dX1_init_9 rfl rfl, w_iload_n (cut := ct []) (pc' := 11) (i := 2) rfl dX1_init_10 rfl rfl, w_putfield (cut := ct []) (pc' := 14) rfl dX1_init_11 rfl (q_X1i_f13 P), w_aload_n (cut := ct []) (pc' := 15) (i := 0) rfl dX1_init_14 rfl rfl, w_iload_n (cut := ct []) (pc' := 16) (i := 3) rfl dX1_init_15 rfl rfl, w_putfield (cut := ct []) (pc' := 19) rfl dX1_init_16 rfl (q_X1i_f16 P), w_aload_n (cut := ct []) (pc' := 20) (i := 0) rfl dX1_init_19 rfl rfl, w_iload (cut := ct []) (pc' := 22) (i := 4) rfl dX1_init_20 rfl rfl, w_putfield (cut := ct []) (pc' := 25) rfl dX1_init_22 rfl (q_X1i_f19 P), w_return (cut := ct []) rfl dX1_init_25 rfl, onBoat, onGale, onOut, onPort, onRep, onWarn, yn, mI, mS, b0, okA, rcvd, nb0, nb1, ini, List.map_cons, List.map_nil, List.replicate_zero, List.replicate_succ, List.append_nil, ldI, ldA, incK, getK, putK, oldK, castK, inv1, nwO, nwA, nwR, alen, ald, bald, ast, lald, last, rald, rast, goTo, nth, sto, setN, popN, okv, cat1_int, cat1_ref, cat1_null, cat1_rf, va_rf, hup_same, hup_hup, List.length_cons, List.length_nil, List.nil_append, List.cons_append, Option.toList, true_and, and_true, Nat.reduceAdd, Nat.reduceSub, Nat.reduceLT, Nat.reduceLeDiff, Nat.zero_le, Nat.sub_zero, Nat.zero_lt_succ, Nat.lt_add_left_iff_pos, Nat.succ_lt_succ_iff, sp_X1_init, hb, sp_OBJINIT]
    exact hT
  · exact hT.elim
set_option maxRecDepth 100000 in
theorem con_X1_init {l : Launch} {s0 : State} {D : va_G} {cy : Nat → ClassId} {P : Pm} {a0 : Array Value} (hE : E0 l s0 D cy P a0) : Con l s0 D yX1_init (Cond.code yX1_init cX1_init 5 none) 1 20 sp_X1_init := by
  refine con_of (clok_X1i hE) (by decide) (fun as σ K KX h => okA_cat h.1) (by decide) ?_ ?_ (m_X1_init cy P)
  · intro p e R s m args below meth c A Q hfr hlo hW B kd j g hg
    unfold iv_X1_init at hg
    split at hg
    · cases hg; exact inv_obj B hE tw_648 tw_36 tw_37 (by rw [hfr]; decide) (by rw [hlo]; decide)
    · cases hg
  · intro p e R s m args below meth c A K KX hfr hlo hW B htab
    exact xok_none htab
def iv_X2_meets : Nat → Nat → Option Sg
  | _, _ => none
/-- a rule's condition at an outlook -/
def meetsC (k n co gb gl wi : Int32) : Prop := (k = 0 ∧ ¬ gb = -1 ∧ ¬ gl = -1 ∧ n < gb - gl) ∨ (k = 1 ∧ ¬ gl = -1 ∧ gl < n) ∨ (k = 2 ∧ n < wi) ∨ (k = 3 ∧ co = n)
def sp_X2_meets : Sg := mI 3 [0, 0] b0 (fun as σ K _ => match as with
  | [.ref b, .int k, .int n] => onOut σ b (fun co gb gl wi => (k = 0 ∨ k = 1 ∨ k = 2 ∨ k = 3) ∧ yn (meetsC k n co gb gl wi) K σ)
  | _ => False)
set_option maxHeartbeats 2000000 in
theorem m_X2_meets (cy : Nat → ClassId) (P : Pm) : MOK (cl_X2 P) cy P.2.1 obj cX2_meets iv_X2_meets (fun _ => none) (fun _ => some none) (some .boolean) 3 sp_X2_meets := by
  intro as σ K KX J hlen hT hJ
  obtain ⟨-, -, hT⟩ := hT
  split at hT
  · rename_i b k n
    obtain ⟨co, gb, gl, wi, hb, hk, hT1, hT2⟩ := onOut_spec hT
    refine wp_of_S hJ (ct []) 400 _ _ _ _ _ _ ?_
    simp only [w_iload_n (cut := ct []) (pc' := 1) (i := 1) rfl dX2_meets_0 rfl rfl, w_tsw (v := 0) (o := 31) (cut := ct []) (t := 32) rfl dX2_meets_1 (by decide) (by decide) rfl (by decide) rfl, w_tsw (v := 1) (o := 66) (cut := ct []) (t := 67) rfl dX2_meets_1 (by decide) (by decide) rfl (by decide) rfl, w_tsw (v := 2) (o := 88) (cut := ct []) (t := 89) rfl dX2_meets_1 (by decide) (by decide) rfl (by decide) rfl, w_tsw (v := 3) (o := 102) (cut := ct []) (t := 103) rfl dX2_meets_1 (by decide) (by decide) rfl (by decide) rfl, w_tsd (cut := ct []) (t := 117) rfl dX2_meets_1 (by decide) rfl, w_aload_n (cut := ct []) (pc' := 33) (i := 0) rfl dX2_meets_32 rfl rfl, w_getfield (cut := ct []) (pc' := 36) rfl dX2_meets_33 rfl (q_X2_f15 P), w_iconst (cut := ct []) (pc' := 37) (v := (-1)) rfl dX2_meets_36 rfl rfl, w_icmp_eq (cut := ct []) (pc' := 40) (t := 65) rfl dX2_meets_37 rfl (by decide) rfl, w_aload_n (cut := ct []) (pc' := 41) (i := 0) rfl dX2_meets_40 rfl rfl, w_getfield (cut := ct []) (pc' := 44) rfl dX2_meets_41 rfl (q_X2_f18 P), w_iconst (cut := ct []) (pc' := 45) (v := (-1)) rfl dX2_meets_44 rfl rfl, w_icmp_eq (cut := ct []) (pc' := 48) (t := 65) rfl dX2_meets_45 rfl (by decide) rfl, w_aload_n (cut := ct []) (pc' := 49) (i := 0) rfl dX2_meets_48 rfl rfl, w_getfield (cut := ct []) (pc' := 52) rfl dX2_meets_49 rfl (q_X2_f15 P), w_aload_n (cut := ct []) (pc' := 53) (i := 0) rfl dX2_meets_52 rfl rfl, w_getfield (cut := ct []) (pc' := 56) rfl dX2_meets_53 rfl (q_X2_f18 P), w_isub (cut := ct []) (pc' := 57) rfl dX2_meets_56 rfl, w_iload_n (cut := ct []) (pc' := 58) (i := 2) rfl dX2_meets_57 rfl rfl, w_icmp_le (cut := ct []) (pc' := 61) (t := 65) rfl dX2_meets_58 rfl (by decide) rfl, w_iconst (cut := ct []) (pc' := 62) (v := 1) rfl dX2_meets_61 rfl rfl, w_goto (cut := ct []) (t := 66) rfl dX2_meets_62 (by decide) rfl, w_iconst (cut := ct []) (pc' := 66) (v := 0) rfl dX2_meets_65 rfl rfl, w_ireturn (ty := .boolean) (cut := ct []) rfl dX2_meets_66 rfl, w_aload_n (cut := ct []) (pc' := 68) (i := 0) rfl dX2_meets_67 rfl rfl, w_getfield (cut := ct []) (pc' := 71) rfl dX2_meets_68 rfl (q_X2_f18 P), w_iconst (cut := ct []) (pc' := 72) (v := (-1)) rfl dX2_meets_71 rfl rfl, w_icmp_eq (cut := ct []) (pc' := 75) (t := 87) rfl dX2_meets_72 rfl (by decide) rfl, w_aload_n (cut := ct []) (pc' := 76) (i := 0) rfl dX2_meets_75 rfl rfl, w_getfield (cut := ct []) (pc' := 79) rfl dX2_meets_76 rfl (q_X2_f18 P), w_iload_n (cut := ct []) (pc' := 80) (i := 2) rfl dX2_meets_79 rfl rfl, w_icmp_ge (cut := ct []) (pc' := 83) (t := 87) rfl dX2_meets_80 rfl (by decide) rfl, w_iconst (cut := ct []) (pc' := 84) (v := 1) rfl dX2_meets_83 rfl rfl, w_goto (cut := ct []) (t := 88) rfl dX2_meets_84 (by decide) rfl, w_iconst (cut := ct []) (pc' := 88) (v := 0) rfl dX2_meets_87 rfl rfl, w_ireturn (ty := .boolean) (cut := ct []) rfl dX2_meets_88 rfl, w_aload_n (cut := ct []) (pc' := 90) (i := 0) rfl dX2_meets_89 rfl rfl, w_getfield (cut := ct []) (pc' := 93) rfl dX2_meets_90 rfl (q_X2_f21 P), w_iload_n (cut := ct []) (pc' := 94) (i := 2) rfl dX2_meets_93 rfl rfl, w_icmp_le (cut := ct []) (pc' := 97) (t := 101) rfl dX2_meets_94 rfl (by decide) rfl, w_iconst (cut := ct []) (pc' := 98) (v := 1) rfl dX2_meets_97 rfl rfl, w_goto (cut := ct []) (t := 102) rfl dX2_meets_98 (by decide) rfl, w_iconst (cut := ct []) (pc' := 102) (v := 0) rfl dX2_meets_101 rfl rfl, w_ireturn (ty := .boolean) (cut := ct []) rfl dX2_meets_102 rfl, w_aload_n (cut := ct []) (pc' := 104) (i := 0) rfl dX2_meets_103 rfl rfl, w_getfield (cut := ct []) (pc' := 107) rfl dX2_meets_104 rfl (q_X2_f9 P), w_iload_n (cut := ct []) (pc' := 108) (i := 2) rfl dX2_meets_107 rfl rfl, w_icmp_ne (cut := ct []) (pc' := 111) (t := 115) rfl dX2_meets_108 rfl (by decide) rfl, w_iconst (cut := ct []) (pc' := 112) (v := 1) rfl dX2_meets_111 rfl rfl, w_goto (cut := ct []) (t := 116) rfl dX2_meets_112 (by decide) rfl, w_iconst (cut := ct []) (pc' := 116) (v := 0) rfl dX2_meets_115 rfl rfl, w_ireturn (ty := .boolean) (cut := ct []) rfl dX2_meets_116 rfl, w_iconst (cut := ct []) (pc' := 118) (v := 0) rfl dX2_meets_117 rfl rfl, w_ireturn (ty := .boolean) (cut := ct []) rfl dX2_meets_118 rfl, onBoat, onGale, onOut, onPort, onRep, onWarn, yn, mI, mS, b0, okA, rcvd, nb0, nb1, ini, List.map_cons, List.map_nil, List.replicate_zero, List.replicate_succ, List.append_nil, ldI, ldA, incK, getK, putK, oldK, castK, inv1, nwO, nwA, nwR, alen, ald, bald, ast, lald, last, rald, rast, goTo, nth, sto, setN, popN, okv, cat1_int, cat1_ref, cat1_null, cat1_rf, va_rf, hup_same, hup_hup, List.length_cons, List.length_nil, List.nil_append, List.cons_append, Option.toList, true_and, and_true, Nat.reduceAdd, Nat.reduceSub, Nat.reduceLT, Nat.reduceLeDiff, Nat.zero_le, Nat.sub_zero, Nat.zero_lt_succ, Nat.lt_add_left_iff_pos, Nat.succ_lt_succ_iff, sp_X2_meets, hb]
    trace_state
    sorry
  · exact hT.elim
set_option maxRecDepth 100000 in
theorem con_X2_meets {l : Launch} {s0 : State} {D : va_G} {cy : Nat → ClassId} {P : Pm} {a0 : Array Value} (hE : E0 l s0 D cy P a0) : Con l s0 D yX2_meets (Cond.code yX2_meets cX2_meets 3 (some .boolean)) 0 0 sp_X2_meets := by
  refine con_of (clok_X2 hE _) (by decide) (fun as σ K KX h => okA_cat h.1) (by decide) ?_ ?_ (m_X2_meets cy P)
  · intro p e R s m args below meth c A Q hfr hlo hW B kd j g hg
    cases hg
  · intro p e R s m args below meth c A K KX hfr hlo hW B htab
    exact xok_none htab
