/-! ===== Strings that are constants ===== -/
def iv_J0_coder_7d493 (cy : Nat → ClassId) (P : Pm) : Nat → Nat → Option Sg
  | _, _ => none
def sp_J0_coder_7d493 (cy : Nat → ClassId) (P : Pm) : Sg := mStr P [] b0 (fun as σ K _ => match as with
  | [.ref q] => K (some (.int 0)) σ
  | _ => False)
def iv_J0_isLatin1_aae02 (cy : Nat → ClassId) (P : Pm) : Nat → Nat → Option Sg
  | _, _ => none
def sp_J0_isLatin1_aae02 (cy : Nat → ClassId) (P : Pm) : Sg := mStr P [] b0 (fun as σ K _ => match as with
  | [.ref q] => K (some (.int 1)) σ
  | _ => False)
theorem og9 (P : Pm) (a : Nat) : (cl_J0 P).2.2.2.2.2.1 9 a = (P.2.2.2.1 a).map .ref := rfl
theorem og15 (P : Pm) (a : Nat) : (cl_J0 P).2.2.2.2.2.1 15 a = (P.2.2.2.1 a).map (fun _ => .int 0) := rfl
set_option maxHeartbeats 2000000 in
theorem m_J0_coder_7d493 (cy : Nat → ClassId) (P : Pm) (hP : PmOK P) : MOK (cl_J0 P) cy P.2.1 obj cJ0_coder_7d493 (iv_J0_coder_7d493 cy P) (fun _ => none) (fun _ => some none) (some .byte) 1 (sp_J0_coder_7d493 cy P) := by
  intro as σ K KX J hlen hT hJ hOld
  obtain ⟨-, hs, hT⟩ := hT
  split at hT
  · rename_i q
    obtain ⟨v, hv⟩ := hs
    refine wp_of_S hJ (ct []) 400 _ _ _ _ _ _ ?_
    simp only [w_getstatic (cut := ct []) (pc' := 3) rfl dJ0_coder_7d493_0 rfl (q_J0_g38 P), w_if_eq (cut := ct []) (pc' := 6) (t := 13) rfl dJ0_coder_7d493_3 rfl (by decide) rfl, w_aload_n (cut := ct []) (pc' := 7) (i := 0) rfl dJ0_coder_7d493_6 rfl rfl, w_getold (CL := cl_J0 P) (cut := ct []) (pc' := 10) rfl dJ0_coder_7d493_7 rfl rfl, w_goto (cut := ct []) (t := 14) rfl dJ0_coder_7d493_10 (by decide) rfl, w_iconst (cut := ct []) (pc' := 14) (v := 1) rfl dJ0_coder_7d493_13 rfl rfl, w_ireturn (ty := .byte) (cut := ct []) rfl dJ0_coder_7d493_14 rfl, rsum, cg_int, cg_ref, cg_null, nby0, strd, mStr, onAL, true_imp_iff, false_imp_iff, not_true_eq_false, not_false_eq_true, Classical.not_not, eq_self, e10, e01, em1, Int32.reduceLT, Int32.reduceLE, onBoat, onGale, onOut, onPort, onRep, onWarn, yn, mI, mS, b0, okA, rcvd, nb0, nb1, ini, List.map_cons, List.map_nil, List.replicate_zero, List.replicate_succ, List.append_nil, ldI, ldA, incK, getK, putK, oldK, castK, inv1, nwO, nwA, nwR, alen, ald, bald, ast, lald, last, rald, rast, goTo, nth, sto, setN, popN, okv, cat1_int, cat1_ref, cat1_null, cat1_rf, va_rf, hup_same, hup_hup, List.length_cons, List.length_nil, List.nil_append, List.cons_append, Option.toList, true_and, and_true, Nat.reduceAdd, Nat.reduceSub, Nat.reduceLT, Nat.reduceLeDiff, Nat.zero_le, Nat.sub_zero, Nat.zero_lt_succ, Nat.lt_add_left_iff_pos, Nat.succ_lt_succ_iff, sp_J0_coder_7d493, og9, og15, hv, Option.map_some]
    exact hT
  · exact hT.elim
set_option maxRecDepth 100000 in
theorem con_J0_coder_7d493 {l : Launch} {s0 : State} {D : va_G} {cy : Nat → ClassId} {P : Pm} {a0 : Array Value} (hE : E0 l s0 D cy P a0) : Con l s0 D yJ0_coder_7d493 (Cond.code yJ0_coder_7d493 cJ0_coder_7d493 1 (some .byte)) 0 0 (sp_J0_coder_7d493 cy P) := by
  refine con_of (clok_J0 hE _) (by decide) (fun as σ K KX h => okA_cat h.1) (Nat.le_of_ble_eq_true rfl) ?_ ?_ (m_J0_coder_7d493 cy P hE.2.2.2.1)
  · intro p e R s m args below meth c A Q hfr hlo hW B kd j g hg
    cases hg
  · intro p e R s m args below meth c A K KX hfr hlo hW B htab
    exact xok_none htab
set_option maxHeartbeats 2000000 in
theorem m_J0_isLatin1_aae02 (cy : Nat → ClassId) (P : Pm) (hP : PmOK P) : MOK (cl_J0 P) cy P.2.1 obj cJ0_isLatin1_aae02 (iv_J0_isLatin1_aae02 cy P) (fun _ => none) (fun _ => some none) (some .boolean) 1 (sp_J0_isLatin1_aae02 cy P) := by
  intro as σ K KX J hlen hT hJ hOld
  obtain ⟨-, hs, hT⟩ := hT
  split at hT
  · rename_i q
    obtain ⟨v, hv⟩ := hs
    refine wp_of_S hJ (ct []) 400 _ _ _ _ _ _ ?_
    simp only [w_getstatic (cut := ct []) (pc' := 3) rfl dJ0_isLatin1_aae02_0 rfl (q_J0_g38 P), w_if_eq (cut := ct []) (pc' := 6) (t := 17) rfl dJ0_isLatin1_aae02_3 rfl (by decide) rfl, w_aload_n (cut := ct []) (pc' := 7) (i := 0) rfl dJ0_isLatin1_aae02_6 rfl rfl, w_getold (CL := cl_J0 P) (cut := ct []) (pc' := 10) rfl dJ0_isLatin1_aae02_7 rfl rfl, w_if_ne (cut := ct []) (pc' := 13) (t := 17) rfl dJ0_isLatin1_aae02_10 rfl (by decide) rfl, w_iconst (cut := ct []) (pc' := 14) (v := 1) rfl dJ0_isLatin1_aae02_13 rfl rfl, w_goto (cut := ct []) (t := 18) rfl dJ0_isLatin1_aae02_14 (by decide) rfl, w_iconst (cut := ct []) (pc' := 18) (v := 0) rfl dJ0_isLatin1_aae02_17 rfl rfl, w_ireturn (ty := .boolean) (cut := ct []) rfl dJ0_isLatin1_aae02_18 rfl, rsum, cg_int, cg_ref, cg_null, nby0, strd, mStr, onAL, true_imp_iff, false_imp_iff, not_true_eq_false, not_false_eq_true, Classical.not_not, eq_self, e10, e01, em1, Int32.reduceLT, Int32.reduceLE, onBoat, onGale, onOut, onPort, onRep, onWarn, yn, mI, mS, b0, okA, rcvd, nb0, nb1, ini, List.map_cons, List.map_nil, List.replicate_zero, List.replicate_succ, List.append_nil, ldI, ldA, incK, getK, putK, oldK, castK, inv1, nwO, nwA, nwR, alen, ald, bald, ast, lald, last, rald, rast, goTo, nth, sto, setN, popN, okv, cat1_int, cat1_ref, cat1_null, cat1_rf, va_rf, hup_same, hup_hup, List.length_cons, List.length_nil, List.nil_append, List.cons_append, Option.toList, true_and, and_true, Nat.reduceAdd, Nat.reduceSub, Nat.reduceLT, Nat.reduceLeDiff, Nat.zero_le, Nat.sub_zero, Nat.zero_lt_succ, Nat.lt_add_left_iff_pos, Nat.succ_lt_succ_iff, sp_J0_isLatin1_aae02, og9, og15, hv, Option.map_some]
    exact hT
  · exact hT.elim
set_option maxRecDepth 100000 in
theorem con_J0_isLatin1_aae02 {l : Launch} {s0 : State} {D : va_G} {cy : Nat → ClassId} {P : Pm} {a0 : Array Value} (hE : E0 l s0 D cy P a0) : Con l s0 D yJ0_isLatin1_aae02 (Cond.code yJ0_isLatin1_aae02 cJ0_isLatin1_aae02 1 (some .boolean)) 0 0 (sp_J0_isLatin1_aae02 cy P) := by
  refine con_of (clok_J0 hE _) (by decide) (fun as σ K KX h => okA_cat h.1) (Nat.le_of_ble_eq_true rfl) ?_ ?_ (m_J0_isLatin1_aae02 cy P hE.2.2.2.1)
  · intro p e R s m args below meth c A Q hfr hlo hW B kd j g hg
    cases hg
  · intro p e R s m args below meth c A K KX hfr hlo hW B htab
    exact xok_none htab
def iv_J0_length_8abf5 (cy : Nat → ClassId) (P : Pm) : Nat → Nat → Option Sg
  | 0, 335 => some (sp_J0_coder_7d493 cy P)
  | _, _ => none
/-- how long the text of a String is -/
def sp_J0_length_8abf5 (cy : Nat → ClassId) (P : Pm) : Sg := mStr P [] b0 (fun as σ K _ => match as with
  | [.ref q] => ∃ v n f, P.2.2.2.1 q = some v ∧ P.2.1.2 v = some (n, f) ∧ n < 1000 ∧ K (some (.int (nI n))) σ
  | _ => False)
theorem shr0 {n : Nat} (h : n < 1000) : Int32.ofNat n >>> ((0 : Int32) &&& 31) = nI n := by
  have k := pk_shrN (n := n) (by omega) ((0 : Int32) &&& 31) 0 (by decide)
  rw [Nat.pow_zero, Nat.div_one] at k
  exact k
set_option maxHeartbeats 2000000 in
theorem m_J0_length_8abf5 (cy : Nat → ClassId) (P : Pm) (hP : PmOK P) : MOK (cl_J0 P) cy P.2.1 obj cJ0_length_8abf5 (iv_J0_length_8abf5 cy P) (fun _ => none) (fun _ => some none) (some .int) 1 (sp_J0_length_8abf5 cy P) := by
  intro as σ K KX J hlen hT hJ hOld
  obtain ⟨-, hs, hT⟩ := hT
  split at hT
  · rename_i q
    obtain ⟨v, n, f, hv, hf, hn, hT⟩ := hT
    have hz : (v = P.2.1.1) = False := eq_false (hP.2.2 v n f hf)
    have hσ : σ v = none := hOld.2 v n f hf
    have hs0 := shr0 hn
    refine wp_of_S hJ (ct []) 400 _ _ _ _ _ _ ?_
    simp only [w_aload_n (cut := ct []) (pc' := 1) (i := 0) rfl dJ0_length_8abf5_0 rfl rfl, w_getold (CL := cl_J0 P) (cut := ct []) (pc' := 4) rfl dJ0_length_8abf5_1 rfl rfl, w_arraylength (cut := ct []) rfl dJ0_length_8abf5_4, w_aload_n (cut := ct []) (pc' := 6) (i := 0) rfl dJ0_length_8abf5_5 rfl rfl, w_invoke (inv := iv_J0_length_8abf5 cy P) (kd := 0) (f := 335) (g := sp_J0_coder_7d493 cy P) (cut := ct []) rfl dJ0_length_8abf5_6 rfl (by decide) rfl, w_ishr (cut := ct []) (pc' := 10) rfl dJ0_length_8abf5_9 rfl, w_ireturnI (cut := ct []) rfl dJ0_length_8abf5_10 rfl, rsum, cg_int, cg_ref, cg_null, nby0, strd, mStr, onAL, true_imp_iff, false_imp_iff, not_true_eq_false, not_false_eq_true, Classical.not_not, eq_self, e10, e01, em1, Int32.reduceLT, Int32.reduceLE, onBoat, onGale, onOut, onPort, onRep, onWarn, yn, mI, mS, b0, okA, rcvd, nb0, nb1, ini, List.map_cons, List.map_nil, List.replicate_zero, List.replicate_succ, List.append_nil, ldI, ldA, incK, getK, putK, oldK, castK, inv1, nwO, nwA, nwR, alen, ald, bald, ast, lald, last, rald, rast, goTo, nth, sto, setN, popN, okv, cat1_int, cat1_ref, cat1_null, cat1_rf, va_rf, hup_same, hup_hup, List.length_cons, List.length_nil, List.nil_append, List.cons_append, Option.toList, true_and, and_true, Nat.reduceAdd, Nat.reduceSub, Nat.reduceLT, Nat.reduceLeDiff, Nat.zero_le, Nat.sub_zero, Nat.zero_lt_succ, Nat.lt_add_left_iff_pos, Nat.succ_lt_succ_iff, sp_J0_length_8abf5, og9, og15, hv, hf, hz, hσ, hs0, Option.map_some, ite_false, sp_J0_coder_7d493, Option.some.injEq, exists_eq']
    exact hT
  · exact hT.elim
set_option maxRecDepth 100000 in
theorem con_J0_length_8abf5 {l : Launch} {s0 : State} {D : va_G} {cy : Nat → ClassId} {P : Pm} {a0 : Array Value} (hE : E0 l s0 D cy P a0) : Con l s0 D yJ0_length_8abf5 (Cond.code yJ0_length_8abf5 cJ0_length_8abf5 1 (some .int)) 1 20 (sp_J0_length_8abf5 cy P) := by
  refine con_of (clok_J0 hE _) (by decide) (fun as σ K KX h => okA_cat h.1) (Nat.le_of_ble_eq_true rfl) ?_ ?_ (m_J0_length_8abf5 cy P hE.2.2.2.1)
  · intro p e R s m args below meth c A Q hfr hlo hW B kd j g hg
    unfold iv_J0_length_8abf5 at hg
    split at hg
    · cases hg; exact inv_str B hE (con_J0_coder_7d493 hE) (fun as σ K KX h => h.2.1) (cw_mk hE hW tw_561 rfl tw_23 ⟨by decide, by decide⟩ rfl) rfl (wd hE hW tw_558 rfl) (wd hE hW tw_559 rfl) (wd hE hW tw_560 rfl) (by rw [hfr]; decide) (by rw [hlo]; decide)
    · cases hg
  · intro p e R s m args below meth c A K KX hfr hlo hW B htab
    exact xok_none htab
def iv_J0_checkIndex_df160 (cy : Nat → ClassId) (P : Pm) : Nat → Nat → Option Sg
  | 1, 1059 => some (sp_J3_checkIndex_8e157 cy P)
  | _, _ => none
def sp_J0_checkIndex_df160 (cy : Nat → ClassId) (P : Pm) : Sg := mS [0, 0] b0 (fun as σ K _ => match as with
  | [.int i, .int n] => (i < 0) = False ∧ (i < n) = True ∧ K none σ
  | _ => False)
set_option maxHeartbeats 2000000 in
theorem m_J0_checkIndex_df160 (cy : Nat → ClassId) (P : Pm) (hP : PmOK P) : MOK (cl_J0 P) cy P.2.1 obj cJ0_checkIndex_df160 (iv_J0_checkIndex_df160 cy P) (fun _ => none) (fun _ => some none) (none) 2 (sp_J0_checkIndex_df160 cy P) := by
  intro as σ K KX J hlen hT hJ hOld
  obtain ⟨-, hT⟩ := hT
  split at hT
  · rename_i i n
    obtain ⟨h1, h2, hT⟩ := hT
    rcases hP.2.1 with h5 | ⟨w, h5⟩
    all_goals
      refine wp_of_S hJ (ct []) 400 _ _ _ _ _ _ ?_
      simp only [w_iload_n (cut := ct []) (pc' := 1) (i := 0) rfl dJ0_checkIndex_df160_0 rfl rfl, w_iload_n (cut := ct []) (pc' := 2) (i := 1) rfl dJ0_checkIndex_df160_1 rfl rfl, w_getstatic (cut := ct []) (pc' := 5) rfl dJ0_checkIndex_df160_2 rfl (q_J0_g1053 P), w_invoke (inv := iv_J0_checkIndex_df160 cy P) (kd := 1) (f := 1059) (g := sp_J3_checkIndex_8e157 cy P) (cut := ct []) rfl dJ0_checkIndex_df160_5 rfl (by decide) rfl, w_pop (cut := ct []) (pc' := 9) rfl dJ0_checkIndex_df160_8 rfl, w_return (cut := ct []) rfl dJ0_checkIndex_df160_9 rfl, rsum, cg_int, cg_ref, cg_null, nby0, strd, mStr, onAL, true_imp_iff, false_imp_iff, not_true_eq_false, not_false_eq_true, Classical.not_not, eq_self, e10, e01, em1, Int32.reduceLT, Int32.reduceLE, onBoat, onGale, onOut, onPort, onRep, onWarn, yn, mI, mS, b0, okA, rcvd, nb0, nb1, ini, List.map_cons, List.map_nil, List.replicate_zero, List.replicate_succ, List.append_nil, ldI, ldA, incK, getK, putK, oldK, castK, inv1, nwO, nwA, nwR, alen, ald, bald, ast, lald, last, rald, rast, goTo, nth, sto, setN, popN, okv, cat1_int, cat1_ref, cat1_null, cat1_rf, va_rf, hup_same, hup_hup, List.length_cons, List.length_nil, List.nil_append, List.cons_append, Option.toList, true_and, and_true, Nat.reduceAdd, Nat.reduceSub, Nat.reduceLT, Nat.reduceLeDiff, Nat.zero_le, Nat.sub_zero, Nat.zero_lt_succ, Nat.lt_add_left_iff_pos, Nat.succ_lt_succ_iff, sp_J0_checkIndex_df160, h1, h2, h5, sp_J3_checkIndex_8e157]
      exact hT
  · exact hT.elim
set_option maxRecDepth 100000 in
theorem con_J0_checkIndex_df160 {l : Launch} {s0 : State} {D : va_G} {cy : Nat → ClassId} {P : Pm} {a0 : Array Value} (hE : E0 l s0 D cy P a0) : Con l s0 D yJ0_checkIndex_df160 (Cond.code yJ0_checkIndex_df160 cJ0_checkIndex_df160 2 none) 1 22 (sp_J0_checkIndex_df160 cy P) := by
  refine con_of (clok_J0 hE _) (by decide) (fun as σ K KX h => okA_cat h.1) (Nat.le_of_ble_eq_true rfl) ?_ ?_ (m_J0_checkIndex_df160 cy P hE.2.2.2.1)
  · intro p e R s m args below meth c A Q hfr hlo hW B kd j g hg
    unfold iv_J0_checkIndex_df160 at hg
    split at hg
    · cases hg; exact inv_S B (con_J3_checkIndex_8e157 hE) (cw_mk hE hW tw_215 rfl tw_21 ⟨by decide, by decide⟩ rfl) (wd hE hW tw_580 rfl) (wd hE hW tw_214 rfl) (by rw [hfr]; decide) (by rw [hlo]; decide)
    · cases hg
  · intro p e R s m args below meth c A K KX hfr hlo hW B htab
    exact xok_none htab
def iv_J1_charAt_3b067 (cy : Nat → ClassId) (P : Pm) : Nat → Nat → Option Sg
  | 1, 9 => some (sp_J0_checkIndex_df160 cy P)
  | _, _ => none
def sp_J1_charAt_3b067 (cy : Nat → ClassId) (P : Pm) : Sg := mS [1, 0] b0 (fun as σ K _ => match as with
  | [.ref v, .int i] => ∃ n f, P.2.1.2 v = some (n, f) ∧ vp_in i n ∧ (i < 0) = False ∧ (i < Int32.ofNat n) = True ∧ K (some (.int ((f i.toNatClampNeg &&& 255).toUInt32 % 65536).toInt32)) σ
  | _ => False)
set_option maxHeartbeats 2000000 in
theorem m_J1_charAt_3b067 (cy : Nat → ClassId) (P : Pm) (hP : PmOK P) : MOK (cl_J1 P) cy P.2.1 obj cJ1_charAt_3b067 (iv_J1_charAt_3b067 cy P) (fun _ => none) (fun _ => some none) (some .char) 2 (sp_J1_charAt_3b067 cy P) := by
  intro as σ K KX J hlen hT hJ hOld
  obtain ⟨-, hT⟩ := hT
  split at hT
  · rename_i v i
    obtain ⟨n, f, hf, hin, h1, h2, hT⟩ := hT
    have hz : (v = P.2.1.1) = False := eq_false (hP.2.2 v n f hf)
    have hσ : σ v = none := hOld.2 v n f hf
    refine wp_of_S hJ (ct []) 400 _ _ _ _ _ _ ?_
    simp only [w_iload_n (cut := ct []) (pc' := 1) (i := 1) rfl dJ1_charAt_3b067_0 rfl rfl, w_aload_n (cut := ct []) (pc' := 2) (i := 0) rfl dJ1_charAt_3b067_1 rfl rfl, w_arraylength (cut := ct []) rfl dJ1_charAt_3b067_2, w_invoke (inv := iv_J1_charAt_3b067 cy P) (kd := 1) (f := 9) (g := sp_J0_checkIndex_df160 cy P) (cut := ct []) rfl dJ1_charAt_3b067_3 rfl (by decide) rfl, w_aload_n (cut := ct []) (pc' := 7) (i := 0) rfl dJ1_charAt_3b067_6 rfl rfl, w_iload_n (cut := ct []) (pc' := 8) (i := 1) rfl dJ1_charAt_3b067_7 rfl rfl, w_baload (cut := ct []) rfl dJ1_charAt_3b067_8, w_sipush (cut := ct []) (pc' := 12) (v := 255) rfl dJ1_charAt_3b067_9 rfl rfl, w_iand (cut := ct []) (pc' := 13) rfl dJ1_charAt_3b067_12 rfl, w_i2c (cut := ct []) (pc' := 14) rfl dJ1_charAt_3b067_13 rfl, w_ireturn (ty := .char) (cut := ct []) rfl dJ1_charAt_3b067_14 rfl, rsum, cg_int, cg_ref, cg_null, nby0, strd, mStr, onAL, true_imp_iff, false_imp_iff, not_true_eq_false, not_false_eq_true, Classical.not_not, eq_self, e10, e01, em1, Int32.reduceLT, Int32.reduceLE, onBoat, onGale, onOut, onPort, onRep, onWarn, yn, mI, mS, b0, okA, rcvd, nb0, nb1, ini, List.map_cons, List.map_nil, List.replicate_zero, List.replicate_succ, List.append_nil, ldI, ldA, incK, getK, putK, oldK, castK, inv1, nwO, nwA, nwR, alen, ald, bald, ast, lald, last, rald, rast, goTo, nth, sto, setN, popN, okv, cat1_int, cat1_ref, cat1_null, cat1_rf, va_rf, hup_same, hup_hup, List.length_cons, List.length_nil, List.nil_append, List.cons_append, Option.toList, true_and, and_true, Nat.reduceAdd, Nat.reduceSub, Nat.reduceLT, Nat.reduceLeDiff, Nat.zero_le, Nat.sub_zero, Nat.zero_lt_succ, Nat.lt_add_left_iff_pos, Nat.succ_lt_succ_iff, sp_J1_charAt_3b067, hf, hz, hσ, h1, h2, ite_false, sp_J0_checkIndex_df160]
    exact ⟨hin, pk_nc _, hT⟩
  · exact hT.elim
set_option maxRecDepth 100000 in
theorem con_J1_charAt_3b067 {l : Launch} {s0 : State} {D : va_G} {cy : Nat → ClassId} {P : Pm} {a0 : Array Value} (hE : E0 l s0 D cy P a0) : Con l s0 D yJ1_charAt_3b067 (Cond.code yJ1_charAt_3b067 cJ1_charAt_3b067 2 (some .char)) 2 43 (sp_J1_charAt_3b067 cy P) := by
  refine con_of (clok_J1 hE _) (by decide) (fun as σ K KX h => okA_cat h.1) (Nat.le_of_ble_eq_true rfl) ?_ ?_ (m_J1_charAt_3b067 cy P hE.2.2.2.1)
  · intro p e R s m args below meth c A Q hfr hlo hW B kd j g hg
    unfold iv_J1_charAt_3b067 at hg
    split at hg
    · cases hg; exact inv_S B (con_J0_checkIndex_df160 hE) (cw_mk hE hW tw_577 rfl tw_23 ⟨by decide, by decide⟩ rfl) (wd hE hW tw_575 rfl) (wd hE hW tw_576 rfl) (by rw [hfr]; decide) (by rw [hlo]; decide)
    · cases hg
  · intro p e R s m args below meth c A K KX hfr hlo hW B htab
    exact xok_none htab
def iv_J0_charAt_5068e (cy : Nat → ClassId) (P : Pm) : Nat → Nat → Option Sg
  | 0, 492 => some (sp_J0_isLatin1_aae02 cy P)
  | 1, 495 => some (sp_J1_charAt_3b067 cy P)
  | _, _ => none
def sp_J0_charAt_5068e (cy : Nat → ClassId) (P : Pm) : Sg := mStr P [0] b0 (fun as σ K _ => match as with
  | [.ref q, .int i] => ∃ v n f, P.2.2.2.1 q = some v ∧ P.2.1.2 v = some (n, f) ∧ vp_in i n ∧ (i < 0) = False ∧ (i < Int32.ofNat n) = True ∧ K (some (.int ((f i.toNatClampNeg &&& 255).toUInt32 % 65536).toInt32)) σ
  | _ => False)
set_option maxHeartbeats 2000000 in
theorem m_J0_charAt_5068e (cy : Nat → ClassId) (P : Pm) (hP : PmOK P) : MOK (cl_J0 P) cy P.2.1 obj cJ0_charAt_5068e (iv_J0_charAt_5068e cy P) (fun _ => none) (fun _ => some none) (some .char) 2 (sp_J0_charAt_5068e cy P) := by
  intro as σ K KX J hlen hT hJ hOld
  obtain ⟨-, hs, hT⟩ := hT
  split at hT
  · rename_i q i
    obtain ⟨v, n, f, hv, hf, hin, h1, h2, hT⟩ := hT
    refine wp_of_S hJ (ct []) 400 _ _ _ _ _ _ ?_
    simp only [w_aload_n (cut := ct []) (pc' := 1) (i := 0) rfl dJ0_charAt_5068e_0 rfl rfl, w_invoke (inv := iv_J0_charAt_5068e cy P) (kd := 0) (f := 492) (g := sp_J0_isLatin1_aae02 cy P) (cut := ct []) rfl dJ0_charAt_5068e_1 rfl (by decide) rfl, w_if_eq (cut := ct []) (pc' := 7) (t := 16) rfl dJ0_charAt_5068e_4 rfl (by decide) rfl, w_aload_n (cut := ct []) (pc' := 8) (i := 0) rfl dJ0_charAt_5068e_7 rfl rfl, w_getold (CL := cl_J0 P) (cut := ct []) (pc' := 11) rfl dJ0_charAt_5068e_8 rfl rfl, w_iload_n (cut := ct []) (pc' := 12) (i := 1) rfl dJ0_charAt_5068e_11 rfl rfl, w_invoke (inv := iv_J0_charAt_5068e cy P) (kd := 1) (f := 495) (g := sp_J1_charAt_3b067 cy P) (cut := ct []) rfl dJ0_charAt_5068e_12 rfl (by decide) rfl, w_ireturn (ty := .char) (cut := ct []) rfl dJ0_charAt_5068e_15 rfl, w_aload_n (cut := ct []) (pc' := 17) (i := 0) rfl dJ0_charAt_5068e_16 rfl rfl, w_getold (CL := cl_J0 P) (cut := ct []) (pc' := 20) rfl dJ0_charAt_5068e_17 rfl rfl, w_iload_n (cut := ct []) (pc' := 21) (i := 1) rfl dJ0_charAt_5068e_20 rfl rfl, w_ireturn (ty := .char) (cut := ct []) rfl dJ0_charAt_5068e_24 rfl, rsum, cg_int, cg_ref, cg_null, nby0, strd, mStr, onAL, true_imp_iff, false_imp_iff, not_true_eq_false, not_false_eq_true, Classical.not_not, eq_self, e10, e01, em1, Int32.reduceLT, Int32.reduceLE, onBoat, onGale, onOut, onPort, onRep, onWarn, yn, mI, mS, b0, okA, rcvd, nb0, nb1, ini, List.map_cons, List.map_nil, List.replicate_zero, List.replicate_succ, List.append_nil, ldI, ldA, incK, getK, putK, oldK, castK, inv1, nwO, nwA, nwR, alen, ald, bald, ast, lald, last, rald, rast, goTo, nth, sto, setN, popN, okv, cat1_int, cat1_ref, cat1_null, cat1_rf, va_rf, hup_same, hup_hup, List.length_cons, List.length_nil, List.nil_append, List.cons_append, Option.toList, true_and, and_true, Nat.reduceAdd, Nat.reduceSub, Nat.reduceLT, Nat.reduceLeDiff, Nat.zero_le, Nat.sub_zero, Nat.zero_lt_succ, Nat.lt_add_left_iff_pos, Nat.succ_lt_succ_iff, sp_J0_charAt_5068e, og9, og15, hv, Option.map_some, ite_false, sp_J0_isLatin1_aae02, sp_J1_charAt_3b067, Option.some.injEq, exists_eq']
    exact ⟨n, f, hf, hin, h1, h2, pk_nc _, hT⟩
  · exact hT.elim
set_option maxRecDepth 100000 in
theorem con_J0_charAt_5068e {l : Launch} {s0 : State} {D : va_G} {cy : Nat → ClassId} {P : Pm} {a0 : Array Value} (hE : E0 l s0 D cy P a0) : Con l s0 D yJ0_charAt_5068e (Cond.code yJ0_charAt_5068e cJ0_charAt_5068e 2 (some .char)) 3 64 (sp_J0_charAt_5068e cy P) := by
  refine con_of (clok_J0 hE _) (by decide) (fun as σ K KX h => okA_cat h.1) (Nat.le_of_ble_eq_true rfl) ?_ ?_ (m_J0_charAt_5068e cy P hE.2.2.2.1)
  · intro p e R s m args below meth c A Q hfr hlo hW B kd j g hg
    unfold iv_J0_charAt_5068e at hg
    split at hg
    · cases hg; exact inv_str B hE (con_J0_isLatin1_aae02 hE) (fun as σ K KX h => h.2.1) (cw_mk hE hW tw_571 rfl tw_23 ⟨by decide, by decide⟩ rfl) rfl (wd hE hW tw_568 rfl) (wd hE hW tw_569 rfl) (wd hE hW tw_570 rfl) (by rw [hfr]; decide) (by rw [hlo]; decide)
    · cases hg; exact inv_S B (con_J1_charAt_3b067 hE) (cw_mk hE hW tw_574 rfl tw_24 ⟨by decide, by decide⟩ rfl) (wd hE hW tw_572 rfl) (wd hE hW tw_573 rfl) (by rw [hfr]; decide) (by rw [hlo]; decide)
    · cases hg
  · intro p e R s m args below meth c A K KX hfr hlo hW B htab
    exact xok_none htab
