/-! ===== the model: reading a text ===== -/
def SI (I I' : Nat → Int32) : Prop := ∀ j, j ≠ 20 → j ≠ 22 → I' j = I j
theorem SI_rf {I : Nat → Int32} : SI I I := fun _ _ _ => rfl
theorem SI_tr {I I' I2 : Nat → Int32} (h : SI I I') (h2 : SI I' I2) : SI I I2 := fun j a b => (h2 j a b).trans (h j a b)
theorem SI_20 {I I' : Nat → Int32} {v : Int32} (h : SI I I') : SI I (iu I' 20 v) := fun j a b => (if_neg a).trans (h j a b)
theorem SI_22 {I I' : Nat → Int32} {v : Int32} (h : SI I I') : SI I (iu I' 22 v) := fun j a b => (if_neg b).trans (h j a b)
theorem isIn1 {a b : Int32} : (isIn a a b = true) = (b = a) := by
  unfold isIn
  apply propext
  rw [Bool.and_eq_true, decide_eq_true_eq, decide_eq_true_eq]
  exact ⟨fun h => Int32.le_antisymm h.2 h.1, fun h => by rw [h]; exact ⟨Int32.le_refl _, Int32.le_refl _⟩⟩
theorem isIn32 {b : Int32} : isIn 32 32 b = isB b := by
  rw [Bool.eq_iff_iff, isIn1]
  unfold isB
  rw [decide_eq_true_eq]
def iv_X9_isAt (cy : Nat → ClassId) (P : Pm) : Nat → Nat → Option Sg
  | _, _ => none
def sp_X9_isAt (cy : Nat → ClassId) (P : Pm) : Sg := mI 10 [0, 0] b0 (fun as σ K _ => match as with
  | [.ref m, .int lo, .int hi] => ∃ A I M p L, MD cy σ m A I M ∧ I 20 = nI p ∧ I 21 = nI L ∧ p ≤ L ∧ L ≤ 400 ∧ yn (p < L ∧ isIn lo hi (M 18 p) = true) K σ
  | _ => False)
set_option maxRecDepth 8000 in
set_option maxHeartbeats 4000000 in
theorem m_X9_isAt (cy : Nat → ClassId) (P : Pm) (hP : PmOK P) : MOK (cl_X9 P) cy P.2.1 obj cX9_isAt (iv_X9_isAt cy P) (fun _ => none) (fun _ => some none) (some .boolean) 3 (sp_X9_isAt cy P) := by
  intro as σ K KX J hlen hT hJ hOld
  obtain ⟨-, -, hT⟩ := hT
  split at hT
  · rename_i m lo hi
    obtain ⟨A, I, M, p, L, hM, i20, i21, hp, hL, hT1, hT2⟩ := hT
    have hm := hM.1
    have a18 : σ (A 18) = some (.inl (cy 1, 400, .inl (M 18))) := hM.2.1 18 rfl
    have hlt : (nI L ≤ nI p) = ¬ p < L := propext (by rw [nI_leI (by omega) (by omega)]; omega)
    by_cases h : p < L
    · have h' : (p < L) = True := eq_true h
      have v4 : vp_in (nI p) 400 = True := eq_true (vp_in_nI (by omega) (by omega))
      have c4 : (nI p).toNatClampNeg = p := nI_clamp (by omega)
      refine wp_of_S hJ (ct []) 400 _ _ _ _ _ _ ?_
      simp only [w_aload_n (cut := ct []) (pc' := 1) (i := 0) rfl dX9_isAt_0 rfl rfl, w_getfield (cut := ct []) (pc' := 4) rfl dX9_isAt_1 rfl (q_X9_f119 P), w_aload_n (cut := ct []) (pc' := 5) (i := 0) rfl dX9_isAt_4 rfl rfl, w_getfield (cut := ct []) (pc' := 8) rfl dX9_isAt_5 rfl (q_X9_f122 P), w_icmp_ge (cut := ct []) (pc' := 11) (t := 41) rfl dX9_isAt_8 rfl (by decide) rfl, w_aload_n (cut := ct []) (pc' := 12) (i := 0) rfl dX9_isAt_11 rfl rfl, w_getfield (cut := ct []) (pc' := 15) rfl dX9_isAt_12 rfl (q_X9_f49 P), w_aload_n (cut := ct []) (pc' := 16) (i := 0) rfl dX9_isAt_15 rfl rfl, w_getfield (cut := ct []) (pc' := 19) rfl dX9_isAt_16 rfl (q_X9_f119 P), w_baload (cut := ct []) rfl dX9_isAt_19, w_iload_n (cut := ct []) (pc' := 21) (i := 1) rfl dX9_isAt_20 rfl rfl, w_icmp_lt (cut := ct []) (pc' := 24) (t := 41) rfl dX9_isAt_21 rfl (by decide) rfl, w_aload_n (cut := ct []) (pc' := 25) (i := 0) rfl dX9_isAt_24 rfl rfl, w_getfield (cut := ct []) (pc' := 28) rfl dX9_isAt_25 rfl (q_X9_f49 P), w_aload_n (cut := ct []) (pc' := 29) (i := 0) rfl dX9_isAt_28 rfl rfl, w_getfield (cut := ct []) (pc' := 32) rfl dX9_isAt_29 rfl (q_X9_f119 P), w_baload (cut := ct []) rfl dX9_isAt_32, w_iload_n (cut := ct []) (pc' := 34) (i := 2) rfl dX9_isAt_33 rfl rfl, w_icmp_gt (cut := ct []) (pc' := 37) (t := 41) rfl dX9_isAt_34 rfl (by decide) rfl, w_iconst (cut := ct []) (pc' := 38) (v := 1) rfl dX9_isAt_37 rfl rfl, w_goto (cut := ct []) (t := 42) rfl dX9_isAt_38 (by decide) rfl, w_iconst (cut := ct []) (pc' := 42) (v := 0) rfl dX9_isAt_41 rfl rfl, w_ireturn (ty := .boolean) (cut := ct []) rfl dX9_isAt_42 rfl, rsum, cg_int, cg_ref, cg_null, nby0, strd, mStr, onAL, true_imp_iff, false_imp_iff, not_true_eq_false, not_false_eq_true, Classical.not_not, eq_self, e10, e01, em1, Int32.reduceLT, Int32.reduceLE, onBoat, onGale, onOut, onPort, onRep, onWarn, yn, mI, mS, b0, okA, nb0, nb1, ini, List.map_cons, List.map_nil, List.replicate_zero, List.replicate_succ, List.append_nil, ldI, ldA, incK, oldK, castK, inv1, nwO, nwA, nwR, alen, ald, bald, ast, lald, last, rald, rast, goTo, nth, sto, setN, popN, okv, cat1_int, cat1_ref, cat1_null, cat1_rf, va_rf, hup_same, hup_hup, List.length_cons, List.length_nil, List.nil_append, List.cons_append, Option.toList, true_and, and_true, Nat.reduceAdd, Nat.reduceSub, Nat.reduceLT, Nat.reduceLeDiff, Nat.zero_le, Nat.sub_zero, Nat.zero_lt_succ, Nat.lt_add_left_iff_pos, Nat.succ_lt_succ_iff, rcM2, Nat.reduceEqDiff, reduceIte, iu, isMd_M, setTE_M, fI_6, fI_36, fI_0, fI_1, one_ne, zero_ne, true_or, or_true, gM_0, gM_1, gM_2, gM_3, gM_4, gM_5, gM_6, gM_7, gM_8, gM_9, gM_10, gM_11, gM_12, gM_13, gM_14, gM_15, gM_16, gM_17, gM_18, gM_19, gM_20, gM_21, gM_22, gM_23, gM_24, gM_25, gM_26, gM_27, gM_28, gM_29, gM_30, gM_31, gM_32, gM_33, gM_34, gM_35, gM_36, pM_0, pM_1, pM_6, pM_12, pM_17, pM_19, pM_20, pM_21, pM_22, pM_23, pM_26, pM_27, pM_28, pM_29, pM_34, pM_36, sp_X9_isAt, hm, i20, i21, hlt, h', a18, v4, c4]
      refine ⟨fun g1 => hT2 (fun z => ?_), fun g1 => ⟨fun g2 => hT2 (fun z => ?_), fun g2 => hT1 ⟨h, ?_⟩⟩⟩
      · have := z.2
        simp [isIn] at this
        exact Int32.not_le.mpr g1 this.1
      · have := z.2
        simp [isIn] at this
        exact Int32.not_le.mpr g2 this.2
      · simp [isIn]
        exact ⟨Int32.not_lt.mp g1, Int32.not_lt.mp g2⟩
    · have h' : (p < L) = False := eq_false h
      refine wp_of_S hJ (ct []) 400 _ _ _ _ _ _ ?_
      simp only [w_aload_n (cut := ct []) (pc' := 1) (i := 0) rfl dX9_isAt_0 rfl rfl, w_getfield (cut := ct []) (pc' := 4) rfl dX9_isAt_1 rfl (q_X9_f119 P), w_aload_n (cut := ct []) (pc' := 5) (i := 0) rfl dX9_isAt_4 rfl rfl, w_getfield (cut := ct []) (pc' := 8) rfl dX9_isAt_5 rfl (q_X9_f122 P), w_icmp_ge (cut := ct []) (pc' := 11) (t := 41) rfl dX9_isAt_8 rfl (by decide) rfl, w_aload_n (cut := ct []) (pc' := 12) (i := 0) rfl dX9_isAt_11 rfl rfl, w_getfield (cut := ct []) (pc' := 15) rfl dX9_isAt_12 rfl (q_X9_f49 P), w_aload_n (cut := ct []) (pc' := 16) (i := 0) rfl dX9_isAt_15 rfl rfl, w_getfield (cut := ct []) (pc' := 19) rfl dX9_isAt_16 rfl (q_X9_f119 P), w_baload (cut := ct []) rfl dX9_isAt_19, w_iload_n (cut := ct []) (pc' := 21) (i := 1) rfl dX9_isAt_20 rfl rfl, w_icmp_lt (cut := ct []) (pc' := 24) (t := 41) rfl dX9_isAt_21 rfl (by decide) rfl, w_aload_n (cut := ct []) (pc' := 25) (i := 0) rfl dX9_isAt_24 rfl rfl, w_getfield (cut := ct []) (pc' := 28) rfl dX9_isAt_25 rfl (q_X9_f49 P), w_aload_n (cut := ct []) (pc' := 29) (i := 0) rfl dX9_isAt_28 rfl rfl, w_getfield (cut := ct []) (pc' := 32) rfl dX9_isAt_29 rfl (q_X9_f119 P), w_baload (cut := ct []) rfl dX9_isAt_32, w_iload_n (cut := ct []) (pc' := 34) (i := 2) rfl dX9_isAt_33 rfl rfl, w_icmp_gt (cut := ct []) (pc' := 37) (t := 41) rfl dX9_isAt_34 rfl (by decide) rfl, w_iconst (cut := ct []) (pc' := 38) (v := 1) rfl dX9_isAt_37 rfl rfl, w_goto (cut := ct []) (t := 42) rfl dX9_isAt_38 (by decide) rfl, w_iconst (cut := ct []) (pc' := 42) (v := 0) rfl dX9_isAt_41 rfl rfl, w_ireturn (ty := .boolean) (cut := ct []) rfl dX9_isAt_42 rfl, rsum, cg_int, cg_ref, cg_null, nby0, strd, mStr, onAL, true_imp_iff, false_imp_iff, not_true_eq_false, not_false_eq_true, Classical.not_not, eq_self, e10, e01, em1, Int32.reduceLT, Int32.reduceLE, onBoat, onGale, onOut, onPort, onRep, onWarn, yn, mI, mS, b0, okA, nb0, nb1, ini, List.map_cons, List.map_nil, List.replicate_zero, List.replicate_succ, List.append_nil, ldI, ldA, incK, oldK, castK, inv1, nwO, nwA, nwR, alen, ald, bald, ast, lald, last, rald, rast, goTo, nth, sto, setN, popN, okv, cat1_int, cat1_ref, cat1_null, cat1_rf, va_rf, hup_same, hup_hup, List.length_cons, List.length_nil, List.nil_append, List.cons_append, Option.toList, true_and, and_true, Nat.reduceAdd, Nat.reduceSub, Nat.reduceLT, Nat.reduceLeDiff, Nat.zero_le, Nat.sub_zero, Nat.zero_lt_succ, Nat.lt_add_left_iff_pos, Nat.succ_lt_succ_iff, rcM2, Nat.reduceEqDiff, reduceIte, iu, isMd_M, setTE_M, fI_6, fI_36, fI_0, fI_1, one_ne, zero_ne, true_or, or_true, gM_0, gM_1, gM_2, gM_3, gM_4, gM_5, gM_6, gM_7, gM_8, gM_9, gM_10, gM_11, gM_12, gM_13, gM_14, gM_15, gM_16, gM_17, gM_18, gM_19, gM_20, gM_21, gM_22, gM_23, gM_24, gM_25, gM_26, gM_27, gM_28, gM_29, gM_30, gM_31, gM_32, gM_33, gM_34, gM_35, gM_36, pM_0, pM_1, pM_6, pM_12, pM_17, pM_19, pM_20, pM_21, pM_22, pM_23, pM_26, pM_27, pM_28, pM_29, pM_34, pM_36, sp_X9_isAt, hm, i20, i21, hlt, h']
      exact hT2 (fun z => h z.1)
  · exact hT.elim
set_option maxRecDepth 100000 in
theorem con_X9_isAt {l : Launch} {s0 : State} {D : va_G} {cy : Nat → ClassId} {P : Pm} {a0 : Array Value} (hE : E0 l s0 D cy P a0) : Con l s0 D yX9_isAt (Cond.code yX9_isAt cX9_isAt 3 (some .boolean)) 0 0 (sp_X9_isAt cy P) := by
  refine con_of (clok_X9 hE _) (by decide) (fun as σ K KX h => okA_cat h.1) (Nat.le_of_ble_eq_true rfl) ?_ ?_ (m_X9_isAt cy P hE.2.2.2.1)
  · intro p e R s m args below meth c A Q hfr hlo hW B kd j g hg
    cases hg
  · intro p e R s m args below meth c A K KX hfr hlo hW B htab
    exact xok_none htab
def iv_X9_blanks (cy : Nat → ClassId) (P : Pm) : Nat → Nat → Option Sg
  | 0, 125 => some (sp_X9_isAt cy P)
  | _, _ => none
def sp_X9_blanks (cy : Nat → ClassId) (P : Pm) : Sg := mI 10 [] b0 (fun as σ K _ => match as with
  | [.ref m] => ∃ A I M p L, MD cy σ m A I M ∧ I 20 = nI p ∧ I 21 = nI L ∧ p ≤ L ∧ L ≤ 400 ∧ ∀ σ' I', MD cy σ' m A I' M → I' 20 = nI (adw isB (M 18) L p) → I' 22 = nI (adw isB (M 18) L p) → SI I I' → K none σ'
  | _ => False)
set_option maxRecDepth 8000 in
set_option maxHeartbeats 4000000 in
theorem m_X9_blanks (cy : Nat → ClassId) (P : Pm) (hP : PmOK P) : MOK (cl_X9 P) cy P.2.1 obj cX9_blanks (iv_X9_blanks cy P) (fun _ => none) (fun _ => some none) (none) 1 (sp_X9_blanks cy P) := by
  intro as σ K KX J hlen hT hJ hOld
  obtain ⟨-, -, hT⟩ := hT
  split at hT
  · rename_i m
    obtain ⟨A, I, M, p, L, hM, i20, i21, hp, hL, hK⟩ := hT
    have key : ∀ (j q : Nat) (σ1 : Hp) (I1 : Nat → Int32), L - q = j → q ≤ L → adw isB (M 18) L q = adw isB (M 18) L p → MD cy σ1 m A I1 M → I1 20 = nI q → SI I I1 → J 0 [some (.ref m)] [] σ1 0 0 := by
      intro j
      induction j with
      | zero =>
        intro q σ1 I1 hj hq hadw hM1 j20 hS
        have hm1 := hM1.1
        have j21 : I1 21 = nI L := (hS 21 (by decide) (by decide)).trans i21
        refine hJ (ct [0]) 400 _ _ _ _ _ _ ((s_aload_n (pc' := 1) (i := 0) dX9_blanks_0 rfl rfl).mpr ?_)
        simp only [w_cut (cut := ct [0]) (pc := 0) rfl, w_bipush (cut := ct [0]) (pc' := 3) (v := 32) rfl dX9_blanks_1 rfl rfl, w_bipush (cut := ct [0]) (pc' := 5) (v := 32) rfl dX9_blanks_3 rfl rfl, w_invoke (inv := iv_X9_blanks cy P) (kd := 0) (f := 125) (g := sp_X9_isAt cy P) (cut := ct [0]) rfl dX9_blanks_5 rfl (by decide) rfl, w_if_eq (cut := ct [0]) (pc' := 11) (t := 24) rfl dX9_blanks_8 rfl (by decide) rfl, w_aload_n (cut := ct [0]) (pc' := 12) (i := 0) rfl dX9_blanks_11 rfl rfl, w_dup (cut := ct [0]) (pc' := 13) rfl dX9_blanks_12 rfl, w_getfield (cut := ct [0]) (pc' := 16) rfl dX9_blanks_13 rfl (q_X9_f119 P), w_iconst (cut := ct [0]) (pc' := 17) (v := 1) rfl dX9_blanks_16 rfl rfl, w_iadd (cut := ct [0]) (pc' := 18) rfl dX9_blanks_17 rfl, w_putfield (cut := ct [0]) (pc' := 21) rfl dX9_blanks_18 rfl (q_X9_f119 P), w_goto (cut := ct [0]) (t := 0) rfl dX9_blanks_21 (by decide) rfl, w_aload_n (cut := ct [0]) (pc' := 25) (i := 0) rfl dX9_blanks_24 rfl rfl, w_aload_n (cut := ct [0]) (pc' := 26) (i := 0) rfl dX9_blanks_25 rfl rfl, w_getfield (cut := ct [0]) (pc' := 29) rfl dX9_blanks_26 rfl (q_X9_f119 P), w_putfield (cut := ct [0]) (pc' := 32) rfl dX9_blanks_29 rfl (q_X9_f129 P), w_return (cut := ct [0]) rfl dX9_blanks_32 rfl, rsum, cg_int, cg_ref, cg_null, nby0, strd, mStr, onAL, true_imp_iff, false_imp_iff, not_true_eq_false, not_false_eq_true, Classical.not_not, eq_self, e10, e01, em1, Int32.reduceLT, Int32.reduceLE, onBoat, onGale, onOut, onPort, onRep, onWarn, yn, mI, mS, b0, okA, nb0, nb1, ini, List.map_cons, List.map_nil, List.replicate_zero, List.replicate_succ, List.append_nil, ldI, ldA, incK, oldK, castK, inv1, nwO, nwA, nwR, alen, ald, bald, ast, lald, last, rald, rast, goTo, nth, sto, setN, popN, okv, cat1_int, cat1_ref, cat1_null, cat1_rf, va_rf, hup_same, hup_hup, List.length_cons, List.length_nil, List.nil_append, List.cons_append, Option.toList, true_and, and_true, Nat.reduceAdd, Nat.reduceSub, Nat.reduceLT, Nat.reduceLeDiff, Nat.zero_le, Nat.sub_zero, Nat.zero_lt_succ, Nat.lt_add_left_iff_pos, Nat.succ_lt_succ_iff, rcM2, Nat.reduceEqDiff, reduceIte, iu, isMd_M, setTE_M, fI_6, fI_36, fI_0, fI_1, one_ne, zero_ne, true_or, or_true, gM_0, gM_1, gM_2, gM_3, gM_4, gM_5, gM_6, gM_7, gM_8, gM_9, gM_10, gM_11, gM_12, gM_13, gM_14, gM_15, gM_16, gM_17, gM_18, gM_19, gM_20, gM_21, gM_22, gM_23, gM_24, gM_25, gM_26, gM_27, gM_28, gM_29, gM_30, gM_31, gM_32, gM_33, gM_34, gM_35, gM_36, pM_0, pM_1, pM_6, pM_12, pM_17, pM_19, pM_20, pM_21, pM_22, pM_23, pM_26, pM_27, pM_28, pM_29, pM_34, pM_36, hm1, MD_rc hM1, j20, sp_X9_isAt]
        refine ⟨A, I1, M, q, L, hM1, j20, j21, hq, hL, fun g => absurd g.1 (by omega), fun g => ?_⟩
        rw [adw_no (by omega)] at hadw
        exact hK _ (iu I1 22 (nI q)) (MD_set hM1) (by rw [← hadw]; exact j20) (by rw [← hadw]; rfl) (SI_22 hS)
      | succ j ih =>
        intro q σ1 I1 hj hq hadw hM1 j20 hS
        have hm1 := hM1.1
        have j21 : I1 21 = nI L := (hS 21 (by decide) (by decide)).trans i21
        have hnx : nI q + 1 = nI (q + 1) := nI_1 q
        refine hJ (ct [0]) 400 _ _ _ _ _ _ ((s_aload_n (pc' := 1) (i := 0) dX9_blanks_0 rfl rfl).mpr ?_)
        simp only [w_cut (cut := ct [0]) (pc := 0) rfl, w_bipush (cut := ct [0]) (pc' := 3) (v := 32) rfl dX9_blanks_1 rfl rfl, w_bipush (cut := ct [0]) (pc' := 5) (v := 32) rfl dX9_blanks_3 rfl rfl, w_invoke (inv := iv_X9_blanks cy P) (kd := 0) (f := 125) (g := sp_X9_isAt cy P) (cut := ct [0]) rfl dX9_blanks_5 rfl (by decide) rfl, w_if_eq (cut := ct [0]) (pc' := 11) (t := 24) rfl dX9_blanks_8 rfl (by decide) rfl, w_aload_n (cut := ct [0]) (pc' := 12) (i := 0) rfl dX9_blanks_11 rfl rfl, w_dup (cut := ct [0]) (pc' := 13) rfl dX9_blanks_12 rfl, w_getfield (cut := ct [0]) (pc' := 16) rfl dX9_blanks_13 rfl (q_X9_f119 P), w_iconst (cut := ct [0]) (pc' := 17) (v := 1) rfl dX9_blanks_16 rfl rfl, w_iadd (cut := ct [0]) (pc' := 18) rfl dX9_blanks_17 rfl, w_putfield (cut := ct [0]) (pc' := 21) rfl dX9_blanks_18 rfl (q_X9_f119 P), w_goto (cut := ct [0]) (t := 0) rfl dX9_blanks_21 (by decide) rfl, w_aload_n (cut := ct [0]) (pc' := 25) (i := 0) rfl dX9_blanks_24 rfl rfl, w_aload_n (cut := ct [0]) (pc' := 26) (i := 0) rfl dX9_blanks_25 rfl rfl, w_getfield (cut := ct [0]) (pc' := 29) rfl dX9_blanks_26 rfl (q_X9_f119 P), w_putfield (cut := ct [0]) (pc' := 32) rfl dX9_blanks_29 rfl (q_X9_f129 P), w_return (cut := ct [0]) rfl dX9_blanks_32 rfl, rsum, cg_int, cg_ref, cg_null, nby0, strd, mStr, onAL, true_imp_iff, false_imp_iff, not_true_eq_false, not_false_eq_true, Classical.not_not, eq_self, e10, e01, em1, Int32.reduceLT, Int32.reduceLE, onBoat, onGale, onOut, onPort, onRep, onWarn, yn, mI, mS, b0, okA, nb0, nb1, ini, List.map_cons, List.map_nil, List.replicate_zero, List.replicate_succ, List.append_nil, ldI, ldA, incK, oldK, castK, inv1, nwO, nwA, nwR, alen, ald, bald, ast, lald, last, rald, rast, goTo, nth, sto, setN, popN, okv, cat1_int, cat1_ref, cat1_null, cat1_rf, va_rf, hup_same, hup_hup, List.length_cons, List.length_nil, List.nil_append, List.cons_append, Option.toList, true_and, and_true, Nat.reduceAdd, Nat.reduceSub, Nat.reduceLT, Nat.reduceLeDiff, Nat.zero_le, Nat.sub_zero, Nat.zero_lt_succ, Nat.lt_add_left_iff_pos, Nat.succ_lt_succ_iff, rcM2, Nat.reduceEqDiff, reduceIte, iu, isMd_M, setTE_M, fI_6, fI_36, fI_0, fI_1, one_ne, zero_ne, true_or, or_true, gM_0, gM_1, gM_2, gM_3, gM_4, gM_5, gM_6, gM_7, gM_8, gM_9, gM_10, gM_11, gM_12, gM_13, gM_14, gM_15, gM_16, gM_17, gM_18, gM_19, gM_20, gM_21, gM_22, gM_23, gM_24, gM_25, gM_26, gM_27, gM_28, gM_29, gM_30, gM_31, gM_32, gM_33, gM_34, gM_35, gM_36, pM_0, pM_1, pM_6, pM_12, pM_17, pM_19, pM_20, pM_21, pM_22, pM_23, pM_26, pM_27, pM_28, pM_29, pM_34, pM_36, hm1, MD_rc hM1, j20, hnx, sp_X9_isAt]
        refine ⟨A, I1, M, q, L, hM1, j20, j21, hq, hL, fun g => ?_, fun g => ?_⟩
        · rw [isIn32] at g
          rw [adw_go g.1 g.2] at hadw
          exact ih (q + 1) _ (iu I1 20 (nI (q + 1))) (by omega) (by omega) hadw (MD_set hM1) rfl (SI_20 hS)
        · rw [isIn32] at g
          rw [adw_no g] at hadw
          exact hK _ (iu I1 22 (nI q)) (MD_set hM1) (by rw [← hadw]; exact j20) (by rw [← hadw]; rfl) (SI_22 hS)
    exact key (L - p) p σ I rfl hp rfl hM i20 SI_rf
  · exact hT.elim
set_option maxRecDepth 100000 in
theorem con_X9_blanks {l : Launch} {s0 : State} {D : va_G} {cy : Nat → ClassId} {P : Pm} {a0 : Array Value} (hE : E0 l s0 D cy P a0) : Con l s0 D yX9_blanks (Cond.code yX9_blanks cX9_blanks 1 none) 1 22 (sp_X9_blanks cy P) := by
  refine con_of (clok_X9 hE _) (by decide) (fun as σ K KX h => okA_cat h.1) (Nat.le_of_ble_eq_true rfl) ?_ ?_ (m_X9_blanks cy P hE.2.2.2.1)
  · intro p e R s m args below meth c A Q hfr hlo hW B kd j g hg
    unfold iv_X9_blanks at hg
    split at hg
    · cases hg; exact inv_V (ci := 10) B (con_X9_isAt hE) rfl (fun as σ K KX h => rcvd_spec h.2.1) (cw_mk hE hW tw_1097 rfl tw_8 ⟨by decide, by decide⟩ rfl) rfl (wd hE hW tw_1094 rfl) (wd hE hW tw_1096 rfl) (wd hE hW (List.mem_of_getElem? (i := 35) (by decide +kernel)) rfl) (by rw [hfr]; decide) (by rw [hlo]; decide)
    · cases hg
  · intro p e R s m args below meth c A K KX hfr hlo hW B htab
    exact xok_none htab
def iv_X9_word (cy : Nat → ClassId) (P : Pm) : Nat → Nat → Option Sg
  | 0, 132 => some (sp_X9_blanks cy P)
  | 0, 125 => some (sp_X9_isAt cy P)
  | _, _ => none
def sp_X9_word (cy : Nat → ClassId) (P : Pm) : Sg := mI 10 [] b0 (fun as σ K _ => match as with
  | [.ref m] => ∃ A I M p L, MD cy σ m A I M ∧ I 20 = nI p ∧ I 21 = nI L ∧ p ≤ L ∧ L ≤ 400 ∧ ∀ σ' I', MD cy σ' m A I' M → I' 20 = nI (adw (isIn 97 122) (M 18) L (adw isB (M 18) L p)) → I' 22 = nI (adw isB (M 18) L p) → SI I I' → K none σ'
  | _ => False)
set_option maxRecDepth 8000 in
set_option maxHeartbeats 4000000 in
theorem m_X9_word (cy : Nat → ClassId) (P : Pm) (hP : PmOK P) : MOK (cl_X9 P) cy P.2.1 obj cX9_word (iv_X9_word cy P) (fun _ => none) (fun _ => some none) (none) 1 (sp_X9_word cy P) := by
  intro as σ K KX J hlen hT hJ hOld
  obtain ⟨-, -, hT⟩ := hT
  split at hT
  · rename_i m
    obtain ⟨A, I, M, p, L, hM, i20, i21, hp, hL, hK⟩ := hT
    have hle := adw_le (c := isB) (f := M 18) (L := L) _ p rfl hp
    generalize hb9 : adw isB (M 18) L p = b at hle hK
    have key : ∀ (j q : Nat) (σ1 : Hp) (I1 : Nat → Int32), L - q = j → q ≤ L → adw (isIn 97 122) (M 18) L q = adw (isIn 97 122) (M 18) L b → MD cy σ1 m A I1 M → I1 20 = nI q → I1 22 = nI b → SI I I1 → J 4 [some (.ref m)] [] σ1 0 0 := by
      intro j
      induction j with
      | zero =>
        intro q σ1 I1 hj hq hadw hM1 j20 j22 hS
        have hm1 := hM1.1
        have j21 : I1 21 = nI L := (hS 21 (by decide) (by decide)).trans i21
        refine hJ (ct [4]) 400 _ _ _ _ _ _ ((s_aload_n (pc' := 5) (i := 0) dX9_word_4 rfl rfl).mpr ?_)
        simp only [w_aload_n (cut := ct [4]) (pc' := 1) (i := 0) rfl dX9_word_0 rfl rfl, w_invoke (inv := iv_X9_word cy P) (kd := 0) (f := 132) (g := sp_X9_blanks cy P) (cut := ct [4]) rfl dX9_word_1 rfl (by decide) rfl, w_cut (cut := ct [4]) (pc := 4) rfl, w_bipush (cut := ct [4]) (pc' := 7) (v := 97) rfl dX9_word_5 rfl rfl, w_bipush (cut := ct [4]) (pc' := 9) (v := 122) rfl dX9_word_7 rfl rfl, w_invoke (inv := iv_X9_word cy P) (kd := 0) (f := 125) (g := sp_X9_isAt cy P) (cut := ct [4]) rfl dX9_word_9 rfl (by decide) rfl, w_if_eq (cut := ct [4]) (pc' := 15) (t := 28) rfl dX9_word_12 rfl (by decide) rfl, w_aload_n (cut := ct [4]) (pc' := 16) (i := 0) rfl dX9_word_15 rfl rfl, w_dup (cut := ct [4]) (pc' := 17) rfl dX9_word_16 rfl, w_getfield (cut := ct [4]) (pc' := 20) rfl dX9_word_17 rfl (q_X9_f119 P), w_iconst (cut := ct [4]) (pc' := 21) (v := 1) rfl dX9_word_20 rfl rfl, w_iadd (cut := ct [4]) (pc' := 22) rfl dX9_word_21 rfl, w_putfield (cut := ct [4]) (pc' := 25) rfl dX9_word_22 rfl (q_X9_f119 P), w_goto (cut := ct [4]) (t := 4) rfl dX9_word_25 (by decide) rfl, w_return (cut := ct [4]) rfl dX9_word_28 rfl, rsum, cg_int, cg_ref, cg_null, nby0, strd, mStr, onAL, true_imp_iff, false_imp_iff, not_true_eq_false, not_false_eq_true, Classical.not_not, eq_self, e10, e01, em1, Int32.reduceLT, Int32.reduceLE, onBoat, onGale, onOut, onPort, onRep, onWarn, yn, mI, mS, b0, okA, nb0, nb1, ini, List.map_cons, List.map_nil, List.replicate_zero, List.replicate_succ, List.append_nil, ldI, ldA, incK, oldK, castK, inv1, nwO, nwA, nwR, alen, ald, bald, ast, lald, last, rald, rast, goTo, nth, sto, setN, popN, okv, cat1_int, cat1_ref, cat1_null, cat1_rf, va_rf, hup_same, hup_hup, List.length_cons, List.length_nil, List.nil_append, List.cons_append, Option.toList, true_and, and_true, Nat.reduceAdd, Nat.reduceSub, Nat.reduceLT, Nat.reduceLeDiff, Nat.zero_le, Nat.sub_zero, Nat.zero_lt_succ, Nat.lt_add_left_iff_pos, Nat.succ_lt_succ_iff, rcM2, Nat.reduceEqDiff, reduceIte, iu, isMd_M, setTE_M, fI_6, fI_36, fI_0, fI_1, one_ne, zero_ne, true_or, or_true, gM_0, gM_1, gM_2, gM_3, gM_4, gM_5, gM_6, gM_7, gM_8, gM_9, gM_10, gM_11, gM_12, gM_13, gM_14, gM_15, gM_16, gM_17, gM_18, gM_19, gM_20, gM_21, gM_22, gM_23, gM_24, gM_25, gM_26, gM_27, gM_28, gM_29, gM_30, gM_31, gM_32, gM_33, gM_34, gM_35, gM_36, pM_0, pM_1, pM_6, pM_12, pM_17, pM_19, pM_20, pM_21, pM_22, pM_23, pM_26, pM_27, pM_28, pM_29, pM_34, pM_36, hm1, MD_rc hM1, j20, sp_X9_isAt]
        refine ⟨A, I1, M, q, L, hM1, j20, j21, hq, hL, fun g => absurd g.1 (by omega), fun g => ?_⟩
        rw [adw_no (by omega)] at hadw
        exact hK _ I1 hM1 (by rw [← hadw]; exact j20) j22 hS
      | succ j ih =>
        intro q σ1 I1 hj hq hadw hM1 j20 j22 hS
        have hm1 := hM1.1
        have j21 : I1 21 = nI L := (hS 21 (by decide) (by decide)).trans i21
        have hnx : nI q + 1 = nI (q + 1) := nI_1 q
        refine hJ (ct [4]) 400 _ _ _ _ _ _ ((s_aload_n (pc' := 5) (i := 0) dX9_word_4 rfl rfl).mpr ?_)
        simp only [w_aload_n (cut := ct [4]) (pc' := 1) (i := 0) rfl dX9_word_0 rfl rfl, w_invoke (inv := iv_X9_word cy P) (kd := 0) (f := 132) (g := sp_X9_blanks cy P) (cut := ct [4]) rfl dX9_word_1 rfl (by decide) rfl, w_cut (cut := ct [4]) (pc := 4) rfl, w_bipush (cut := ct [4]) (pc' := 7) (v := 97) rfl dX9_word_5 rfl rfl, w_bipush (cut := ct [4]) (pc' := 9) (v := 122) rfl dX9_word_7 rfl rfl, w_invoke (inv := iv_X9_word cy P) (kd := 0) (f := 125) (g := sp_X9_isAt cy P) (cut := ct [4]) rfl dX9_word_9 rfl (by decide) rfl, w_if_eq (cut := ct [4]) (pc' := 15) (t := 28) rfl dX9_word_12 rfl (by decide) rfl, w_aload_n (cut := ct [4]) (pc' := 16) (i := 0) rfl dX9_word_15 rfl rfl, w_dup (cut := ct [4]) (pc' := 17) rfl dX9_word_16 rfl, w_getfield (cut := ct [4]) (pc' := 20) rfl dX9_word_17 rfl (q_X9_f119 P), w_iconst (cut := ct [4]) (pc' := 21) (v := 1) rfl dX9_word_20 rfl rfl, w_iadd (cut := ct [4]) (pc' := 22) rfl dX9_word_21 rfl, w_putfield (cut := ct [4]) (pc' := 25) rfl dX9_word_22 rfl (q_X9_f119 P), w_goto (cut := ct [4]) (t := 4) rfl dX9_word_25 (by decide) rfl, w_return (cut := ct [4]) rfl dX9_word_28 rfl, rsum, cg_int, cg_ref, cg_null, nby0, strd, mStr, onAL, true_imp_iff, false_imp_iff, not_true_eq_false, not_false_eq_true, Classical.not_not, eq_self, e10, e01, em1, Int32.reduceLT, Int32.reduceLE, onBoat, onGale, onOut, onPort, onRep, onWarn, yn, mI, mS, b0, okA, nb0, nb1, ini, List.map_cons, List.map_nil, List.replicate_zero, List.replicate_succ, List.append_nil, ldI, ldA, incK, oldK, castK, inv1, nwO, nwA, nwR, alen, ald, bald, ast, lald, last, rald, rast, goTo, nth, sto, setN, popN, okv, cat1_int, cat1_ref, cat1_null, cat1_rf, va_rf, hup_same, hup_hup, List.length_cons, List.length_nil, List.nil_append, List.cons_append, Option.toList, true_and, and_true, Nat.reduceAdd, Nat.reduceSub, Nat.reduceLT, Nat.reduceLeDiff, Nat.zero_le, Nat.sub_zero, Nat.zero_lt_succ, Nat.lt_add_left_iff_pos, Nat.succ_lt_succ_iff, rcM2, Nat.reduceEqDiff, reduceIte, iu, isMd_M, setTE_M, fI_6, fI_36, fI_0, fI_1, one_ne, zero_ne, true_or, or_true, gM_0, gM_1, gM_2, gM_3, gM_4, gM_5, gM_6, gM_7, gM_8, gM_9, gM_10, gM_11, gM_12, gM_13, gM_14, gM_15, gM_16, gM_17, gM_18, gM_19, gM_20, gM_21, gM_22, gM_23, gM_24, gM_25, gM_26, gM_27, gM_28, gM_29, gM_30, gM_31, gM_32, gM_33, gM_34, gM_35, gM_36, pM_0, pM_1, pM_6, pM_12, pM_17, pM_19, pM_20, pM_21, pM_22, pM_23, pM_26, pM_27, pM_28, pM_29, pM_34, pM_36, hm1, MD_rc hM1, j20, hnx, sp_X9_isAt]
        refine ⟨A, I1, M, q, L, hM1, j20, j21, hq, hL, fun g => ?_, fun g => ?_⟩
        · rw [adw_go g.1 g.2] at hadw
          exact ih (q + 1) _ (iu I1 20 (nI (q + 1))) (by omega) (by omega) hadw (MD_set hM1) rfl j22 (SI_20 hS)
        · rw [adw_no g] at hadw
          exact hK _ I1 hM1 (by rw [← hadw]; exact j20) j22 hS
    have hm := hM.1
    have hrc := MD_rc hM
    refine wp_of_S hJ (ct [4]) 400 _ _ _ _ _ _ ?_
    simp only [w_aload_n (cut := ct [4]) (pc' := 1) (i := 0) rfl dX9_word_0 rfl rfl, w_invoke (inv := iv_X9_word cy P) (kd := 0) (f := 132) (g := sp_X9_blanks cy P) (cut := ct [4]) rfl dX9_word_1 rfl (by decide) rfl, w_cut (cut := ct [4]) (pc := 4) rfl, w_bipush (cut := ct [4]) (pc' := 7) (v := 97) rfl dX9_word_5 rfl rfl, w_bipush (cut := ct [4]) (pc' := 9) (v := 122) rfl dX9_word_7 rfl rfl, w_invoke (inv := iv_X9_word cy P) (kd := 0) (f := 125) (g := sp_X9_isAt cy P) (cut := ct [4]) rfl dX9_word_9 rfl (by decide) rfl, w_if_eq (cut := ct [4]) (pc' := 15) (t := 28) rfl dX9_word_12 rfl (by decide) rfl, w_aload_n (cut := ct [4]) (pc' := 16) (i := 0) rfl dX9_word_15 rfl rfl, w_dup (cut := ct [4]) (pc' := 17) rfl dX9_word_16 rfl, w_getfield (cut := ct [4]) (pc' := 20) rfl dX9_word_17 rfl (q_X9_f119 P), w_iconst (cut := ct [4]) (pc' := 21) (v := 1) rfl dX9_word_20 rfl rfl, w_iadd (cut := ct [4]) (pc' := 22) rfl dX9_word_21 rfl, w_putfield (cut := ct [4]) (pc' := 25) rfl dX9_word_22 rfl (q_X9_f119 P), w_goto (cut := ct [4]) (t := 4) rfl dX9_word_25 (by decide) rfl, w_return (cut := ct [4]) rfl dX9_word_28 rfl, rsum, cg_int, cg_ref, cg_null, nby0, strd, mStr, onAL, true_imp_iff, false_imp_iff, not_true_eq_false, not_false_eq_true, Classical.not_not, eq_self, e10, e01, em1, Int32.reduceLT, Int32.reduceLE, onBoat, onGale, onOut, onPort, onRep, onWarn, yn, mI, mS, b0, okA, nb0, nb1, ini, List.map_cons, List.map_nil, List.replicate_zero, List.replicate_succ, List.append_nil, ldI, ldA, incK, oldK, castK, inv1, nwO, nwA, nwR, alen, ald, bald, ast, lald, last, rald, rast, goTo, nth, sto, setN, popN, okv, cat1_int, cat1_ref, cat1_null, cat1_rf, va_rf, hup_same, hup_hup, List.length_cons, List.length_nil, List.nil_append, List.cons_append, Option.toList, true_and, and_true, Nat.reduceAdd, Nat.reduceSub, Nat.reduceLT, Nat.reduceLeDiff, Nat.zero_le, Nat.sub_zero, Nat.zero_lt_succ, Nat.lt_add_left_iff_pos, Nat.succ_lt_succ_iff, rcM2, Nat.reduceEqDiff, reduceIte, iu, isMd_M, setTE_M, fI_6, fI_36, fI_0, fI_1, one_ne, zero_ne, true_or, or_true, gM_0, gM_1, gM_2, gM_3, gM_4, gM_5, gM_6, gM_7, gM_8, gM_9, gM_10, gM_11, gM_12, gM_13, gM_14, gM_15, gM_16, gM_17, gM_18, gM_19, gM_20, gM_21, gM_22, gM_23, gM_24, gM_25, gM_26, gM_27, gM_28, gM_29, gM_30, gM_31, gM_32, gM_33, gM_34, gM_35, gM_36, pM_0, pM_1, pM_6, pM_12, pM_17, pM_19, pM_20, pM_21, pM_22, pM_23, pM_26, pM_27, pM_28, pM_29, pM_34, pM_36, sp_X9_word, hm, hrc, sp_X9_blanks]
    refine ⟨A, I, M, p, L, hM, i20, i21, hp, hL, fun σ1 I1 hM1 j20 j22 hS => ?_⟩
    exact key (L - b) b σ1 I1 rfl hle.2 rfl hM1 (by rw [← hb9]; exact j20) (by rw [← hb9]; exact j22) hS
  · exact hT.elim
set_option maxRecDepth 100000 in
theorem con_X9_word {l : Launch} {s0 : State} {D : va_G} {cy : Nat → ClassId} {P : Pm} {a0 : Array Value} (hE : E0 l s0 D cy P a0) : Con l s0 D yX9_word (Cond.code yX9_word cX9_word 1 none) 2 42 (sp_X9_word cy P) := by
  refine con_of (clok_X9 hE _) (by decide) (fun as σ K KX h => okA_cat h.1) (Nat.le_of_ble_eq_true rfl) ?_ ?_ (m_X9_word cy P hE.2.2.2.1)
  · intro p e R s m args below meth c A Q hfr hlo hW B kd j g hg
    unfold iv_X9_word at hg
    split at hg
    · cases hg; exact inv_V (ci := 10) B (con_X9_blanks hE) rfl (fun as σ K KX h => rcvd_spec h.2.1) (cw_mk hE hW tw_1093 rfl tw_8 ⟨by decide, by decide⟩ rfl) rfl (wd hE hW tw_1090 rfl) (wd hE hW tw_1092 rfl) (wd hE hW (List.mem_of_getElem? (i := 34) (by decide +kernel)) rfl) (by rw [hfr]; decide) (by rw [hlo]; decide)
    · cases hg; exact inv_V (ci := 10) B (con_X9_isAt hE) rfl (fun as σ K KX h => rcvd_spec h.2.1) (cw_mk hE hW tw_1097 rfl tw_8 ⟨by decide, by decide⟩ rfl) rfl (wd hE hW tw_1094 rfl) (wd hE hW tw_1096 rfl) (wd hE hW (List.mem_of_getElem? (i := 35) (by decide +kernel)) rfl) (by rw [hfr]; decide) (by rw [hlo]; decide)
    · cases hg
  · intro p e R s m args below meth c A K KX hfr hlo hW B htab
    exact xok_none htab
