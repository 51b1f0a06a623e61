/-! ===== the model: its state, and the small methods ===== -/
def arr (k : Nat) : Bool := decide (2 ≤ k ∧ k ≤ 5) || decide (7 ≤ k ∧ k ≤ 11) || decide (13 ≤ k ∧ k ≤ 16) || decide (k = 18) || decide (k = 24) || decide (k = 25) || decide (30 ≤ k ∧ k ≤ 33) || decide (k = 35)
def asz (k : Nat) : Nat := if k ≤ 5 then 12 else if k ≤ 11 then 300 else if k ≤ 14 then 16 else if k ≤ 16 then 64 else if k = 18 then 400 else if k = 24 then 5 else if k = 25 then 1000 else if k ≤ 33 then 30 else 96
def oArr (cy : Nat → ClassId) (k : Nat) (f : Nat → Int32) : va_E := .inl (if k = 18 then cy 1 else cy 0, asz k, .inl f)
def MD (cy : Nat → ClassId) (σ : Hp) (m : Nat) (A : Nat → Nat) (I : Nat → Int32) (M : Ms) : Prop := σ m = some (oMd A I) ∧ (∀ k, arr k = true → σ (A k) = some (oArr cy k (M k))) ∧ (∀ i j, A i = A j → i = j) ∧ ∀ k, A k ≠ m
section MDS
variable {cy : Nat → ClassId} {σ : Hp} {m : Nat} {A : Nat → Nat} {I I' : Nat → Int32} {M : Ms}
theorem MD_set (h : MD cy σ m A I M) : MD cy (hup σ m (oMd A I')) m A I' M := ⟨hup_same _ _ _, fun k hk => by rw [hup_ne _ _ (h.2.2.2 k)]; exact h.2.1 k hk, h.2.2⟩
theorem MD_arr {k : Nat} {f : Nat → Int32} (h : MD cy σ m A I M) : MD cy (hup σ (A k) (oArr cy k f)) m A I (setR M k f) := by
  refine ⟨by rw [hup_ne _ _ (Ne.symm (h.2.2.2 k))]; exact h.1, fun j hj => ?_, h.2.2⟩
  by_cases hjk : j = k
  · subst hjk; rw [hup_same, setR_same]
  · rw [hup_ne _ _ (fun z => hjk (h.2.2.1 _ _ z)), setR_ne hjk]; exact h.2.1 j hj
theorem MD_inj (h : MD cy σ m A I M) : ∀ i j, (A i = A j) = (i = j) := fun i j => propext ⟨fun z => h.2.2.1 i j z, fun z => by rw [z]⟩
theorem MD_ne (h : MD cy σ m A I M) : ∀ k, (A k = m) = False := fun k => eq_false (h.2.2.2 k)
theorem MD_ne' (h : MD cy σ m A I M) : ∀ k, (m = A k) = False := fun k => eq_false (Ne.symm (h.2.2.2 k))
theorem MD_z {z : Nat} (h : MD cy σ m A I M) (hz : σ z = none) : ∀ k, arr k = true → (A k = z) = False := fun k hk => eq_false (fun e => by have := h.2.1 k hk; rw [e, hz] at this; cases this)
theorem MD_rc (h : MD cy σ m A I M) : ∀ as, rcvd 10 (.ref m :: as) σ = True := fun _ => rcM h.1
end MDS
def iv_X9_thrown (cy : Nat → ClassId) (P : Pm) : Nat → Nat → Option Sg
  | _, _ => none
def sp_X9_thrown (cy : Nat → ClassId) (P : Pm) : Sg := mI 10 [] b0 (fun as σ K _ => match as with
  | [.ref m] => ∃ A I, σ m = some (oMd A I) ∧ K (some (.int (I 0))) σ
  | _ => False)
set_option maxHeartbeats 2000000 in
theorem m_X9_thrown (cy : Nat → ClassId) (P : Pm) (hP : PmOK P) : MOK (cl_X9 P) cy P.2.1 obj cX9_thrown (iv_X9_thrown cy P) (fun _ => none) (fun _ => some none) (some .int) 1 (sp_X9_thrown cy P) := by
  intro as σ K KX J hlen hT hJ hOld
  obtain ⟨-, -, hT⟩ := hT
  split at hT
  · rename_i m
    obtain ⟨A, I, hm, hT⟩ := hT
    refine wp_of_S hJ (ct []) 400 _ _ _ _ _ _ ?_
    simp only [w_aload_n (cut := ct []) (pc' := 1) (i := 0) rfl dX9_thrown_0 rfl rfl, w_getfield (cut := ct []) (pc' := 4) rfl dX9_thrown_1 rfl (q_X9_f78 P), w_ireturnI (cut := ct []) rfl dX9_thrown_4 rfl, rsum, cg_int, cg_ref, cg_null, nby0, strd, mStr, onAL, true_imp_iff, false_imp_iff, not_true_eq_false, not_false_eq_true, Classical.not_not, eq_self, e10, e01, em1, Int32.reduceLT, Int32.reduceLE, onBoat, onGale, onOut, onPort, onRep, onWarn, yn, mI, mS, b0, okA, nb0, nb1, ini, List.map_cons, List.map_nil, List.replicate_zero, List.replicate_succ, List.append_nil, ldI, ldA, incK, oldK, castK, inv1, nwO, nwA, nwR, alen, ald, bald, ast, lald, last, rald, rast, goTo, nth, sto, setN, popN, okv, cat1_int, cat1_ref, cat1_null, cat1_rf, va_rf, hup_same, hup_hup, List.length_cons, List.length_nil, List.nil_append, List.cons_append, Option.toList, true_and, and_true, Nat.reduceAdd, Nat.reduceSub, Nat.reduceLT, Nat.reduceLeDiff, Nat.zero_le, Nat.sub_zero, Nat.zero_lt_succ, Nat.lt_add_left_iff_pos, Nat.succ_lt_succ_iff, rcM2, Nat.reduceEqDiff, reduceIte, iu, isMd_M, setTE_M, fI_6, fI_36, fI_0, fI_1, one_ne, zero_ne, true_or, or_true, gM_0, gM_1, gM_2, gM_3, gM_4, gM_5, gM_6, gM_7, gM_8, gM_9, gM_10, gM_11, gM_12, gM_13, gM_14, gM_15, gM_16, gM_17, gM_18, gM_19, gM_20, gM_21, gM_22, gM_23, gM_24, gM_25, gM_26, gM_27, gM_28, gM_29, gM_30, gM_31, gM_32, gM_33, gM_34, gM_35, gM_36, pM_0, pM_1, pM_6, pM_12, pM_17, pM_19, pM_20, pM_21, pM_22, pM_23, pM_26, pM_27, pM_28, pM_29, pM_34, pM_36, sp_X9_thrown, hm]
    exact hT
  · exact hT.elim
set_option maxRecDepth 100000 in
theorem con_X9_thrown {l : Launch} {s0 : State} {D : va_G} {cy : Nat → ClassId} {P : Pm} {a0 : Array Value} (hE : E0 l s0 D cy P a0) : Con l s0 D yX9_thrown (Cond.code yX9_thrown cX9_thrown 1 (some .int)) 0 0 (sp_X9_thrown cy P) := by
  refine con_of (clok_X9 hE _) (by decide) (fun as σ K KX h => okA_cat h.1) (Nat.le_of_ble_eq_true rfl) ?_ ?_ (m_X9_thrown cy P hE.2.2.2.1)
  · intro p e R s m args below meth c A Q hfr hlo hW B kd j g hg
    cases hg
  · intro p e R s m args below meth c A K KX hfr hlo hW B htab
    exact xok_none htab
def iv_X9_fault (cy : Nat → ClassId) (P : Pm) : Nat → Nat → Option Sg
  | _, _ => none
def sp_X9_fault (cy : Nat → ClassId) (P : Pm) : Sg := mI 10 [] b0 (fun as σ K _ => match as with
  | [.ref m] => ∃ A I, σ m = some (oMd A I) ∧ K (some (.int (I 23))) (hup σ m (oMd A (iu I 0 0)))
  | _ => False)
set_option maxHeartbeats 2000000 in
theorem m_X9_fault (cy : Nat → ClassId) (P : Pm) (hP : PmOK P) : MOK (cl_X9 P) cy P.2.1 obj cX9_fault (iv_X9_fault cy P) (fun _ => none) (fun _ => some none) (some .int) 1 (sp_X9_fault cy P) := by
  intro as σ K KX J hlen hT hJ hOld
  obtain ⟨-, -, hT⟩ := hT
  split at hT
  · rename_i m
    obtain ⟨A, I, hm, hT⟩ := hT
    refine wp_of_S hJ (ct []) 400 _ _ _ _ _ _ ?_
    simp only [w_aload_n (cut := ct []) (pc' := 1) (i := 0) rfl dX9_fault_0 rfl rfl, w_iconst (cut := ct []) (pc' := 2) (v := 0) rfl dX9_fault_1 rfl rfl, w_putfield (cut := ct []) (pc' := 5) rfl dX9_fault_2 rfl (q_X9_f78 P), w_aload_n (cut := ct []) (pc' := 6) (i := 0) rfl dX9_fault_5 rfl rfl, w_getfield (cut := ct []) (pc' := 9) rfl dX9_fault_6 rfl (q_X9_f53 P), w_ireturnI (cut := ct []) rfl dX9_fault_9 rfl, rsum, cg_int, cg_ref, cg_null, nby0, strd, mStr, onAL, true_imp_iff, false_imp_iff, not_true_eq_false, not_false_eq_true, Classical.not_not, eq_self, e10, e01, em1, Int32.reduceLT, Int32.reduceLE, onBoat, onGale, onOut, onPort, onRep, onWarn, yn, mI, mS, b0, okA, nb0, nb1, ini, List.map_cons, List.map_nil, List.replicate_zero, List.replicate_succ, List.append_nil, ldI, ldA, incK, oldK, castK, inv1, nwO, nwA, nwR, alen, ald, bald, ast, lald, last, rald, rast, goTo, nth, sto, setN, popN, okv, cat1_int, cat1_ref, cat1_null, cat1_rf, va_rf, hup_same, hup_hup, List.length_cons, List.length_nil, List.nil_append, List.cons_append, Option.toList, true_and, and_true, Nat.reduceAdd, Nat.reduceSub, Nat.reduceLT, Nat.reduceLeDiff, Nat.zero_le, Nat.sub_zero, Nat.zero_lt_succ, Nat.lt_add_left_iff_pos, Nat.succ_lt_succ_iff, rcM2, Nat.reduceEqDiff, reduceIte, iu, isMd_M, setTE_M, fI_6, fI_36, fI_0, fI_1, one_ne, zero_ne, true_or, or_true, gM_0, gM_1, gM_2, gM_3, gM_4, gM_5, gM_6, gM_7, gM_8, gM_9, gM_10, gM_11, gM_12, gM_13, gM_14, gM_15, gM_16, gM_17, gM_18, gM_19, gM_20, gM_21, gM_22, gM_23, gM_24, gM_25, gM_26, gM_27, gM_28, gM_29, gM_30, gM_31, gM_32, gM_33, gM_34, gM_35, gM_36, pM_0, pM_1, pM_6, pM_12, pM_17, pM_19, pM_20, pM_21, pM_22, pM_23, pM_26, pM_27, pM_28, pM_29, pM_34, pM_36, sp_X9_fault, hm]
    exact hT
  · exact hT.elim
set_option maxRecDepth 100000 in
theorem con_X9_fault {l : Launch} {s0 : State} {D : va_G} {cy : Nat → ClassId} {P : Pm} {a0 : Array Value} (hE : E0 l s0 D cy P a0) : Con l s0 D yX9_fault (Cond.code yX9_fault cX9_fault 1 (some .int)) 0 0 (sp_X9_fault cy P) := by
  refine con_of (clok_X9 hE _) (by decide) (fun as σ K KX h => okA_cat h.1) (Nat.le_of_ble_eq_true rfl) ?_ ?_ (m_X9_fault cy P hE.2.2.2.1)
  · intro p e R s m args below meth c A Q hfr hlo hW B kd j g hg
    cases hg
  · intro p e R s m args below meth c A K KX hfr hlo hW B htab
    exact xok_none htab
def iv_X9_throwsIf (cy : Nat → ClassId) (P : Pm) : Nat → Nat → Option Sg
  | _, _ => none
def sp_X9_throwsIf (cy : Nat → ClassId) (P : Pm) : Sg := mI 10 [0, 0] b0 (fun as σ K _ => match as with
  | [.ref m, .int b, .int c] => isMd (σ m) ∧ (b = 0 ∨ b = 1) ∧ (b = 0 → K (some (.int 0)) σ) ∧ (b = 1 → K (some (.int 1)) (hup σ m (setTE (σ m) c)))
  | _ => False)
set_option maxHeartbeats 2000000 in
theorem m_X9_throwsIf (cy : Nat → ClassId) (P : Pm) (hP : PmOK P) : MOK (cl_X9 P) cy P.2.1 obj cX9_throwsIf (iv_X9_throwsIf cy P) (fun _ => none) (fun _ => some none) (some .boolean) 3 (sp_X9_throwsIf cy P) := by
  intro as σ K KX J hlen hT hJ hOld
  obtain ⟨-, -, hT⟩ := hT
  split at hT
  · rename_i m b c
    obtain ⟨⟨A, I, hm⟩, hb, hT1, hT2⟩ := hT
    rcases hb with rfl | rfl
    all_goals
      refine wp_of_S hJ (ct []) 400 _ _ _ _ _ _ ?_
      simp only [w_iload_n (cut := ct []) (pc' := 1) (i := 1) rfl dX9_throwsIf_0 rfl rfl, w_if_eq (cut := ct []) (pc' := 4) (t := 9) rfl dX9_throwsIf_1 rfl (by decide) rfl, w_aload_n (cut := ct []) (pc' := 5) (i := 0) rfl dX9_throwsIf_4 rfl rfl, w_iload_n (cut := ct []) (pc' := 6) (i := 2) rfl dX9_throwsIf_5 rfl rfl, w_putfield (cut := ct []) (pc' := 9) rfl dX9_throwsIf_6 rfl (q_X9_f78 P), w_iload_n (cut := ct []) (pc' := 10) (i := 1) rfl dX9_throwsIf_9 rfl rfl, w_ireturn (ty := .boolean) (cut := ct []) rfl dX9_throwsIf_10 rfl, rsum, cg_int, cg_ref, cg_null, nby0, strd, mStr, onAL, true_imp_iff, false_imp_iff, not_true_eq_false, not_false_eq_true, Classical.not_not, eq_self, e10, e01, em1, Int32.reduceLT, Int32.reduceLE, onBoat, onGale, onOut, onPort, onRep, onWarn, yn, mI, mS, b0, okA, nb0, nb1, ini, List.map_cons, List.map_nil, List.replicate_zero, List.replicate_succ, List.append_nil, ldI, ldA, incK, oldK, castK, inv1, nwO, nwA, nwR, alen, ald, bald, ast, lald, last, rald, rast, goTo, nth, sto, setN, popN, okv, cat1_int, cat1_ref, cat1_null, cat1_rf, va_rf, hup_same, hup_hup, List.length_cons, List.length_nil, List.nil_append, List.cons_append, Option.toList, true_and, and_true, Nat.reduceAdd, Nat.reduceSub, Nat.reduceLT, Nat.reduceLeDiff, Nat.zero_le, Nat.sub_zero, Nat.zero_lt_succ, Nat.lt_add_left_iff_pos, Nat.succ_lt_succ_iff, rcM2, Nat.reduceEqDiff, reduceIte, iu, isMd_M, setTE_M, fI_6, fI_36, fI_0, fI_1, one_ne, zero_ne, true_or, or_true, gM_0, gM_1, gM_2, gM_3, gM_4, gM_5, gM_6, gM_7, gM_8, gM_9, gM_10, gM_11, gM_12, gM_13, gM_14, gM_15, gM_16, gM_17, gM_18, gM_19, gM_20, gM_21, gM_22, gM_23, gM_24, gM_25, gM_26, gM_27, gM_28, gM_29, gM_30, gM_31, gM_32, gM_33, gM_34, gM_35, gM_36, pM_0, pM_1, pM_6, pM_12, pM_17, pM_19, pM_20, pM_21, pM_22, pM_23, pM_26, pM_27, pM_28, pM_29, pM_34, pM_36, sp_X9_throwsIf, hm]
      first | exact hT1 rfl | (rw [hm] at hT2; exact hT2 rfl)
  · exact hT.elim
set_option maxRecDepth 100000 in
theorem con_X9_throwsIf {l : Launch} {s0 : State} {D : va_G} {cy : Nat → ClassId} {P : Pm} {a0 : Array Value} (hE : E0 l s0 D cy P a0) : Con l s0 D yX9_throwsIf (Cond.code yX9_throwsIf cX9_throwsIf 3 (some .boolean)) 0 0 (sp_X9_throwsIf cy P) := by
  refine con_of (clok_X9 hE _) (by decide) (fun as σ K KX h => okA_cat h.1) (Nat.le_of_ble_eq_true rfl) ?_ ?_ (m_X9_throwsIf cy P hE.2.2.2.1)
  · intro p e R s m args below meth c A Q hfr hlo hW B kd j g hg
    cases hg
  · intro p e R s m args below meth c A K KX hfr hlo hW B htab
    exact xok_none htab
def iv_X9_in (cy : Nat → ClassId) (P : Pm) : Nat → Nat → Option Sg
  | _, _ => none
def sp_X9_in (cy : Nat → ClassId) (P : Pm) : Sg := mS [0, 0, 0] b0 (fun as σ K _ => match as with
  | [.int x, .int lo, .int hi] => yn (lo ≤ x ∧ x ≤ hi) K σ
  | _ => False)
set_option maxHeartbeats 2000000 in
theorem m_X9_in (cy : Nat → ClassId) (P : Pm) (hP : PmOK P) : MOK (cl_X9 P) cy P.2.1 obj cX9_in (iv_X9_in cy P) (fun _ => none) (fun _ => some none) (some .boolean) 3 (sp_X9_in cy P) := by
  intro as σ K KX J hlen hT hJ hOld
  obtain ⟨-, hT⟩ := hT
  split at hT
  · rename_i x lo hi
    obtain ⟨hT1, hT2⟩ := hT
    refine wp_of_S hJ (ct []) 400 _ _ _ _ _ _ ?_
    simp only [w_iload_n (cut := ct []) (pc' := 1) (i := 0) rfl dX9_in_0 rfl rfl, w_iload_n (cut := ct []) (pc' := 2) (i := 1) rfl dX9_in_1 rfl rfl, w_icmp_lt (cut := ct []) (pc' := 5) (t := 14) rfl dX9_in_2 rfl (by decide) rfl, w_iload_n (cut := ct []) (pc' := 6) (i := 0) rfl dX9_in_5 rfl rfl, w_iload_n (cut := ct []) (pc' := 7) (i := 2) rfl dX9_in_6 rfl rfl, w_icmp_gt (cut := ct []) (pc' := 10) (t := 14) rfl dX9_in_7 rfl (by decide) rfl, w_iconst (cut := ct []) (pc' := 11) (v := 1) rfl dX9_in_10 rfl rfl, w_goto (cut := ct []) (t := 15) rfl dX9_in_11 (by decide) rfl, w_iconst (cut := ct []) (pc' := 15) (v := 0) rfl dX9_in_14 rfl rfl, w_ireturn (ty := .boolean) (cut := ct []) rfl dX9_in_15 rfl, rsum, cg_int, cg_ref, cg_null, nby0, strd, mStr, onAL, true_imp_iff, false_imp_iff, not_true_eq_false, not_false_eq_true, Classical.not_not, eq_self, e10, e01, em1, Int32.reduceLT, Int32.reduceLE, onBoat, onGale, onOut, onPort, onRep, onWarn, yn, mI, mS, b0, okA, nb0, nb1, ini, List.map_cons, List.map_nil, List.replicate_zero, List.replicate_succ, List.append_nil, ldI, ldA, incK, oldK, castK, inv1, nwO, nwA, nwR, alen, ald, bald, ast, lald, last, rald, rast, goTo, nth, sto, setN, popN, okv, cat1_int, cat1_ref, cat1_null, cat1_rf, va_rf, hup_same, hup_hup, List.length_cons, List.length_nil, List.nil_append, List.cons_append, Option.toList, true_and, and_true, Nat.reduceAdd, Nat.reduceSub, Nat.reduceLT, Nat.reduceLeDiff, Nat.zero_le, Nat.sub_zero, Nat.zero_lt_succ, Nat.lt_add_left_iff_pos, Nat.succ_lt_succ_iff, rcM2, Nat.reduceEqDiff, reduceIte, iu, isMd_M, setTE_M, fI_6, fI_36, fI_0, fI_1, one_ne, zero_ne, true_or, or_true, gM_0, gM_1, gM_2, gM_3, gM_4, gM_5, gM_6, gM_7, gM_8, gM_9, gM_10, gM_11, gM_12, gM_13, gM_14, gM_15, gM_16, gM_17, gM_18, gM_19, gM_20, gM_21, gM_22, gM_23, gM_24, gM_25, gM_26, gM_27, gM_28, gM_29, gM_30, gM_31, gM_32, gM_33, gM_34, gM_35, gM_36, pM_0, pM_1, pM_6, pM_12, pM_17, pM_19, pM_20, pM_21, pM_22, pM_23, pM_26, pM_27, pM_28, pM_29, pM_34, pM_36, sp_X9_in]
    grind
  · exact hT.elim
set_option maxRecDepth 100000 in
theorem con_X9_in {l : Launch} {s0 : State} {D : va_G} {cy : Nat → ClassId} {P : Pm} {a0 : Array Value} (hE : E0 l s0 D cy P a0) : Con l s0 D yX9_in (Cond.code yX9_in cX9_in 3 (some .boolean)) 0 0 (sp_X9_in cy P) := by
  refine con_of (clok_X9 hE _) (by decide) (fun as σ K KX h => okA_cat h.1) (Nat.le_of_ble_eq_true rfl) ?_ ?_ (m_X9_in cy P hE.2.2.2.1)
  · intro p e R s m args below meth c A Q hfr hlo hW B kd j g hg
    cases hg
  · intro p e R s m args below meth c A K KX hfr hlo hW B htab
    exact xok_none htab
theorem bad_in {p : Int32} {n : Nat} (hn : n < 2 ^ 31) : (0 ≤ p ∧ p ≤ nI n - 1) ↔ ¬ badIx p n := by
  unfold badIx
  cases n with
  | zero =>
    rw [nI_0]
    constructor
    · intro h
      exact absurd (Int32.le_trans h.1 h.2) (by decide)
    · intro h
      refine absurd ?_ h
      by_cases z : p < 0
      · exact Or.inl z
      · exact Or.inr (Int32.not_lt.mp z)
  | succ n =>
    rw [nI_pred]
    constructor
    · rintro ⟨h1, h2⟩ z
      rcases z with z | z
      · exact absurd h1 (Int32.not_le.mpr z)
      · exact absurd (Int32.le_trans z h2) (nI_ge (by omega) hn)
    · intro h
      have h0 : ¬ p < 0 := fun z => h (Or.inl z)
      obtain ⟨j, hj, rfl⟩ := nI_of h0
      refine ⟨Int32.not_lt.mp h0, ?_⟩
      have h1 : j < n + 1 := by
        have := Int32.not_le.mp (fun z => h (Or.inr z))
        exact (nI_ltI hj hn).mp this
      exact nI_le (by omega) (by omega)
theorem not_badIx {p : Int32} {n : Nat} (hn : n < 2 ^ 31) (h : ¬ badIx p n) : ∃ k, k < n ∧ p = nI k := by
  have h0 : ¬ p < 0 := fun z => h (Or.inl z)
  obtain ⟨j, hj, rfl⟩ := nI_of h0
  exact ⟨j, (nI_ltI hj hn).mp (Int32.not_le.mp (fun z => h (Or.inr z))), rfl⟩
def iv_X9_noPort (cy : Nat → ClassId) (P : Pm) : Nat → Nat → Option Sg
  | 1, 84 => some (sp_X9_in cy P)
  | _, _ => none
def sp_X9_noPort (cy : Nat → ClassId) (P : Pm) : Sg := mI 10 [0] b0 (fun as σ K _ => match as with
  | [.ref m, .int p] => isMd (σ m) ∧ yn (¬ (0 ≤ p ∧ p ≤ fI (σ m) 6 - 1)) K σ
  | _ => False)
set_option maxHeartbeats 2000000 in
theorem m_X9_noPort (cy : Nat → ClassId) (P : Pm) (hP : PmOK P) : MOK (cl_X9 P) cy P.2.1 obj cX9_noPort (iv_X9_noPort cy P) (fun _ => none) (fun _ => some none) (some .boolean) 2 (sp_X9_noPort cy P) := by
  intro as σ K KX J hlen hT hJ hOld
  obtain ⟨-, -, hT⟩ := hT
  split at hT
  · rename_i m p
    obtain ⟨⟨A, I, hm⟩, hT1, hT2⟩ := hT
    refine wp_of_S hJ (ct []) 400 _ _ _ _ _ _ ?_
    simp only [w_iload_n (cut := ct []) (pc' := 1) (i := 1) rfl dX9_noPort_0 rfl rfl, w_iconst (cut := ct []) (pc' := 2) (v := 0) rfl dX9_noPort_1 rfl rfl, w_aload_n (cut := ct []) (pc' := 3) (i := 0) rfl dX9_noPort_2 rfl rfl, w_getfield (cut := ct []) (pc' := 6) rfl dX9_noPort_3 rfl (q_X9_f81 P), w_iconst (cut := ct []) (pc' := 7) (v := 1) rfl dX9_noPort_6 rfl rfl, w_isub (cut := ct []) (pc' := 8) rfl dX9_noPort_7 rfl, w_invoke (inv := iv_X9_noPort cy P) (kd := 1) (f := 84) (g := sp_X9_in cy P) (cut := ct []) rfl dX9_noPort_8 rfl (by decide) rfl, w_if_ne (cut := ct []) (pc' := 14) (t := 18) rfl dX9_noPort_11 rfl (by decide) rfl, w_iconst (cut := ct []) (pc' := 15) (v := 1) rfl dX9_noPort_14 rfl rfl, w_goto (cut := ct []) (t := 19) rfl dX9_noPort_15 (by decide) rfl, w_iconst (cut := ct []) (pc' := 19) (v := 0) rfl dX9_noPort_18 rfl rfl, w_ireturn (ty := .boolean) (cut := ct []) rfl dX9_noPort_19 rfl, rsum, cg_int, cg_ref, cg_null, nby0, strd, mStr, onAL, true_imp_iff, false_imp_iff, not_true_eq_false, not_false_eq_true, Classical.not_not, eq_self, e10, e01, em1, Int32.reduceLT, Int32.reduceLE, onBoat, onGale, onOut, onPort, onRep, onWarn, yn, mI, mS, b0, okA, nb0, nb1, ini, List.map_cons, List.map_nil, List.replicate_zero, List.replicate_succ, List.append_nil, ldI, ldA, incK, oldK, castK, inv1, nwO, nwA, nwR, alen, ald, bald, ast, lald, last, rald, rast, goTo, nth, sto, setN, popN, okv, cat1_int, cat1_ref, cat1_null, cat1_rf, va_rf, hup_same, hup_hup, List.length_cons, List.length_nil, List.nil_append, List.cons_append, Option.toList, true_and, and_true, Nat.reduceAdd, Nat.reduceSub, Nat.reduceLT, Nat.reduceLeDiff, Nat.zero_le, Nat.sub_zero, Nat.zero_lt_succ, Nat.lt_add_left_iff_pos, Nat.succ_lt_succ_iff, rcM2, Nat.reduceEqDiff, reduceIte, iu, isMd_M, setTE_M, fI_6, fI_36, fI_0, fI_1, one_ne, zero_ne, true_or, or_true, gM_0, gM_1, gM_2, gM_3, gM_4, gM_5, gM_6, gM_7, gM_8, gM_9, gM_10, gM_11, gM_12, gM_13, gM_14, gM_15, gM_16, gM_17, gM_18, gM_19, gM_20, gM_21, gM_22, gM_23, gM_24, gM_25, gM_26, gM_27, gM_28, gM_29, gM_30, gM_31, gM_32, gM_33, gM_34, gM_35, gM_36, pM_0, pM_1, pM_6, pM_12, pM_17, pM_19, pM_20, pM_21, pM_22, pM_23, pM_26, pM_27, pM_28, pM_29, pM_34, pM_36, sp_X9_noPort, hm, sp_X9_in]
    rw [hm, fI_6] at hT1 hT2
    exact ⟨fun h => hT2 (fun z => z h), fun h => hT1 h⟩
  · exact hT.elim
set_option maxRecDepth 100000 in
theorem con_X9_noPort {l : Launch} {s0 : State} {D : va_G} {cy : Nat → ClassId} {P : Pm} {a0 : Array Value} (hE : E0 l s0 D cy P a0) : Con l s0 D yX9_noPort (Cond.code yX9_noPort cX9_noPort 2 (some .boolean)) 1 22 (sp_X9_noPort cy P) := by
  refine con_of (clok_X9 hE _) (by decide) (fun as σ K KX h => okA_cat h.1) (Nat.le_of_ble_eq_true rfl) ?_ ?_ (m_X9_noPort cy P hE.2.2.2.1)
  · intro p e R s m args below meth c A Q hfr hlo hW B kd j g hg
    unfold iv_X9_noPort at hg
    split at hg
    · cases hg; exact inv_S B (con_X9_in hE) (cw_mk hE hW tw_1044 rfl tw_8 ⟨by decide, by decide⟩ rfl) (wd hE hW tw_1042 rfl) (wd hE hW tw_1043 rfl) (by rw [hfr]; decide) (by rw [hlo]; decide)
    · cases hg
  · intro p e R s m args below meth c A K KX hfr hlo hW B htab
    exact xok_none htab
def iv_X9_noBoat (cy : Nat → ClassId) (P : Pm) : Nat → Nat → Option Sg
  | 1, 84 => some (sp_X9_in cy P)
  | _, _ => none
def sp_X9_noBoat (cy : Nat → ClassId) (P : Pm) : Sg := mI 10 [0] b0 (fun as σ K _ => match as with
  | [.ref m, .int p] => isMd (σ m) ∧ yn (¬ (0 ≤ p ∧ p ≤ fI (σ m) 36 - 1)) K σ
  | _ => False)
set_option maxHeartbeats 2000000 in
theorem m_X9_noBoat (cy : Nat → ClassId) (P : Pm) (hP : PmOK P) : MOK (cl_X9 P) cy P.2.1 obj cX9_noBoat (iv_X9_noBoat cy P) (fun _ => none) (fun _ => some none) (some .boolean) 2 (sp_X9_noBoat cy P) := by
  intro as σ K KX J hlen hT hJ hOld
  obtain ⟨-, -, hT⟩ := hT
  split at hT
  · rename_i m p
    obtain ⟨⟨A, I, hm⟩, hT1, hT2⟩ := hT
    refine wp_of_S hJ (ct []) 400 _ _ _ _ _ _ ?_
    simp only [w_iload_n (cut := ct []) (pc' := 1) (i := 1) rfl dX9_noBoat_0 rfl rfl, w_iconst (cut := ct []) (pc' := 2) (v := 0) rfl dX9_noBoat_1 rfl rfl, w_aload_n (cut := ct []) (pc' := 3) (i := 0) rfl dX9_noBoat_2 rfl rfl, w_getfield (cut := ct []) (pc' := 6) rfl dX9_noBoat_3 rfl (q_X9_f198 P), w_iconst (cut := ct []) (pc' := 7) (v := 1) rfl dX9_noBoat_6 rfl rfl, w_isub (cut := ct []) (pc' := 8) rfl dX9_noBoat_7 rfl, w_invoke (inv := iv_X9_noBoat cy P) (kd := 1) (f := 84) (g := sp_X9_in cy P) (cut := ct []) rfl dX9_noBoat_8 rfl (by decide) rfl, w_if_ne (cut := ct []) (pc' := 14) (t := 18) rfl dX9_noBoat_11 rfl (by decide) rfl, w_iconst (cut := ct []) (pc' := 15) (v := 1) rfl dX9_noBoat_14 rfl rfl, w_goto (cut := ct []) (t := 19) rfl dX9_noBoat_15 (by decide) rfl, w_iconst (cut := ct []) (pc' := 19) (v := 0) rfl dX9_noBoat_18 rfl rfl, w_ireturn (ty := .boolean) (cut := ct []) rfl dX9_noBoat_19 rfl, rsum, cg_int, cg_ref, cg_null, nby0, strd, mStr, onAL, true_imp_iff, false_imp_iff, not_true_eq_false, not_false_eq_true, Classical.not_not, eq_self, e10, e01, em1, Int32.reduceLT, Int32.reduceLE, onBoat, onGale, onOut, onPort, onRep, onWarn, yn, mI, mS, b0, okA, nb0, nb1, ini, List.map_cons, List.map_nil, List.replicate_zero, List.replicate_succ, List.append_nil, ldI, ldA, incK, oldK, castK, inv1, nwO, nwA, nwR, alen, ald, bald, ast, lald, last, rald, rast, goTo, nth, sto, setN, popN, okv, cat1_int, cat1_ref, cat1_null, cat1_rf, va_rf, hup_same, hup_hup, List.length_cons, List.length_nil, List.nil_append, List.cons_append, Option.toList, true_and, and_true, Nat.reduceAdd, Nat.reduceSub, Nat.reduceLT, Nat.reduceLeDiff, Nat.zero_le, Nat.sub_zero, Nat.zero_lt_succ, Nat.lt_add_left_iff_pos, Nat.succ_lt_succ_iff, rcM2, Nat.reduceEqDiff, reduceIte, iu, isMd_M, setTE_M, fI_6, fI_36, fI_0, fI_1, one_ne, zero_ne, true_or, or_true, gM_0, gM_1, gM_2, gM_3, gM_4, gM_5, gM_6, gM_7, gM_8, gM_9, gM_10, gM_11, gM_12, gM_13, gM_14, gM_15, gM_16, gM_17, gM_18, gM_19, gM_20, gM_21, gM_22, gM_23, gM_24, gM_25, gM_26, gM_27, gM_28, gM_29, gM_30, gM_31, gM_32, gM_33, gM_34, gM_35, gM_36, pM_0, pM_1, pM_6, pM_12, pM_17, pM_19, pM_20, pM_21, pM_22, pM_23, pM_26, pM_27, pM_28, pM_29, pM_34, pM_36, sp_X9_noBoat, hm, sp_X9_in]
    rw [hm, fI_36] at hT1 hT2
    exact ⟨fun h => hT2 (fun z => z h), fun h => hT1 h⟩
  · exact hT.elim
set_option maxRecDepth 100000 in
theorem con_X9_noBoat {l : Launch} {s0 : State} {D : va_G} {cy : Nat → ClassId} {P : Pm} {a0 : Array Value} (hE : E0 l s0 D cy P a0) : Con l s0 D yX9_noBoat (Cond.code yX9_noBoat cX9_noBoat 2 (some .boolean)) 1 22 (sp_X9_noBoat cy P) := by
  refine con_of (clok_X9 hE _) (by decide) (fun as σ K KX h => okA_cat h.1) (Nat.le_of_ble_eq_true rfl) ?_ ?_ (m_X9_noBoat cy P hE.2.2.2.1)
  · intro p e R s m args below meth c A Q hfr hlo hW B kd j g hg
    unfold iv_X9_noBoat at hg
    split at hg
    · cases hg; exact inv_S B (con_X9_in hE) (cw_mk hE hW tw_1044 rfl tw_8 ⟨by decide, by decide⟩ rfl) (wd hE hW tw_1042 rfl) (wd hE hW tw_1043 rfl) (by rw [hfr]; decide) (by rw [hlo]; decide)
    · cases hg
  · intro p e R s m args below meth c A K KX hfr hlo hW B htab
    exact xok_none htab
def iv_X9_countsOf (cy : Nat → ClassId) (P : Pm) : Nat → Nat → Option Sg
  | _, _ => none
def sp_X9_countsOf (cy : Nat → ClassId) (P : Pm) : Sg := mI 10 [0, 0, 0] b0 (fun as σ K _ => match as with
  | [.ref m, .int p, .int w, .int h] => ∃ A I M k n, MD cy σ m A I M ∧ p = nI k ∧ k < 12 ∧ I 12 = nI n ∧ n ≤ 300 ∧ K (some (.int (cntI M k w h n))) σ
  | _ => False)
set_option maxRecDepth 8000 in
set_option maxHeartbeats 4000000 in
theorem m_X9_countsOf (cy : Nat → ClassId) (P : Pm) (hP : PmOK P) : MOK (cl_X9 P) cy P.2.1 obj cX9_countsOf (iv_X9_countsOf cy P) (fun _ => none) (fun _ => some none) (some .int) 5 (sp_X9_countsOf cy P) := by
  intro as σ K KX J hlen hT hJ hOld
  obtain ⟨-, -, hT⟩ := hT
  split at hT
  · rename_i m p w h
    obtain ⟨A, I, M, k, n, hM, rfl, hk, h12, hn, hT⟩ := hT
    have hm := hM.1
    have a5 : σ (A 5) = some (oInts cy 12 (M 5)) := hM.2.1 5 rfl
    have a7 : σ (A 7) = some (oInts cy 300 (M 7)) := hM.2.1 7 rfl
    have a8 : σ (A 8) = some (oInts cy 300 (M 8)) := hM.2.1 8 rfl
    have a11 : σ (A 11) = some (oInts cy 300 (M 11)) := hM.2.1 11 rfl
    have k12 : vp_in (nI k) 12 = True := eq_true (vp_in_nI hk (by omega))
    have kc : (nI k).toNatClampNeg = k := nI_clamp (by omega)
    have key : ∀ (r : Nat), r ≤ n → K (some (.int (cntI M k w h r))) σ → J 8 [some (.ref m), some (.int (nI k)), some (.int w), some (.int h), some (.int (nI r - 1))] [] σ 0 0 := by
      intro r
      induction r with
      | zero =>
        intro hr hK
        have h0 : (nI 0 - 1 < 0) = True := eq_true (by decide)
        refine hJ (ct [8]) 400 _ _ _ _ _ _ ((s_iload (pc' := 10) (i := 4) dX9_countsOf_8 rfl rfl).mpr ?_)
        simp only [w_aload_n (cut := ct [8]) (pc' := 1) (i := 0) rfl dX9_countsOf_0 rfl rfl, w_getfield (cut := ct [8]) (pc' := 4) rfl dX9_countsOf_1 rfl (q_X9_f99 P), w_iconst (cut := ct [8]) (pc' := 5) (v := 1) rfl dX9_countsOf_4 rfl rfl, w_isub (cut := ct [8]) (pc' := 6) rfl dX9_countsOf_5 rfl, w_istore (cut := ct [8]) (pc' := 8) (i := 4) rfl dX9_countsOf_6 rfl rfl, w_cut (cut := ct [8]) (pc := 8) rfl, w_if_lt (cut := ct [8]) (pc' := 13) (t := 62) rfl dX9_countsOf_10 rfl (by decide) rfl, w_aload_n (cut := ct [8]) (pc' := 14) (i := 0) rfl dX9_countsOf_13 rfl rfl, w_getfield (cut := ct [8]) (pc' := 17) rfl dX9_countsOf_14 rfl (q_X9_f22 P), w_iload (cut := ct [8]) (pc' := 19) (i := 4) rfl dX9_countsOf_17 rfl rfl, w_iaload (cut := ct [8]) rfl dX9_countsOf_19, w_iload_n (cut := ct [8]) (pc' := 21) (i := 1) rfl dX9_countsOf_20 rfl rfl, w_icmp_ne (cut := ct [8]) (pc' := 24) (t := 56) rfl dX9_countsOf_21 rfl (by decide) rfl, w_aload_n (cut := ct [8]) (pc' := 25) (i := 0) rfl dX9_countsOf_24 rfl rfl, w_getfield (cut := ct [8]) (pc' := 28) rfl dX9_countsOf_25 rfl (q_X9_f25 P), w_iload (cut := ct [8]) (pc' := 30) (i := 4) rfl dX9_countsOf_28 rfl rfl, w_iaload (cut := ct [8]) rfl dX9_countsOf_30, w_iload_n (cut := ct [8]) (pc' := 32) (i := 2) rfl dX9_countsOf_31 rfl rfl, w_icmp_ne (cut := ct [8]) (pc' := 35) (t := 56) rfl dX9_countsOf_32 rfl (by decide) rfl, w_aload_n (cut := ct [8]) (pc' := 36) (i := 0) rfl dX9_countsOf_35 rfl rfl, w_getfield (cut := ct [8]) (pc' := 39) rfl dX9_countsOf_36 rfl (q_X9_f34 P), w_iload (cut := ct [8]) (pc' := 41) (i := 4) rfl dX9_countsOf_39 rfl rfl, w_iaload (cut := ct [8]) rfl dX9_countsOf_41, w_aload_n (cut := ct [8]) (pc' := 43) (i := 0) rfl dX9_countsOf_42 rfl rfl, w_getfield (cut := ct [8]) (pc' := 46) rfl dX9_countsOf_43 rfl (q_X9_f19 P), w_iload_n (cut := ct [8]) (pc' := 47) (i := 1) rfl dX9_countsOf_46 rfl rfl, w_iaload (cut := ct [8]) rfl dX9_countsOf_47, w_iadd (cut := ct [8]) (pc' := 49) rfl dX9_countsOf_48 rfl, w_iload_n (cut := ct [8]) (pc' := 50) (i := 3) rfl dX9_countsOf_49 rfl rfl, w_icmp_gt (cut := ct [8]) (pc' := 53) (t := 56) rfl dX9_countsOf_50 rfl (by decide) rfl, w_iload (cut := ct [8]) (pc' := 55) (i := 4) rfl dX9_countsOf_53 rfl rfl, w_ireturnI (cut := ct [8]) rfl dX9_countsOf_55 rfl, w_iinc (cut := ct [8]) (pc' := 59) (d := (-1)) rfl dX9_countsOf_56 rfl rfl, w_goto (cut := ct [8]) (t := 8) rfl dX9_countsOf_59 (by decide) rfl, w_iconst (cut := ct [8]) (pc' := 63) (v := (-1)) rfl dX9_countsOf_62 rfl rfl, w_ireturnI (cut := ct [8]) rfl dX9_countsOf_63 rfl, rsum, cg_int, cg_ref, cg_null, nby0, strd, mStr, onAL, true_imp_iff, false_imp_iff, not_true_eq_false, not_false_eq_true, Classical.not_not, eq_self, e10, e01, em1, Int32.reduceLT, Int32.reduceLE, onBoat, onGale, onOut, onPort, onRep, onWarn, yn, mI, mS, b0, okA, nb0, nb1, ini, List.map_cons, List.map_nil, List.replicate_zero, List.replicate_succ, List.append_nil, ldI, ldA, incK, oldK, castK, inv1, nwO, nwA, nwR, alen, ald, bald, ast, lald, last, rald, rast, goTo, nth, sto, setN, popN, okv, cat1_int, cat1_ref, cat1_null, cat1_rf, va_rf, hup_same, hup_hup, List.length_cons, List.length_nil, List.nil_append, List.cons_append, Option.toList, true_and, and_true, Nat.reduceAdd, Nat.reduceSub, Nat.reduceLT, Nat.reduceLeDiff, Nat.zero_le, Nat.sub_zero, Nat.zero_lt_succ, Nat.lt_add_left_iff_pos, Nat.succ_lt_succ_iff, rcM2, Nat.reduceEqDiff, reduceIte, iu, isMd_M, setTE_M, fI_6, fI_36, fI_0, fI_1, one_ne, zero_ne, true_or, or_true, gM_0, gM_1, gM_2, gM_3, gM_4, gM_5, gM_6, gM_7, gM_8, gM_9, gM_10, gM_11, gM_12, gM_13, gM_14, gM_15, gM_16, gM_17, gM_18, gM_19, gM_20, gM_21, gM_22, gM_23, gM_24, gM_25, gM_26, gM_27, gM_28, gM_29, gM_30, gM_31, gM_32, gM_33, gM_34, gM_35, gM_36, pM_0, pM_1, pM_6, pM_12, pM_17, pM_19, pM_20, pM_21, pM_22, pM_23, pM_26, pM_27, pM_28, pM_29, pM_34, pM_36, h0]
        exact hK
      | succ r ih =>
        intro hr hK
        have h0 : (nI r < 0) = False := eq_false (nI_pos (by omega))
        have r3 : vp_in (nI r) 300 = True := eq_true (vp_in_nI (by omega) (by omega))
        have rc : (nI r).toNatClampNeg = r := nI_clamp (by omega)
        have e1 : nI r + (-1) = nI r - 1 := by rw [Int32.sub_eq_add_neg]
        unfold cntI cntM at hK
        rw [nI_pred]
        refine hJ (ct [8]) 400 _ _ _ _ _ _ ((s_iload (pc' := 10) (i := 4) dX9_countsOf_8 rfl rfl).mpr ?_)
        simp only [w_aload_n (cut := ct [8]) (pc' := 1) (i := 0) rfl dX9_countsOf_0 rfl rfl, w_getfield (cut := ct [8]) (pc' := 4) rfl dX9_countsOf_1 rfl (q_X9_f99 P), w_iconst (cut := ct [8]) (pc' := 5) (v := 1) rfl dX9_countsOf_4 rfl rfl, w_isub (cut := ct [8]) (pc' := 6) rfl dX9_countsOf_5 rfl, w_istore (cut := ct [8]) (pc' := 8) (i := 4) rfl dX9_countsOf_6 rfl rfl, w_cut (cut := ct [8]) (pc := 8) rfl, w_if_lt (cut := ct [8]) (pc' := 13) (t := 62) rfl dX9_countsOf_10 rfl (by decide) rfl, w_aload_n (cut := ct [8]) (pc' := 14) (i := 0) rfl dX9_countsOf_13 rfl rfl, w_getfield (cut := ct [8]) (pc' := 17) rfl dX9_countsOf_14 rfl (q_X9_f22 P), w_iload (cut := ct [8]) (pc' := 19) (i := 4) rfl dX9_countsOf_17 rfl rfl, w_iaload (cut := ct [8]) rfl dX9_countsOf_19, w_iload_n (cut := ct [8]) (pc' := 21) (i := 1) rfl dX9_countsOf_20 rfl rfl, w_icmp_ne (cut := ct [8]) (pc' := 24) (t := 56) rfl dX9_countsOf_21 rfl (by decide) rfl, w_aload_n (cut := ct [8]) (pc' := 25) (i := 0) rfl dX9_countsOf_24 rfl rfl, w_getfield (cut := ct [8]) (pc' := 28) rfl dX9_countsOf_25 rfl (q_X9_f25 P), w_iload (cut := ct [8]) (pc' := 30) (i := 4) rfl dX9_countsOf_28 rfl rfl, w_iaload (cut := ct [8]) rfl dX9_countsOf_30, w_iload_n (cut := ct [8]) (pc' := 32) (i := 2) rfl dX9_countsOf_31 rfl rfl, w_icmp_ne (cut := ct [8]) (pc' := 35) (t := 56) rfl dX9_countsOf_32 rfl (by decide) rfl, w_aload_n (cut := ct [8]) (pc' := 36) (i := 0) rfl dX9_countsOf_35 rfl rfl, w_getfield (cut := ct [8]) (pc' := 39) rfl dX9_countsOf_36 rfl (q_X9_f34 P), w_iload (cut := ct [8]) (pc' := 41) (i := 4) rfl dX9_countsOf_39 rfl rfl, w_iaload (cut := ct [8]) rfl dX9_countsOf_41, w_aload_n (cut := ct [8]) (pc' := 43) (i := 0) rfl dX9_countsOf_42 rfl rfl, w_getfield (cut := ct [8]) (pc' := 46) rfl dX9_countsOf_43 rfl (q_X9_f19 P), w_iload_n (cut := ct [8]) (pc' := 47) (i := 1) rfl dX9_countsOf_46 rfl rfl, w_iaload (cut := ct [8]) rfl dX9_countsOf_47, w_iadd (cut := ct [8]) (pc' := 49) rfl dX9_countsOf_48 rfl, w_iload_n (cut := ct [8]) (pc' := 50) (i := 3) rfl dX9_countsOf_49 rfl rfl, w_icmp_gt (cut := ct [8]) (pc' := 53) (t := 56) rfl dX9_countsOf_50 rfl (by decide) rfl, w_iload (cut := ct [8]) (pc' := 55) (i := 4) rfl dX9_countsOf_53 rfl rfl, w_ireturnI (cut := ct [8]) rfl dX9_countsOf_55 rfl, w_iinc (cut := ct [8]) (pc' := 59) (d := (-1)) rfl dX9_countsOf_56 rfl rfl, w_goto (cut := ct [8]) (t := 8) rfl dX9_countsOf_59 (by decide) rfl, w_iconst (cut := ct [8]) (pc' := 63) (v := (-1)) rfl dX9_countsOf_62 rfl rfl, w_ireturnI (cut := ct [8]) rfl dX9_countsOf_63 rfl, rsum, cg_int, cg_ref, cg_null, nby0, strd, mStr, onAL, true_imp_iff, false_imp_iff, not_true_eq_false, not_false_eq_true, Classical.not_not, eq_self, e10, e01, em1, Int32.reduceLT, Int32.reduceLE, onBoat, onGale, onOut, onPort, onRep, onWarn, yn, mI, mS, b0, okA, nb0, nb1, ini, List.map_cons, List.map_nil, List.replicate_zero, List.replicate_succ, List.append_nil, ldI, ldA, incK, oldK, castK, inv1, nwO, nwA, nwR, alen, ald, bald, ast, lald, last, rald, rast, goTo, nth, sto, setN, popN, okv, cat1_int, cat1_ref, cat1_null, cat1_rf, va_rf, hup_same, hup_hup, List.length_cons, List.length_nil, List.nil_append, List.cons_append, Option.toList, true_and, and_true, Nat.reduceAdd, Nat.reduceSub, Nat.reduceLT, Nat.reduceLeDiff, Nat.zero_le, Nat.sub_zero, Nat.zero_lt_succ, Nat.lt_add_left_iff_pos, Nat.succ_lt_succ_iff, rcM2, Nat.reduceEqDiff, reduceIte, iu, isMd_M, setTE_M, fI_6, fI_36, fI_0, fI_1, one_ne, zero_ne, true_or, or_true, gM_0, gM_1, gM_2, gM_3, gM_4, gM_5, gM_6, gM_7, gM_8, gM_9, gM_10, gM_11, gM_12, gM_13, gM_14, gM_15, gM_16, gM_17, gM_18, gM_19, gM_20, gM_21, gM_22, gM_23, gM_24, gM_25, gM_26, gM_27, gM_28, gM_29, gM_30, gM_31, gM_32, gM_33, gM_34, gM_35, gM_36, pM_0, pM_1, pM_6, pM_12, pM_17, pM_19, pM_20, pM_21, pM_22, pM_23, pM_26, pM_27, pM_28, pM_29, pM_34, pM_36, h0, hm, a5, a7, a8, a11, k12, kc, r3, rc, e1]
        refine ⟨fun g1 => ?_, fun g1 => ⟨fun g2 => ?_, fun g2 => ⟨fun g3 => ?_, fun g3 => ?_⟩⟩⟩
        · rw [if_neg (fun z => g1 z.1)] at hK
          exact ih (by omega) hK
        · rw [if_neg (fun z => g2 z.2.1)] at hK
          exact ih (by omega) hK
        · rw [if_neg (fun z => Int32.not_le.mpr g3 z.2.2)] at hK
          exact ih (by omega) hK
        · rw [if_pos ⟨g1, g2, Int32.not_lt.mp g3⟩] at hK
          exact hK
    refine wp_of_S hJ (ct [8]) 400 _ _ _ _ _ _ ?_
    simp only [w_aload_n (cut := ct [8]) (pc' := 1) (i := 0) rfl dX9_countsOf_0 rfl rfl, w_getfield (cut := ct [8]) (pc' := 4) rfl dX9_countsOf_1 rfl (q_X9_f99 P), w_iconst (cut := ct [8]) (pc' := 5) (v := 1) rfl dX9_countsOf_4 rfl rfl, w_isub (cut := ct [8]) (pc' := 6) rfl dX9_countsOf_5 rfl, w_istore (cut := ct [8]) (pc' := 8) (i := 4) rfl dX9_countsOf_6 rfl rfl, w_cut (cut := ct [8]) (pc := 8) rfl, w_if_lt (cut := ct [8]) (pc' := 13) (t := 62) rfl dX9_countsOf_10 rfl (by decide) rfl, w_aload_n (cut := ct [8]) (pc' := 14) (i := 0) rfl dX9_countsOf_13 rfl rfl, w_getfield (cut := ct [8]) (pc' := 17) rfl dX9_countsOf_14 rfl (q_X9_f22 P), w_iload (cut := ct [8]) (pc' := 19) (i := 4) rfl dX9_countsOf_17 rfl rfl, w_iaload (cut := ct [8]) rfl dX9_countsOf_19, w_iload_n (cut := ct [8]) (pc' := 21) (i := 1) rfl dX9_countsOf_20 rfl rfl, w_icmp_ne (cut := ct [8]) (pc' := 24) (t := 56) rfl dX9_countsOf_21 rfl (by decide) rfl, w_aload_n (cut := ct [8]) (pc' := 25) (i := 0) rfl dX9_countsOf_24 rfl rfl, w_getfield (cut := ct [8]) (pc' := 28) rfl dX9_countsOf_25 rfl (q_X9_f25 P), w_iload (cut := ct [8]) (pc' := 30) (i := 4) rfl dX9_countsOf_28 rfl rfl, w_iaload (cut := ct [8]) rfl dX9_countsOf_30, w_iload_n (cut := ct [8]) (pc' := 32) (i := 2) rfl dX9_countsOf_31 rfl rfl, w_icmp_ne (cut := ct [8]) (pc' := 35) (t := 56) rfl dX9_countsOf_32 rfl (by decide) rfl, w_aload_n (cut := ct [8]) (pc' := 36) (i := 0) rfl dX9_countsOf_35 rfl rfl, w_getfield (cut := ct [8]) (pc' := 39) rfl dX9_countsOf_36 rfl (q_X9_f34 P), w_iload (cut := ct [8]) (pc' := 41) (i := 4) rfl dX9_countsOf_39 rfl rfl, w_iaload (cut := ct [8]) rfl dX9_countsOf_41, w_aload_n (cut := ct [8]) (pc' := 43) (i := 0) rfl dX9_countsOf_42 rfl rfl, w_getfield (cut := ct [8]) (pc' := 46) rfl dX9_countsOf_43 rfl (q_X9_f19 P), w_iload_n (cut := ct [8]) (pc' := 47) (i := 1) rfl dX9_countsOf_46 rfl rfl, w_iaload (cut := ct [8]) rfl dX9_countsOf_47, w_iadd (cut := ct [8]) (pc' := 49) rfl dX9_countsOf_48 rfl, w_iload_n (cut := ct [8]) (pc' := 50) (i := 3) rfl dX9_countsOf_49 rfl rfl, w_icmp_gt (cut := ct [8]) (pc' := 53) (t := 56) rfl dX9_countsOf_50 rfl (by decide) rfl, w_iload (cut := ct [8]) (pc' := 55) (i := 4) rfl dX9_countsOf_53 rfl rfl, w_ireturnI (cut := ct [8]) rfl dX9_countsOf_55 rfl, w_iinc (cut := ct [8]) (pc' := 59) (d := (-1)) rfl dX9_countsOf_56 rfl rfl, w_goto (cut := ct [8]) (t := 8) rfl dX9_countsOf_59 (by decide) rfl, w_iconst (cut := ct [8]) (pc' := 63) (v := (-1)) rfl dX9_countsOf_62 rfl rfl, w_ireturnI (cut := ct [8]) rfl dX9_countsOf_63 rfl, rsum, cg_int, cg_ref, cg_null, nby0, strd, mStr, onAL, true_imp_iff, false_imp_iff, not_true_eq_false, not_false_eq_true, Classical.not_not, eq_self, e10, e01, em1, Int32.reduceLT, Int32.reduceLE, onBoat, onGale, onOut, onPort, onRep, onWarn, yn, mI, mS, b0, okA, nb0, nb1, ini, List.map_cons, List.map_nil, List.replicate_zero, List.replicate_succ, List.append_nil, ldI, ldA, incK, oldK, castK, inv1, nwO, nwA, nwR, alen, ald, bald, ast, lald, last, rald, rast, goTo, nth, sto, setN, popN, okv, cat1_int, cat1_ref, cat1_null, cat1_rf, va_rf, hup_same, hup_hup, List.length_cons, List.length_nil, List.nil_append, List.cons_append, Option.toList, true_and, and_true, Nat.reduceAdd, Nat.reduceSub, Nat.reduceLT, Nat.reduceLeDiff, Nat.zero_le, Nat.sub_zero, Nat.zero_lt_succ, Nat.lt_add_left_iff_pos, Nat.succ_lt_succ_iff, rcM2, Nat.reduceEqDiff, reduceIte, iu, isMd_M, setTE_M, fI_6, fI_36, fI_0, fI_1, one_ne, zero_ne, true_or, or_true, gM_0, gM_1, gM_2, gM_3, gM_4, gM_5, gM_6, gM_7, gM_8, gM_9, gM_10, gM_11, gM_12, gM_13, gM_14, gM_15, gM_16, gM_17, gM_18, gM_19, gM_20, gM_21, gM_22, gM_23, gM_24, gM_25, gM_26, gM_27, gM_28, gM_29, gM_30, gM_31, gM_32, gM_33, gM_34, gM_35, gM_36, pM_0, pM_1, pM_6, pM_12, pM_17, pM_19, pM_20, pM_21, pM_22, pM_23, pM_26, pM_27, pM_28, pM_29, pM_34, pM_36, sp_X9_countsOf, hm, h12]
    exact key n (Nat.le_refl _) hT
  · exact hT.elim
set_option maxRecDepth 100000 in
theorem con_X9_countsOf {l : Launch} {s0 : State} {D : va_G} {cy : Nat → ClassId} {P : Pm} {a0 : Array Value} (hE : E0 l s0 D cy P a0) : Con l s0 D yX9_countsOf (Cond.code yX9_countsOf cX9_countsOf 5 (some .int)) 0 0 (sp_X9_countsOf cy P) := by
  refine con_of (clok_X9 hE _) (by decide) (fun as σ K KX h => okA_cat h.1) (Nat.le_of_ble_eq_true rfl) ?_ ?_ (m_X9_countsOf cy P hE.2.2.2.1)
  · intro p e R s m args below meth c A Q hfr hlo hW B kd j g hg
    cases hg
  · intro p e R s m args below meth c A K KX hfr hlo hW B htab
    exact xok_none htab
