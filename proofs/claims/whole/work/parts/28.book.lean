/-! ===== RuleBook ===== -/
abbrev oBook (fl co ki nu : Nat) (sz : Int32) : va_E := .inr (6, [.ref fl, .ref co, .ref ki, .ref nu, .int sz])
abbrev oRows (cy : Nat → ClassId) (r : Nat → Nat) : va_E := .inl (cy 4, 8, .inr (.inr (.inr (.inr (fun i => if i < 8 then some (r i) else none)))))
/-- a book's addresses: flags, conditions, kinds, numbers, the rows of kinds, of numbers -/
abbrev BA : Type := Nat × Nat × Nat × Nat × (Nat → Nat) × (Nat → Nat)
def BK (cy : Nat → ClassId) (σ : Hp) (r : Nat) (a : BA) (sz : Nat) (F C : Nat → Int32) (Kd Nm : Nat → Nat → Int32) : Prop :=
  σ r = some (oBook a.1 a.2.1 a.2.2.1 a.2.2.2.1 (nI sz)) ∧ σ a.1 = some (oInts cy 8 F) ∧ σ a.2.1 = some (oInts cy 8 C) ∧ σ a.2.2.1 = some (oRows cy a.2.2.2.2.1) ∧ σ a.2.2.2.1 = some (oRows cy a.2.2.2.2.2) ∧
  (∀ i, i < 8 → σ (a.2.2.2.2.1 i) = some (oInts cy 4 (Kd i))) ∧ (∀ i, i < 8 → σ (a.2.2.2.2.2 i) = some (oInts cy 4 (Nm i))) ∧
  a.1 ≠ a.2.1 ∧ (∀ i j, i < 8 → j < 8 → a.2.2.2.2.1 i = a.2.2.2.2.1 j → i = j) ∧ (∀ i j, i < 8 → j < 8 → a.2.2.2.2.2 i = a.2.2.2.2.2 j → i = j) ∧ (∀ i j, i < 8 → j < 8 → a.2.2.2.2.1 i ≠ a.2.2.2.2.2 j) ∧ sz ≤ 8
def iv_X5_size (cy : Nat → ClassId) (P : Pm) : Nat → Nat → Option Sg
  | _, _ => none
def sp_X5_size (cy : Nat → ClassId) (P : Pm) : Sg := mI 6 [] b0 (fun as σ K _ => match as with
  | [.ref r] => ∃ fl co ki nu sz, σ r = some (oBook fl co ki nu sz) ∧ K (some (.int sz)) σ
  | _ => False)
set_option maxHeartbeats 2000000 in
theorem m_X5_size (cy : Nat → ClassId) (P : Pm) (hP : PmOK P) : MOK (cl_X5 P) cy P.2.1 obj cX5_size (iv_X5_size cy P) (fun _ => none) (fun _ => some none) (some .int) 1 (sp_X5_size cy P) := by
  intro as σ K KX J hlen hT hJ hOld
  obtain ⟨-, -, hT⟩ := hT
  split at hT
  · rename_i r
    obtain ⟨fl, co, ki, nu, sz, hr, hT⟩ := hT
    refine wp_of_S hJ (ct []) 400 _ _ _ _ _ _ ?_
    simp only [w_aload_n (cut := ct []) (pc' := 1) (i := 0) rfl dX5_size_0 rfl rfl, w_getfield (cut := ct []) (pc' := 4) rfl dX5_size_1 rfl (q_X5_f26 P), w_ireturnI (cut := ct []) rfl dX5_size_4 rfl, rsum, cg_int, cg_ref, cg_null, nby0, strd, mStr, onAL, true_imp_iff, false_imp_iff, not_true_eq_false, not_false_eq_true, Classical.not_not, eq_self, e10, e01, em1, Int32.reduceLT, Int32.reduceLE, onBoat, onGale, onOut, onPort, onRep, onWarn, yn, mI, mS, b0, okA, rcvd, nb0, nb1, ini, List.map_cons, List.map_nil, List.replicate_zero, List.replicate_succ, List.append_nil, ldI, ldA, incK, getK, putK, oldK, castK, inv1, nwO, nwA, nwR, alen, ald, bald, ast, lald, last, rald, rast, goTo, nth, sto, setN, popN, okv, cat1_int, cat1_ref, cat1_null, cat1_rf, va_rf, hup_same, hup_hup, List.length_cons, List.length_nil, List.nil_append, List.cons_append, Option.toList, true_and, and_true, Nat.reduceAdd, Nat.reduceSub, Nat.reduceLT, Nat.reduceLeDiff, Nat.zero_le, Nat.sub_zero, Nat.zero_lt_succ, Nat.lt_add_left_iff_pos, Nat.succ_lt_succ_iff, sp_X5_size, hr]
    exact hT
  · exact hT.elim
set_option maxRecDepth 100000 in
theorem con_X5_size {l : Launch} {s0 : State} {D : va_G} {cy : Nat → ClassId} {P : Pm} {a0 : Array Value} (hE : E0 l s0 D cy P a0) : Con l s0 D yX5_size (Cond.code yX5_size cX5_size 1 (some .int)) 0 0 (sp_X5_size cy P) := by
  refine con_of (clok_X5 hE _) (by decide) (fun as σ K KX h => okA_cat h.1) (Nat.le_of_ble_eq_true rfl) ?_ ?_ (m_X5_size cy P hE.2.2.2.1)
  · intro p e R s m args below meth c A Q hfr hlo hW B kd j g hg
    cases hg
  · intro p e R s m args below meth c A K KX hfr hlo hW B htab
    exact xok_none htab
def iv_X5_flagOf (cy : Nat → ClassId) (P : Pm) : Nat → Nat → Option Sg
  | _, _ => none
def sp_X5_flagOf (cy : Nat → ClassId) (P : Pm) : Sg := mI 6 [0] b0 (fun as σ K _ => match as with
  | [.ref r, .int i] => ∃ a sz F C Kd Nm k, BK cy σ r a sz F C Kd Nm ∧ i = nI k ∧ k < sz ∧ K (some (.int (F k))) σ
  | _ => False)
set_option maxHeartbeats 2000000 in
theorem m_X5_flagOf (cy : Nat → ClassId) (P : Pm) (hP : PmOK P) : MOK (cl_X5 P) cy P.2.1 obj cX5_flagOf (iv_X5_flagOf cy P) (fun _ => none) (fun _ => some none) (some .int) 2 (sp_X5_flagOf cy P) := by
  intro as σ K KX J hlen hT hJ hOld
  obtain ⟨-, -, hT⟩ := hT
  split at hT
  · rename_i r i
    obtain ⟨a, sz, F, C, Kd, Nm, k, hB, rfl, hk, hT⟩ := hT
    have hsz := hB.2.2.2.2.2.2.2.2.2.2.2
    have h0 : (nI k < 0) = False := eq_false (nI_pos (by omega))
    have h1 : (nI sz ≤ nI k) = False := eq_false (nI_ge (by omega) (by omega))
    have hcl : (nI k).toNatClampNeg = k := nI_clamp (by omega)
    have hin : vp_in (nI k) 8 = True := eq_true (vp_in_nI (by omega) (by omega))
    all_goals
      refine wp_of_S hJ (ct []) 400 _ _ _ _ _ _ ?_
      simp only [w_iload_n (cut := ct []) (pc' := 1) (i := 1) rfl dX5_flagOf_0 rfl rfl, w_if_lt (cut := ct []) (pc' := 4) (t := 21) rfl dX5_flagOf_1 rfl (by decide) rfl, w_iload_n (cut := ct []) (pc' := 5) (i := 1) rfl dX5_flagOf_4 rfl rfl, w_aload_n (cut := ct []) (pc' := 6) (i := 0) rfl dX5_flagOf_5 rfl rfl, w_getfield (cut := ct []) (pc' := 9) rfl dX5_flagOf_6 rfl (q_X5_f26 P), w_icmp_ge (cut := ct []) (pc' := 12) (t := 21) rfl dX5_flagOf_9 rfl (by decide) rfl, w_aload_n (cut := ct []) (pc' := 13) (i := 0) rfl dX5_flagOf_12 rfl rfl, w_getfield (cut := ct []) (pc' := 16) rfl dX5_flagOf_13 rfl (q_X5_f11 P), w_iload_n (cut := ct []) (pc' := 17) (i := 1) rfl dX5_flagOf_16 rfl rfl, w_iaload (cut := ct []) rfl dX5_flagOf_17, w_goto (cut := ct []) (t := 22) rfl dX5_flagOf_18 (by decide) rfl, w_iconst (cut := ct []) (pc' := 22) (v := 0) rfl dX5_flagOf_21 rfl rfl, w_ireturnI (cut := ct []) rfl dX5_flagOf_22 rfl, rsum, cg_int, cg_ref, cg_null, nby0, strd, mStr, onAL, true_imp_iff, false_imp_iff, not_true_eq_false, not_false_eq_true, Classical.not_not, eq_self, e10, e01, em1, Int32.reduceLT, Int32.reduceLE, onBoat, onGale, onOut, onPort, onRep, onWarn, yn, mI, mS, b0, okA, rcvd, nb0, nb1, ini, List.map_cons, List.map_nil, List.replicate_zero, List.replicate_succ, List.append_nil, ldI, ldA, incK, getK, putK, oldK, castK, inv1, nwO, nwA, nwR, alen, ald, bald, ast, lald, last, rald, rast, goTo, nth, sto, setN, popN, okv, cat1_int, cat1_ref, cat1_null, cat1_rf, va_rf, hup_same, hup_hup, List.length_cons, List.length_nil, List.nil_append, List.cons_append, Option.toList, true_and, and_true, Nat.reduceAdd, Nat.reduceSub, Nat.reduceLT, Nat.reduceLeDiff, Nat.zero_le, Nat.sub_zero, Nat.zero_lt_succ, Nat.lt_add_left_iff_pos, Nat.succ_lt_succ_iff, sp_X5_flagOf, hB.1, hB.2.1, h0, h1, hcl, hin]
      exact hT
  · exact hT.elim
set_option maxRecDepth 100000 in
theorem con_X5_flagOf {l : Launch} {s0 : State} {D : va_G} {cy : Nat → ClassId} {P : Pm} {a0 : Array Value} (hE : E0 l s0 D cy P a0) : Con l s0 D yX5_flagOf (Cond.code yX5_flagOf cX5_flagOf 2 (some .int)) 0 0 (sp_X5_flagOf cy P) := by
  refine con_of (clok_X5 hE _) (by decide) (fun as σ K KX h => okA_cat h.1) (Nat.le_of_ble_eq_true rfl) ?_ ?_ (m_X5_flagOf cy P hE.2.2.2.1)
  · intro p e R s m args below meth c A Q hfr hlo hW B kd j g hg
    cases hg
  · intro p e R s m args below meth c A K KX hfr hlo hW B htab
    exact xok_none htab
/-- the first m conditions of rule k hold at an outlook -/
def condsC (Kd Nm : Nat → Nat → Int32) (k : Nat) (co gb gl wi : Int32) (m : Nat) : Prop := ∀ c, c < m → meetsC (Kd k c) (Nm k c) co gb gl wi
def iv_X5_holds (cy : Nat → ClassId) (P : Pm) : Nat → Nat → Option Sg
  | 0, 30 => some (sp_X2_meets cy P)
  | _, _ => none
def sp_X5_holds (cy : Nat → ClassId) (P : Pm) : Sg := mI 6 [0, 1] b0 (fun as σ K _ => match as with
  | [.ref r, .int i, .ref o] => ∃ a sz F C Kd Nm k n co gb gl wi, BK cy σ r a sz F C Kd Nm ∧ i = nI k ∧ k < sz ∧ C k = nI n ∧ n ≤ 4 ∧ (∀ c, c < n → Kd k c = 0 ∨ Kd k c = 1 ∨ Kd k c = 2 ∨ Kd k c = 3) ∧ σ o = some (oOut co gb gl wi) ∧ yn (condsC Kd Nm k co gb gl wi n) K σ
  | _ => False)
set_option maxHeartbeats 4000000 in
theorem m_X5_holds (cy : Nat → ClassId) (P : Pm) (hP : PmOK P) : MOK (cl_X5 P) cy P.2.1 obj cX5_holds (iv_X5_holds cy P) (fun _ => none) (fun _ => some none) (some .boolean) 4 (sp_X5_holds cy P) := by
  intro as σ K KX J hlen hT hJ hOld
  obtain ⟨-, -, hT⟩ := hT
  split at hT
  · rename_i r i o
    obtain ⟨a, sz, F, C, Kd, Nm, k, n, co, gb, gl, wi, hB, rfl, hk, hC, hn, hkd, ho, hT1, hT2⟩ := hT
    obtain ⟨b1, b2, b3, b4, b5, b6, b7, b8, b9, b10, b11, b12⟩ := id hB
    have h0 : (nI k < 0) = False := eq_false (nI_pos (by omega))
    have h1 : (nI k < nI sz) = True := eq_true (nI_lt (by omega) (by omega))
    have hcl : (nI k).toNatClampNeg = k := nI_clamp (by omega)
    have hin : vp_in (nI k) 8 = True := eq_true (vp_in_nI (by omega) (by omega))
    have hk8 : (k < 8) = True := eq_true (by omega)
    have hkr := b6 k (by omega)
    have hnr := b7 k (by omega)
    have key : ∀ (m c : Nat), n - c = m → c ≤ n → condsC Kd Nm k co gb gl wi c → J 16 [some (.ref r), some (.int (nI k)), some (.ref o), some (.int (nI c))] [] σ 0 0 := by
      intro m
      induction m with
      | zero =>
        intro c hc hcn hh
        have h2 : (nI n ≤ nI c) = True := eq_true (nI_le (by omega) (by omega))
        have hcc : c = n := by omega
        subst hcc
        refine hJ (ct [16]) 400 _ _ _ _ _ _ ((s_iload_n (pc' := 17) (i := 3) dX5_holds_16 rfl rfl).mpr ?_)
        simp only [w_iload_n (cut := ct [16]) (pc' := 1) (i := 1) rfl dX5_holds_0 rfl rfl, w_if_lt (cut := ct [16]) (pc' := 4) (t := 12) rfl dX5_holds_1 rfl (by decide) rfl, w_iload_n (cut := ct [16]) (pc' := 5) (i := 1) rfl dX5_holds_4 rfl rfl, w_aload_n (cut := ct [16]) (pc' := 6) (i := 0) rfl dX5_holds_5 rfl rfl, w_getfield (cut := ct [16]) (pc' := 9) rfl dX5_holds_6 rfl (q_X5_f26 P), w_icmp_lt (cut := ct [16]) (pc' := 12) (t := 14) rfl dX5_holds_9 rfl (by decide) rfl, w_iconst (cut := ct [16]) (pc' := 13) (v := 0) rfl dX5_holds_12 rfl rfl, w_ireturn (ty := .boolean) (cut := ct [16]) rfl dX5_holds_13 rfl, w_iconst (cut := ct [16]) (pc' := 15) (v := 0) rfl dX5_holds_14 rfl rfl, w_istore_n (cut := ct [16]) (pc' := 16) (i := 3) rfl dX5_holds_15 rfl rfl, w_cut (cut := ct [16]) (pc := 16) rfl, w_aload_n (cut := ct [16]) (pc' := 18) (i := 0) rfl dX5_holds_17 rfl rfl, w_getfield (cut := ct [16]) (pc' := 21) rfl dX5_holds_18 rfl (q_X5_f15 P), w_iload_n (cut := ct [16]) (pc' := 22) (i := 1) rfl dX5_holds_21 rfl rfl, w_iaload (cut := ct [16]) rfl dX5_holds_22, w_icmp_ge (cut := ct [16]) (pc' := 26) (t := 57) rfl dX5_holds_23 rfl (by decide) rfl, w_aload_n (cut := ct [16]) (pc' := 27) (i := 2) rfl dX5_holds_26 rfl rfl, w_aload_n (cut := ct [16]) (pc' := 28) (i := 0) rfl dX5_holds_27 rfl rfl, w_getfield (cut := ct [16]) (pc' := 31) rfl dX5_holds_28 rfl (q_X5_f20 P), w_iload_n (cut := ct [16]) (pc' := 32) (i := 1) rfl dX5_holds_31 rfl rfl, w_aaload (cut := ct [16]) rfl dX5_holds_32, w_iload_n (cut := ct [16]) (pc' := 34) (i := 3) rfl dX5_holds_33 rfl rfl, w_iaload (cut := ct [16]) rfl dX5_holds_34, w_aload_n (cut := ct [16]) (pc' := 36) (i := 0) rfl dX5_holds_35 rfl rfl, w_getfield (cut := ct [16]) (pc' := 39) rfl dX5_holds_36 rfl (q_X5_f23 P), w_iload_n (cut := ct [16]) (pc' := 40) (i := 1) rfl dX5_holds_39 rfl rfl, w_aaload (cut := ct [16]) rfl dX5_holds_40, w_iload_n (cut := ct [16]) (pc' := 42) (i := 3) rfl dX5_holds_41 rfl rfl, w_iaload (cut := ct [16]) rfl dX5_holds_42, w_invoke (inv := iv_X5_holds cy P) (kd := 0) (f := 30) (g := sp_X2_meets cy P) (cut := ct [16]) rfl dX5_holds_43 rfl (by decide) rfl, w_if_ne (cut := ct [16]) (pc' := 49) (t := 51) rfl dX5_holds_46 rfl (by decide) rfl, w_iconst (cut := ct [16]) (pc' := 50) (v := 0) rfl dX5_holds_49 rfl rfl, w_ireturn (ty := .boolean) (cut := ct [16]) rfl dX5_holds_50 rfl, w_iinc (cut := ct [16]) (pc' := 54) (d := 1) rfl dX5_holds_51 rfl rfl, w_goto (cut := ct [16]) (t := 16) rfl dX5_holds_54 (by decide) rfl, w_iconst (cut := ct [16]) (pc' := 58) (v := 1) rfl dX5_holds_57 rfl rfl, w_ireturn (ty := .boolean) (cut := ct [16]) rfl dX5_holds_58 rfl, rsum, cg_int, cg_ref, cg_null, nby0, strd, mStr, onAL, true_imp_iff, false_imp_iff, not_true_eq_false, not_false_eq_true, Classical.not_not, eq_self, e10, e01, em1, Int32.reduceLT, Int32.reduceLE, onBoat, onGale, onOut, onPort, onRep, onWarn, yn, mI, mS, b0, okA, rcvd, nb0, nb1, ini, List.map_cons, List.map_nil, List.replicate_zero, List.replicate_succ, List.append_nil, ldI, ldA, incK, getK, putK, oldK, castK, inv1, nwO, nwA, nwR, alen, ald, bald, ast, lald, last, rald, rast, goTo, nth, sto, setN, popN, okv, cat1_int, cat1_ref, cat1_null, cat1_rf, va_rf, hup_same, hup_hup, List.length_cons, List.length_nil, List.nil_append, List.cons_append, Option.toList, true_and, and_true, Nat.reduceAdd, Nat.reduceSub, Nat.reduceLT, Nat.reduceLeDiff, Nat.zero_le, Nat.sub_zero, Nat.zero_lt_succ, Nat.lt_add_left_iff_pos, Nat.succ_lt_succ_iff, b1, b3, hcl, hin, hC, h2]
        exact hT1 hh
      | succ m ih =>
        intro c hc hcn hh
        have h2 : (nI n ≤ nI c) = False := eq_false (nI_ge (by omega) (by omega))
        have hc4 : vp_in (nI c) 4 = True := eq_true (vp_in_nI (by omega) (by omega))
        have hcc : (nI c).toNatClampNeg = c := nI_clamp (by omega)
        refine hJ (ct [16]) 400 _ _ _ _ _ _ ((s_iload_n (pc' := 17) (i := 3) dX5_holds_16 rfl rfl).mpr ?_)
        simp only [w_iload_n (cut := ct [16]) (pc' := 1) (i := 1) rfl dX5_holds_0 rfl rfl, w_if_lt (cut := ct [16]) (pc' := 4) (t := 12) rfl dX5_holds_1 rfl (by decide) rfl, w_iload_n (cut := ct [16]) (pc' := 5) (i := 1) rfl dX5_holds_4 rfl rfl, w_aload_n (cut := ct [16]) (pc' := 6) (i := 0) rfl dX5_holds_5 rfl rfl, w_getfield (cut := ct [16]) (pc' := 9) rfl dX5_holds_6 rfl (q_X5_f26 P), w_icmp_lt (cut := ct [16]) (pc' := 12) (t := 14) rfl dX5_holds_9 rfl (by decide) rfl, w_iconst (cut := ct [16]) (pc' := 13) (v := 0) rfl dX5_holds_12 rfl rfl, w_ireturn (ty := .boolean) (cut := ct [16]) rfl dX5_holds_13 rfl, w_iconst (cut := ct [16]) (pc' := 15) (v := 0) rfl dX5_holds_14 rfl rfl, w_istore_n (cut := ct [16]) (pc' := 16) (i := 3) rfl dX5_holds_15 rfl rfl, w_cut (cut := ct [16]) (pc := 16) rfl, w_aload_n (cut := ct [16]) (pc' := 18) (i := 0) rfl dX5_holds_17 rfl rfl, w_getfield (cut := ct [16]) (pc' := 21) rfl dX5_holds_18 rfl (q_X5_f15 P), w_iload_n (cut := ct [16]) (pc' := 22) (i := 1) rfl dX5_holds_21 rfl rfl, w_iaload (cut := ct [16]) rfl dX5_holds_22, w_icmp_ge (cut := ct [16]) (pc' := 26) (t := 57) rfl dX5_holds_23 rfl (by decide) rfl, w_aload_n (cut := ct [16]) (pc' := 27) (i := 2) rfl dX5_holds_26 rfl rfl, w_aload_n (cut := ct [16]) (pc' := 28) (i := 0) rfl dX5_holds_27 rfl rfl, w_getfield (cut := ct [16]) (pc' := 31) rfl dX5_holds_28 rfl (q_X5_f20 P), w_iload_n (cut := ct [16]) (pc' := 32) (i := 1) rfl dX5_holds_31 rfl rfl, w_aaload (cut := ct [16]) rfl dX5_holds_32, w_iload_n (cut := ct [16]) (pc' := 34) (i := 3) rfl dX5_holds_33 rfl rfl, w_iaload (cut := ct [16]) rfl dX5_holds_34, w_aload_n (cut := ct [16]) (pc' := 36) (i := 0) rfl dX5_holds_35 rfl rfl, w_getfield (cut := ct [16]) (pc' := 39) rfl dX5_holds_36 rfl (q_X5_f23 P), w_iload_n (cut := ct [16]) (pc' := 40) (i := 1) rfl dX5_holds_39 rfl rfl, w_aaload (cut := ct [16]) rfl dX5_holds_40, w_iload_n (cut := ct [16]) (pc' := 42) (i := 3) rfl dX5_holds_41 rfl rfl, w_iaload (cut := ct [16]) rfl dX5_holds_42, w_invoke (inv := iv_X5_holds cy P) (kd := 0) (f := 30) (g := sp_X2_meets cy P) (cut := ct [16]) rfl dX5_holds_43 rfl (by decide) rfl, w_if_ne (cut := ct [16]) (pc' := 49) (t := 51) rfl dX5_holds_46 rfl (by decide) rfl, w_iconst (cut := ct [16]) (pc' := 50) (v := 0) rfl dX5_holds_49 rfl rfl, w_ireturn (ty := .boolean) (cut := ct [16]) rfl dX5_holds_50 rfl, w_iinc (cut := ct [16]) (pc' := 54) (d := 1) rfl dX5_holds_51 rfl rfl, w_goto (cut := ct [16]) (t := 16) rfl dX5_holds_54 (by decide) rfl, w_iconst (cut := ct [16]) (pc' := 58) (v := 1) rfl dX5_holds_57 rfl rfl, w_ireturn (ty := .boolean) (cut := ct [16]) rfl dX5_holds_58 rfl, rsum, cg_int, cg_ref, cg_null, nby0, strd, mStr, onAL, true_imp_iff, false_imp_iff, not_true_eq_false, not_false_eq_true, Classical.not_not, eq_self, e10, e01, em1, Int32.reduceLT, Int32.reduceLE, onBoat, onGale, onOut, onPort, onRep, onWarn, yn, mI, mS, b0, okA, rcvd, nb0, nb1, ini, List.map_cons, List.map_nil, List.replicate_zero, List.replicate_succ, List.append_nil, ldI, ldA, incK, getK, putK, oldK, castK, inv1, nwO, nwA, nwR, alen, ald, bald, ast, lald, last, rald, rast, goTo, nth, sto, setN, popN, okv, cat1_int, cat1_ref, cat1_null, cat1_rf, va_rf, hup_same, hup_hup, List.length_cons, List.length_nil, List.nil_append, List.cons_append, Option.toList, true_and, and_true, Nat.reduceAdd, Nat.reduceSub, Nat.reduceLT, Nat.reduceLeDiff, Nat.zero_le, Nat.sub_zero, Nat.zero_lt_succ, Nat.lt_add_left_iff_pos, Nat.succ_lt_succ_iff, b1, b3, b4, b5, hkr, hnr, hcl, hin, hk8, hc4, hcc, hC, h2, ho, ite_true, or_true, sp_X2_meets]
        refine ⟨hkd c (by omega), fun h => ?_, fun h => hT2 (fun z => h (z c (by omega)))⟩
        have := ih (c + 1) (by omega) (by omega) (fun d hd => by
          by_cases q : d = c
          · subst q; exact h
          · exact hh d (by omega))
        rw [← nI_1] at this
        exact this
    have hk2 := key n 0 rfl (by omega) (fun c hc => by omega)
    rw [nI_0] at hk2
    refine wp_of_S hJ (ct [16]) 400 _ _ _ _ _ _ ?_
    simp only [w_iload_n (cut := ct [16]) (pc' := 1) (i := 1) rfl dX5_holds_0 rfl rfl, w_if_lt (cut := ct [16]) (pc' := 4) (t := 12) rfl dX5_holds_1 rfl (by decide) rfl, w_iload_n (cut := ct [16]) (pc' := 5) (i := 1) rfl dX5_holds_4 rfl rfl, w_aload_n (cut := ct [16]) (pc' := 6) (i := 0) rfl dX5_holds_5 rfl rfl, w_getfield (cut := ct [16]) (pc' := 9) rfl dX5_holds_6 rfl (q_X5_f26 P), w_icmp_lt (cut := ct [16]) (pc' := 12) (t := 14) rfl dX5_holds_9 rfl (by decide) rfl, w_iconst (cut := ct [16]) (pc' := 13) (v := 0) rfl dX5_holds_12 rfl rfl, w_ireturn (ty := .boolean) (cut := ct [16]) rfl dX5_holds_13 rfl, w_iconst (cut := ct [16]) (pc' := 15) (v := 0) rfl dX5_holds_14 rfl rfl, w_istore_n (cut := ct [16]) (pc' := 16) (i := 3) rfl dX5_holds_15 rfl rfl, w_cut (cut := ct [16]) (pc := 16) rfl, w_aload_n (cut := ct [16]) (pc' := 18) (i := 0) rfl dX5_holds_17 rfl rfl, w_getfield (cut := ct [16]) (pc' := 21) rfl dX5_holds_18 rfl (q_X5_f15 P), w_iload_n (cut := ct [16]) (pc' := 22) (i := 1) rfl dX5_holds_21 rfl rfl, w_iaload (cut := ct [16]) rfl dX5_holds_22, w_icmp_ge (cut := ct [16]) (pc' := 26) (t := 57) rfl dX5_holds_23 rfl (by decide) rfl, w_aload_n (cut := ct [16]) (pc' := 27) (i := 2) rfl dX5_holds_26 rfl rfl, w_aload_n (cut := ct [16]) (pc' := 28) (i := 0) rfl dX5_holds_27 rfl rfl, w_getfield (cut := ct [16]) (pc' := 31) rfl dX5_holds_28 rfl (q_X5_f20 P), w_iload_n (cut := ct [16]) (pc' := 32) (i := 1) rfl dX5_holds_31 rfl rfl, w_aaload (cut := ct [16]) rfl dX5_holds_32, w_iload_n (cut := ct [16]) (pc' := 34) (i := 3) rfl dX5_holds_33 rfl rfl, w_iaload (cut := ct [16]) rfl dX5_holds_34, w_aload_n (cut := ct [16]) (pc' := 36) (i := 0) rfl dX5_holds_35 rfl rfl, w_getfield (cut := ct [16]) (pc' := 39) rfl dX5_holds_36 rfl (q_X5_f23 P), w_iload_n (cut := ct [16]) (pc' := 40) (i := 1) rfl dX5_holds_39 rfl rfl, w_aaload (cut := ct [16]) rfl dX5_holds_40, w_iload_n (cut := ct [16]) (pc' := 42) (i := 3) rfl dX5_holds_41 rfl rfl, w_iaload (cut := ct [16]) rfl dX5_holds_42, w_invoke (inv := iv_X5_holds cy P) (kd := 0) (f := 30) (g := sp_X2_meets cy P) (cut := ct [16]) rfl dX5_holds_43 rfl (by decide) rfl, w_if_ne (cut := ct [16]) (pc' := 49) (t := 51) rfl dX5_holds_46 rfl (by decide) rfl, w_iconst (cut := ct [16]) (pc' := 50) (v := 0) rfl dX5_holds_49 rfl rfl, w_ireturn (ty := .boolean) (cut := ct [16]) rfl dX5_holds_50 rfl, w_iinc (cut := ct [16]) (pc' := 54) (d := 1) rfl dX5_holds_51 rfl rfl, w_goto (cut := ct [16]) (t := 16) rfl dX5_holds_54 (by decide) rfl, w_iconst (cut := ct [16]) (pc' := 58) (v := 1) rfl dX5_holds_57 rfl rfl, w_ireturn (ty := .boolean) (cut := ct [16]) rfl dX5_holds_58 rfl, rsum, cg_int, cg_ref, cg_null, nby0, strd, mStr, onAL, true_imp_iff, false_imp_iff, not_true_eq_false, not_false_eq_true, Classical.not_not, eq_self, e10, e01, em1, Int32.reduceLT, Int32.reduceLE, onBoat, onGale, onOut, onPort, onRep, onWarn, yn, mI, mS, b0, okA, rcvd, nb0, nb1, ini, List.map_cons, List.map_nil, List.replicate_zero, List.replicate_succ, List.append_nil, ldI, ldA, incK, getK, putK, oldK, castK, inv1, nwO, nwA, nwR, alen, ald, bald, ast, lald, last, rald, rast, goTo, nth, sto, setN, popN, okv, cat1_int, cat1_ref, cat1_null, cat1_rf, va_rf, hup_same, hup_hup, List.length_cons, List.length_nil, List.nil_append, List.cons_append, Option.toList, true_and, and_true, Nat.reduceAdd, Nat.reduceSub, Nat.reduceLT, Nat.reduceLeDiff, Nat.zero_le, Nat.sub_zero, Nat.zero_lt_succ, Nat.lt_add_left_iff_pos, Nat.succ_lt_succ_iff, sp_X5_holds, b1, h0, h1]
    exact hk2
  · exact hT.elim
set_option maxRecDepth 100000 in
theorem con_X5_holds {l : Launch} {s0 : State} {D : va_G} {cy : Nat → ClassId} {P : Pm} {a0 : Array Value} (hE : E0 l s0 D cy P a0) : Con l s0 D yX5_holds (Cond.code yX5_holds cX5_holds 4 (some .boolean)) 1 22 (sp_X5_holds cy P) := by
  refine con_of (clok_X5 hE _) (by decide) (fun as σ K KX h => okA_cat h.1) (Nat.le_of_ble_eq_true rfl) ?_ ?_ (m_X5_holds cy P hE.2.2.2.1)
  · intro p e R s m args below meth c A Q hfr hlo hW B kd j g hg
    unfold iv_X5_holds at hg
    split at hg
    · cases hg; exact inv_V (ci := 3) B (con_X2_meets hE) rfl (fun as σ K KX h => rcvd_spec h.2.1) (cw_mk hE hW tw_768 rfl tw_6 ⟨by decide, by decide⟩ rfl) rfl (wd hE hW tw_765 rfl) (wd hE hW tw_766 rfl) (wd hE hW tw_767 rfl) (by rw [hfr]; decide) (by rw [hlo]; decide)
    · cases hg
  · intro p e R s m args below meth c A K KX hfr hlo hW B htab
    exact xok_none htab

/-! the pure reading of a text: f the bytes, L how many -/
def isWdb (f : Nat → Int32) (L p k : Nat) : Bool := decide (adw (isIn 97 122) f L p = p + (txt k).length) && (List.range (txt k).length).all (fun j => decide (f (p + j) = (txt k).getD j 0))
theorem isWdb_iff {f : Nat → Int32} {L p k : Nat} : isWdb f L p k = true ↔ isWd f L p k := by
  unfold isWdb isWd
  simp [List.all_eq_true]
/-- behind the word k at p -/
def aftW (f : Nat → Int32) (L p k : Nat) : Nat := adw isB f L (p + (txt k).length)
def rdFlag (f : Nat → Int32) (L p : Nat) : Option (Int32 × Nat) := if isWdb f L p 0 then some (0, aftW f L p 0) else if isWdb f L p 1 then some (1, aftW f L p 1) else none
def rdKind (f : Nat → Int32) (L p : Nat) : Option (Int32 × Nat) := if isWdb f L p 2 then some (0, aftW f L p 2) else if isWdb f L p 3 then some (1, aftW f L p 3) else if isWdb f L p 4 then some (2, aftW f L p 4) else if isWdb f L p 5 then some (3, aftW f L p 5) else none
/-- the tape at another place -/
abbrev tpAt (σ : Hp) (t b L p : Nat) : Hp := hup σ t (oTape b (nI L) (nI p))
theorem tp_same {cy : Nat → ClassId} {σ : Hp} {t b L p : Nat} {f : Nat → Int32} (h : TP cy σ t b L p f) : tpAt σ t b L p = σ := by
  funext x
  by_cases hx : x = t
  · subst hx; exact (hup_same _ _ _).trans h.1.symm
  · exact hup_ne _ _ hx
theorem isWd_le {f : Nat → Int32} {L p k : Nat} (h : isWd f L p k) (hp : p ≤ L) : p + (txt k).length ≤ L := by
  have := adw_le (c := isIn 97 122) (f := f) (L := L) (L - p) p rfl hp
  rw [h.1] at this
  exact this.2
theorem aftW_le {f : Nat → Int32} {L p k : Nat} (h : isWdb f L p k = true) (hp : p ≤ L) : aftW f L p k ≤ L ∧ p ≤ aftW f L p k := by
  have h1 := isWd_le (isWdb_iff.mp h) hp
  have := adw_le (c := isB) (f := f) (L := L) _ (p + (txt k).length) rfl h1
  unfold aftW
  omega
def iv_X5_readFlag (cy : Nat → ClassId) (P : Pm) : Nat → Nat → Option Sg
  | 0, 67 => some (sp_X6_takeWord cy P)
  | _, _ => none
def sp_X5_readFlag (cy : Nat → ClassId) (P : Pm) : Sg := mS [1] b0 (fun as σ K _ => match as with
  | [.ref t] => ∃ b L p f, TP cy σ t b L p f ∧ (∀ v q, rdFlag f L p = some (v, q) → K (some (.int v)) (tpAt σ t b L q)) ∧ (rdFlag f L p = none → K (some (.int (-1))) σ)
  | _ => False)
set_option maxHeartbeats 4000000 in
theorem m_X5_readFlag (cy : Nat → ClassId) (P : Pm) (hP : PmOK P) : MOK (cl_X5 P) cy P.2.1 obj cX5_readFlag (iv_X5_readFlag cy P) (fun _ => none) (fun _ => some none) (some .int) 1 (sp_X5_readFlag cy P) := by
  intro as σ K KX J hlen hT hJ hOld
  obtain ⟨-, hT⟩ := hT
  split at hT
  · rename_i t
    obtain ⟨b, L, p, f, hTP, hT1, hT2⟩ := hT
    unfold rdFlag at hT1 hT2
    refine wp_of_S hJ (ct []) 400 _ _ _ _ _ _ ?_
    simp only [w_aload_n (cut := ct []) (pc' := 1) (i := 0) rfl dX5_readFlag_0 rfl rfl, w_ldc (cut := ct []) (pc' := 3) rfl dX5_readFlag_1 rfl (q_X5_l81 P), w_invoke (inv := iv_X5_readFlag cy P) (kd := 0) (f := 67) (g := sp_X6_takeWord cy P) (cut := ct []) rfl dX5_readFlag_3 rfl (by decide) rfl, w_if_eq (cut := ct []) (pc' := 9) (t := 11) rfl dX5_readFlag_6 rfl (by decide) rfl, w_iconst (cut := ct []) (pc' := 10) (v := 0) rfl dX5_readFlag_9 rfl rfl, w_ireturnI (cut := ct []) rfl dX5_readFlag_10 rfl, w_aload_n (cut := ct []) (pc' := 12) (i := 0) rfl dX5_readFlag_11 rfl rfl, w_ldc (cut := ct []) (pc' := 14) rfl dX5_readFlag_12 rfl (q_X5_l83 P), w_invoke (inv := iv_X5_readFlag cy P) (kd := 0) (f := 67) (g := sp_X6_takeWord cy P) (cut := ct []) rfl dX5_readFlag_14 rfl (by decide) rfl, w_if_eq (cut := ct []) (pc' := 20) (t := 24) rfl dX5_readFlag_17 rfl (by decide) rfl, w_iconst (cut := ct []) (pc' := 21) (v := 1) rfl dX5_readFlag_20 rfl rfl, w_goto (cut := ct []) (t := 25) rfl dX5_readFlag_21 (by decide) rfl, w_iconst (cut := ct []) (pc' := 25) (v := (-1)) rfl dX5_readFlag_24 rfl rfl, w_ireturnI (cut := ct []) rfl dX5_readFlag_25 rfl, rsum, cg_int, cg_ref, cg_null, nby0, strd, mStr, onAL, true_imp_iff, false_imp_iff, not_true_eq_false, not_false_eq_true, Classical.not_not, eq_self, e10, e01, em1, Int32.reduceLT, Int32.reduceLE, onBoat, onGale, onOut, onPort, onRep, onWarn, yn, mI, mS, b0, okA, rcvd, nb0, nb1, ini, List.map_cons, List.map_nil, List.replicate_zero, List.replicate_succ, List.append_nil, ldI, ldA, incK, getK, putK, oldK, castK, inv1, nwO, nwA, nwR, alen, ald, bald, ast, lald, last, rald, rast, goTo, nth, sto, setN, popN, okv, cat1_int, cat1_ref, cat1_null, cat1_rf, va_rf, hup_same, hup_hup, List.length_cons, List.length_nil, List.nil_append, List.cons_append, Option.toList, true_and, and_true, Nat.reduceAdd, Nat.reduceSub, Nat.reduceLT, Nat.reduceLeDiff, Nat.zero_le, Nat.sub_zero, Nat.zero_lt_succ, Nat.lt_add_left_iff_pos, Nat.succ_lt_succ_iff, sp_X5_readFlag, sp_X6_takeWord, hTP.1]
    refine ⟨b, L, p, f, 0, hTP, rfl, by decide, fun h => ?_, fun h => ⟨b, L, p, f, 1, hTP, rfl, by decide, fun h2 => ?_, fun h2 => ?_⟩⟩
    · exact hT1 0 _ (by rw [if_pos (isWdb_iff.mpr h)]; rfl)
    · exact hT1 1 _ (by rw [if_neg (fun z => h (isWdb_iff.mp z)), if_pos (isWdb_iff.mpr h2)]; rfl)
    · exact hT2 (by rw [if_neg (fun z => h (isWdb_iff.mp z)), if_neg (fun z => h2 (isWdb_iff.mp z))])
  · exact hT.elim
set_option maxRecDepth 100000 in
theorem con_X5_readFlag {l : Launch} {s0 : State} {D : va_G} {cy : Nat → ClassId} {P : Pm} {a0 : Array Value} (hE : E0 l s0 D cy P a0) : Con l s0 D yX5_readFlag (Cond.code yX5_readFlag cX5_readFlag 1 (some .int)) 5 108 (sp_X5_readFlag cy P) := by
  refine con_of (clok_X5 hE _) (by decide) (fun as σ K KX h => okA_cat h.1) (Nat.le_of_ble_eq_true rfl) ?_ ?_ (m_X5_readFlag cy P hE.2.2.2.1)
  · intro p e R s m args below meth c A Q hfr hlo hW B kd j g hg
    unfold iv_X5_readFlag at hg
    split at hg
    · cases hg; exact inv_V (ci := 7) B (con_X6_takeWord hE) rfl (fun as σ K KX h => rcvd_spec h.2.1) (cw_mk hE hW tw_549 rfl tw_2 ⟨by decide, by decide⟩ rfl) rfl (wd hE hW tw_546 rfl) (wd hE hW tw_547 rfl) (wd hE hW tw_548 rfl) (by rw [hfr]; decide) (by rw [hlo]; decide)
    · cases hg
  · intro p e R s m args below meth c A K KX hfr hlo hW B htab
    exact xok_none htab
def iv_X5_readKind (cy : Nat → ClassId) (P : Pm) : Nat → Nat → Option Sg
  | 0, 67 => some (sp_X6_takeWord cy P)
  | _, _ => none
def sp_X5_readKind (cy : Nat → ClassId) (P : Pm) : Sg := mS [1] b0 (fun as σ K _ => match as with
  | [.ref t] => ∃ b L p f, TP cy σ t b L p f ∧ (∀ v q, rdKind f L p = some (v, q) → K (some (.int v)) (tpAt σ t b L q)) ∧ (rdKind f L p = none → K (some (.int (-1))) σ)
  | _ => False)
set_option maxHeartbeats 4000000 in
theorem m_X5_readKind (cy : Nat → ClassId) (P : Pm) (hP : PmOK P) : MOK (cl_X5 P) cy P.2.1 obj cX5_readKind (iv_X5_readKind cy P) (fun _ => none) (fun _ => some none) (some .int) 1 (sp_X5_readKind cy P) := by
  intro as σ K KX J hlen hT hJ hOld
  obtain ⟨-, hT⟩ := hT
  split at hT
  · rename_i t
    obtain ⟨b, L, p, f, hTP, hT1, hT2⟩ := hT
    unfold rdKind at hT1 hT2
    refine wp_of_S hJ (ct []) 400 _ _ _ _ _ _ ?_
    simp only [w_aload_n (cut := ct []) (pc' := 1) (i := 0) rfl dX5_readKind_0 rfl rfl, w_ldc (cut := ct []) (pc' := 3) rfl dX5_readKind_1 rfl (q_X5_l85 P), w_invoke (inv := iv_X5_readKind cy P) (kd := 0) (f := 67) (g := sp_X6_takeWord cy P) (cut := ct []) rfl dX5_readKind_3 rfl (by decide) rfl, w_if_eq (cut := ct []) (pc' := 9) (t := 11) rfl dX5_readKind_6 rfl (by decide) rfl, w_iconst (cut := ct []) (pc' := 10) (v := 0) rfl dX5_readKind_9 rfl rfl, w_ireturnI (cut := ct []) rfl dX5_readKind_10 rfl, w_aload_n (cut := ct []) (pc' := 12) (i := 0) rfl dX5_readKind_11 rfl rfl, w_ldc (cut := ct []) (pc' := 14) rfl dX5_readKind_12 rfl (q_X5_l87 P), w_invoke (inv := iv_X5_readKind cy P) (kd := 0) (f := 67) (g := sp_X6_takeWord cy P) (cut := ct []) rfl dX5_readKind_14 rfl (by decide) rfl, w_if_eq (cut := ct []) (pc' := 20) (t := 22) rfl dX5_readKind_17 rfl (by decide) rfl, w_iconst (cut := ct []) (pc' := 21) (v := 1) rfl dX5_readKind_20 rfl rfl, w_ireturnI (cut := ct []) rfl dX5_readKind_21 rfl, w_aload_n (cut := ct []) (pc' := 23) (i := 0) rfl dX5_readKind_22 rfl rfl, w_ldc (cut := ct []) (pc' := 25) rfl dX5_readKind_23 rfl (q_X5_l89 P), w_invoke (inv := iv_X5_readKind cy P) (kd := 0) (f := 67) (g := sp_X6_takeWord cy P) (cut := ct []) rfl dX5_readKind_25 rfl (by decide) rfl, w_if_eq (cut := ct []) (pc' := 31) (t := 33) rfl dX5_readKind_28 rfl (by decide) rfl, w_iconst (cut := ct []) (pc' := 32) (v := 2) rfl dX5_readKind_31 rfl rfl, w_ireturnI (cut := ct []) rfl dX5_readKind_32 rfl, w_aload_n (cut := ct []) (pc' := 34) (i := 0) rfl dX5_readKind_33 rfl rfl, w_ldc (cut := ct []) (pc' := 36) rfl dX5_readKind_34 rfl (q_X5_l91 P), w_invoke (inv := iv_X5_readKind cy P) (kd := 0) (f := 67) (g := sp_X6_takeWord cy P) (cut := ct []) rfl dX5_readKind_36 rfl (by decide) rfl, w_if_eq (cut := ct []) (pc' := 42) (t := 46) rfl dX5_readKind_39 rfl (by decide) rfl, w_iconst (cut := ct []) (pc' := 43) (v := 3) rfl dX5_readKind_42 rfl rfl, w_goto (cut := ct []) (t := 47) rfl dX5_readKind_43 (by decide) rfl, w_iconst (cut := ct []) (pc' := 47) (v := (-1)) rfl dX5_readKind_46 rfl rfl, w_ireturnI (cut := ct []) rfl dX5_readKind_47 rfl, rsum, cg_int, cg_ref, cg_null, nby0, strd, mStr, onAL, true_imp_iff, false_imp_iff, not_true_eq_false, not_false_eq_true, Classical.not_not, eq_self, e10, e01, em1, Int32.reduceLT, Int32.reduceLE, onBoat, onGale, onOut, onPort, onRep, onWarn, yn, mI, mS, b0, okA, rcvd, nb0, nb1, ini, List.map_cons, List.map_nil, List.replicate_zero, List.replicate_succ, List.append_nil, ldI, ldA, incK, getK, putK, oldK, castK, inv1, nwO, nwA, nwR, alen, ald, bald, ast, lald, last, rald, rast, goTo, nth, sto, setN, popN, okv, cat1_int, cat1_ref, cat1_null, cat1_rf, va_rf, hup_same, hup_hup, List.length_cons, List.length_nil, List.nil_append, List.cons_append, Option.toList, true_and, and_true, Nat.reduceAdd, Nat.reduceSub, Nat.reduceLT, Nat.reduceLeDiff, Nat.zero_le, Nat.sub_zero, Nat.zero_lt_succ, Nat.lt_add_left_iff_pos, Nat.succ_lt_succ_iff, sp_X5_readKind, sp_X6_takeWord, hTP.1]
    refine ⟨b, L, p, f, 2, hTP, rfl, by decide, fun h => ?_, fun h => ⟨b, L, p, f, 3, hTP, rfl, by decide, fun h2 => ?_, fun h2 => ⟨b, L, p, f, 4, hTP, rfl, by decide, fun h3 => ?_, fun h3 => ⟨b, L, p, f, 5, hTP, rfl, by decide, fun h4 => ?_, fun h4 => ?_⟩⟩⟩⟩
    · exact hT1 0 _ (by rw [if_pos (isWdb_iff.mpr h)]; rfl)
    · exact hT1 1 _ (by rw [if_neg (fun z => h (isWdb_iff.mp z)), if_pos (isWdb_iff.mpr h2)]; rfl)
    · exact hT1 2 _ (by rw [if_neg (fun z => h (isWdb_iff.mp z)), if_neg (fun z => h2 (isWdb_iff.mp z)), if_pos (isWdb_iff.mpr h3)]; rfl)
    · exact hT1 3 _ (by rw [if_neg (fun z => h (isWdb_iff.mp z)), if_neg (fun z => h2 (isWdb_iff.mp z)), if_neg (fun z => h3 (isWdb_iff.mp z)), if_pos (isWdb_iff.mpr h4)]; rfl)
    · exact hT2 (by rw [if_neg (fun z => h (isWdb_iff.mp z)), if_neg (fun z => h2 (isWdb_iff.mp z)), if_neg (fun z => h3 (isWdb_iff.mp z)), if_neg (fun z => h4 (isWdb_iff.mp z))])
  · exact hT.elim
set_option maxRecDepth 100000 in
theorem con_X5_readKind {l : Launch} {s0 : State} {D : va_G} {cy : Nat → ClassId} {P : Pm} {a0 : Array Value} (hE : E0 l s0 D cy P a0) : Con l s0 D yX5_readKind (Cond.code yX5_readKind cX5_readKind 1 (some .int)) 5 108 (sp_X5_readKind cy P) := by
  refine con_of (clok_X5 hE _) (by decide) (fun as σ K KX h => okA_cat h.1) (Nat.le_of_ble_eq_true rfl) ?_ ?_ (m_X5_readKind cy P hE.2.2.2.1)
  · intro p e R s m args below meth c A Q hfr hlo hW B kd j g hg
    unfold iv_X5_readKind at hg
    split at hg
    · cases hg; exact inv_V (ci := 7) B (con_X6_takeWord hE) rfl (fun as σ K KX h => rcvd_spec h.2.1) (cw_mk hE hW tw_549 rfl tw_2 ⟨by decide, by decide⟩ rfl) rfl (wd hE hW tw_546 rfl) (wd hE hW tw_547 rfl) (wd hE hW tw_548 rfl) (by rw [hfr]; decide) (by rw [hlo]; decide)
    · cases hg
  · intro p e R s m args below meth c A K KX hfr hlo hW B htab
    exact xok_none htab
