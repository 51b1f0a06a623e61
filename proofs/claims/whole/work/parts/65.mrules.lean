/-! ===== the model: readAll, rules() ===== -/
def upR (M M' : Ms) : Prop := sameS M M' ∧ (∀ j, j < 8 → M' 13 j = M 13 j ∧ M' 14 j = M 14 j) ∧ ∀ j, j < 32 → M' 15 j = M 15 j ∧ M' 16 j = M 16 j
theorem upR_rf {M : Ms} : upR M M := ⟨fun _ _ _ _ _ => rfl, fun _ _ => ⟨rfl, rfl⟩, fun _ _ => ⟨rfl, rfl⟩⟩
theorem upR_but {M M' M2 : Ms} {k : Nat} (h : upR M M') (h2 : butR (8 + k) M' M2) : upR M M2 :=
  ⟨fun s a b c d => (h2.1 s a b c d).trans (h.1 s a b c d), fun j hj => ⟨((h2.2.1 j (by omega)).1).trans (h.2.1 j hj).1, ((h2.2.1 j (by omega)).2).trans (h.2.1 j hj).2⟩, fun j hj => ⟨((h2.2.2 j (by omega)).1).trans (h.2.2 j hj).1, ((h2.2.2 j (by omega)).2).trans (h.2.2 j hj).2⟩⟩
def rowsM (M : Ms) (rs : List (Int32 × List (Int32 × Int32))) : Prop := ∀ k fl cs, rs[k]? = some (fl, cs) → rowM (8 + k) M fl cs
theorem rowsM_snoc {M M' : Ms} {rs : List (Int32 × List (Int32 × Int32))} {fl : Int32} {cs : List (Int32 × Int32)} (h : rowsM M rs) (hk : ∀ r ∈ rs, ruleOK r) (hb : butR (8 + rs.length) M M') (hr : rowM (8 + rs.length) M' fl cs) : rowsM M' (rs ++ [(fl, cs)]) := by
  intro k fl' cs' hx
  by_cases hkl : k < rs.length
  · rw [List.getElem?_append_left hkl] at hx
    obtain ⟨q1, q2, q3⟩ := h k fl' cs' hx
    have hok := hk _ (List.mem_of_getElem? hx)
    refine ⟨((hb.2.1 (8 + k) (by omega)).1).trans q1, ((hb.2.1 (8 + k) (by omega)).2).trans q2, fun c x hc => ?_⟩
    have hcl : c < cs'.length := (List.getElem?_eq_some_iff.mp hc).1
    have := hok.2.1
    obtain ⟨e1, e2⟩ := hb.2.2 (4 * (8 + k) + c) (by simp only at this; omega)
    rw [e1, e2]
    exact q3 c x hc
  · rw [List.getElem?_append_right (by omega)] at hx
    have hz : k - rs.length < 1 := (List.getElem?_eq_some_iff.mp hx).1
    have hk0 : k = rs.length := by omega
    subst hk0
    rw [Nat.sub_self] at hx
    cases hx
    exact hr
def iv_X9_readAll (cy : Nat → ClassId) (P : Pm) : Nat → Nat → Option Sg
  | 0, 132 => some (sp_X9_blanks cy P)
  | 0, 168 => some (sp_X9_readRule cy P)
  | 0, 125 => some (sp_X9_isAt cy P)
  | _, _ => none
def sp_X9_readAll (cy : Nat → ClassId) (P : Pm) : Sg := mI 10 [] b0 (fun as σ K _ => match as with
  | [.ref m] => ∃ A I M L, MD cy σ m A I M ∧ I 21 = nI L ∧ L ≤ 400 ∧
      (∀ σ' I' M', ¬ (rdText (M 18) L).1 = -1 → MD cy σ' m A I' M' → I' 22 = (rdText (M 18) L).1 → SI I I' → upR M M' → K (some (.int (-1))) σ') ∧
      (∀ σ' I' M', (rdText (M 18) L).1 = -1 → MD cy σ' m A I' M' → SI I I' → upR M M' → rowsM M' (rdText (M 18) L).2 → K (some (.int (nI (rdText (M 18) L).2.length))) σ')
  | _ => False)
set_option maxRecDepth 8000 in
set_option maxHeartbeats 16000000 in
theorem m_X9_readAll (cy : Nat → ClassId) (P : Pm) (hP : PmOK P) : MOK (cl_X9 P) cy P.2.1 obj cX9_readAll (iv_X9_readAll cy P) (fun _ => none) (fun _ => some none) (some .int) 2 (sp_X9_readAll cy P) := by
  intro as σ K KX J hlen hT hJ hOld
  obtain ⟨-, -, hT⟩ := hT
  split at hT
  · rename_i m
    obtain ⟨A, I, M, L, hM, i21, hL, hX, hK⟩ := hT
    have nn : ∀ q, q ≤ 400 → ¬ nI q = -1 := fun q hq z => by
      have := nI_pos (n := q) (by omega)
      rw [z] at this
      exact absurd (by decide) this
    have key : ∀ (j k p1 : Nat) (dn : List (Int32 × List (Int32 × Int32))) (σ1 : Hp) (I1 : Nat → Int32) (M1 : Ms), 8 - k = j → k ≤ 8 → dn.length = k → (∀ r ∈ dn, ruleOK r) → MD cy σ1 m A I1 M1 → I1 20 = nI p1 → p1 ≤ L → SI I I1 → upR M M1 → rowsM M1 dn →
        rdText (M 18) L = ((rdAll (M 18) L j (adw isB (M 18) L p1)).1, dn ++ (rdAll (M 18) L j (adw isB (M 18) L p1)).2) → J 24 [some (.ref m), some (.int (nI k))] [] σ1 0 0 := by
      intro j
      induction j with
      | zero =>
        intro k p1 dn σ1 I1 M1 hj hk hdn hdk hM1 j20 hp1 hS hup hrows hR
        have hk8 : k = 8 := by omega
        have hm1 := hM1.1
        have j21 : I1 21 = nI L := (hS 21 (by decide) (by decide)).trans i21
        have e18 : M1 18 = M 18 := hup.1 18 (by decide) (by decide) (by decide) (by decide)
        have hal := adw_le (c := isB) (f := M 18) (L := L) _ p1 rfl hp1
        rw [rdAll] at hR
        rw [hR] at hX
        refine hJ (ct [24, 29]) 400 _ _ _ _ _ _ ((s_aload_n (pc' := 25) (i := 0) dX9_readAll_24 rfl rfl).mpr ?_)
        simp only [w_cut (cut := ct [24, 29]) (pc := 24) rfl, w_iload_n (cut := ct [24, 29]) (pc' := 26) (i := 1) rfl dX9_readAll_25 rfl rfl, w_invoke (inv := iv_X9_readAll cy P) (kd := 0) (f := 168) (g := sp_X9_readRule cy P) (cut := ct [24, 29]) rfl dX9_readAll_26 rfl (by decide) rfl, w_cut (cut := ct [24, 29]) (pc := 29) rfl, rsum, cg_int, cg_ref, cg_null, nby0, strd, mStr, onAL, true_imp_iff, false_imp_iff, not_true_eq_false, not_false_eq_true, Classical.not_not, eq_self, e10, e01, em1, Int32.reduceLT, Int32.reduceLE, onBoat, onGale, onOut, onPort, onRep, onWarn, yn, mI, mS, b0, okA, nb0, nb1, ini, List.map_cons, List.map_nil, List.replicate_zero, List.replicate_succ, List.append_nil, ldI, ldA, incK, oldK, castK, inv1, nwO, nwA, nwR, alen, ald, bald, ast, lald, last, rald, rast, goTo, nth, sto, setN, popN, okv, cat1_int, cat1_ref, cat1_null, cat1_rf, va_rf, hup_same, hup_hup, List.length_cons, List.length_nil, List.nil_append, List.cons_append, Option.toList, true_and, and_true, Nat.reduceAdd, Nat.reduceSub, Nat.reduceLT, Nat.reduceLeDiff, Nat.zero_le, Nat.sub_zero, Nat.zero_lt_succ, Nat.lt_add_left_iff_pos, Nat.succ_lt_succ_iff, rcM2, Nat.reduceEqDiff, reduceIte, iu, isMd_M, setTE_M, fI_6, fI_36, fI_0, fI_1, one_ne, zero_ne, true_or, or_true, gM_0, gM_1, gM_2, gM_3, gM_4, gM_5, gM_6, gM_7, gM_8, gM_9, gM_10, gM_11, gM_12, gM_13, gM_14, gM_15, gM_16, gM_17, gM_18, gM_19, gM_20, gM_21, gM_22, gM_23, gM_24, gM_25, gM_26, gM_27, gM_28, gM_29, gM_30, gM_31, gM_32, gM_33, gM_34, gM_35, gM_36, pM_0, pM_1, pM_6, pM_12, pM_17, pM_19, pM_20, pM_21, pM_22, pM_23, pM_26, pM_27, pM_28, pM_29, pM_34, pM_36, hm1, MD_rc hM1, sp_X9_readRule]
        refine ⟨A, I1, M1, p1, L, k, hM1, j20, j21, hp1, hL, rfl, hk, fun _ σ2 I2 hM2 k22 hS2 => ?_, fun h => absurd h (by omega)⟩
        rw [e18] at k22
        have := hX σ2 I2 M1 (nn _ (by omega)) hM2 k22 (SI_tr hS hS2) hup
        refine wp_of_S hJ (ct []) 400 _ _ _ _ _ _ ?_
        simp only [w_if_ne (cut := ct []) (pc' := 32) (t := 34) rfl dX9_readAll_29 rfl (by decide) rfl, w_iconst (cut := ct []) (pc' := 33) (v := (-1)) rfl dX9_readAll_32 rfl rfl, w_ireturnI (cut := ct []) rfl dX9_readAll_33 rfl, w_iinc (cut := ct []) (pc' := 37) (d := 1) rfl dX9_readAll_34 rfl rfl, rsum, cg_int, cg_ref, cg_null, nby0, strd, mStr, onAL, true_imp_iff, false_imp_iff, not_true_eq_false, not_false_eq_true, Classical.not_not, eq_self, e10, e01, em1, Int32.reduceLT, Int32.reduceLE, onBoat, onGale, onOut, onPort, onRep, onWarn, yn, mI, mS, b0, okA, nb0, nb1, ini, List.map_cons, List.map_nil, List.replicate_zero, List.replicate_succ, List.append_nil, ldI, ldA, incK, oldK, castK, inv1, nwO, nwA, nwR, alen, ald, bald, ast, lald, last, rald, rast, goTo, nth, sto, setN, popN, okv, cat1_int, cat1_ref, cat1_null, cat1_rf, va_rf, hup_same, hup_hup, List.length_cons, List.length_nil, List.nil_append, List.cons_append, Option.toList, true_and, and_true, Nat.reduceAdd, Nat.reduceSub, Nat.reduceLT, Nat.reduceLeDiff, Nat.zero_le, Nat.sub_zero, Nat.zero_lt_succ, Nat.lt_add_left_iff_pos, Nat.succ_lt_succ_iff, rcM2, Nat.reduceEqDiff, reduceIte, iu, isMd_M, setTE_M, fI_6, fI_36, fI_0, fI_1, one_ne, zero_ne, true_or, or_true, gM_0, gM_1, gM_2, gM_3, gM_4, gM_5, gM_6, gM_7, gM_8, gM_9, gM_10, gM_11, gM_12, gM_13, gM_14, gM_15, gM_16, gM_17, gM_18, gM_19, gM_20, gM_21, gM_22, gM_23, gM_24, gM_25, gM_26, gM_27, gM_28, gM_29, gM_30, gM_31, gM_32, gM_33, gM_34, gM_35, gM_36, pM_0, pM_1, pM_6, pM_12, pM_17, pM_19, pM_20, pM_21, pM_22, pM_23, pM_26, pM_27, pM_28, pM_29, pM_34, pM_36]
        exact this
      | succ j ih =>
        intro k p1 dn σ1 I1 M1 hj hk hdn hdk hM1 j20 hp1 hS hup hrows hR
        have hm1 := hM1.1
        have j21 : I1 21 = nI L := (hS 21 (by decide) (by decide)).trans i21
        have e18 : M1 18 = M 18 := hup.1 18 (by decide) (by decide) (by decide) (by decide)
        have hal := adw_le (c := isB) (f := M 18) (L := L) _ p1 rfl hp1
        have hrok := rdRule_ok (f := M 18) hal.2
        rw [rdAll] at hR
        refine hJ (ct [24, 29]) 400 _ _ _ _ _ _ ((s_aload_n (pc' := 25) (i := 0) dX9_readAll_24 rfl rfl).mpr ?_)
        simp only [w_cut (cut := ct [24, 29]) (pc := 24) rfl, w_iload_n (cut := ct [24, 29]) (pc' := 26) (i := 1) rfl dX9_readAll_25 rfl rfl, w_invoke (inv := iv_X9_readAll cy P) (kd := 0) (f := 168) (g := sp_X9_readRule cy P) (cut := ct [24, 29]) rfl dX9_readAll_26 rfl (by decide) rfl, w_cut (cut := ct [24, 29]) (pc := 29) rfl, rsum, cg_int, cg_ref, cg_null, nby0, strd, mStr, onAL, true_imp_iff, false_imp_iff, not_true_eq_false, not_false_eq_true, Classical.not_not, eq_self, e10, e01, em1, Int32.reduceLT, Int32.reduceLE, onBoat, onGale, onOut, onPort, onRep, onWarn, yn, mI, mS, b0, okA, nb0, nb1, ini, List.map_cons, List.map_nil, List.replicate_zero, List.replicate_succ, List.append_nil, ldI, ldA, incK, oldK, castK, inv1, nwO, nwA, nwR, alen, ald, bald, ast, lald, last, rald, rast, goTo, nth, sto, setN, popN, okv, cat1_int, cat1_ref, cat1_null, cat1_rf, va_rf, hup_same, hup_hup, List.length_cons, List.length_nil, List.nil_append, List.cons_append, Option.toList, true_and, and_true, Nat.reduceAdd, Nat.reduceSub, Nat.reduceLT, Nat.reduceLeDiff, Nat.zero_le, Nat.sub_zero, Nat.zero_lt_succ, Nat.lt_add_left_iff_pos, Nat.succ_lt_succ_iff, rcM2, Nat.reduceEqDiff, reduceIte, iu, isMd_M, setTE_M, fI_6, fI_36, fI_0, fI_1, one_ne, zero_ne, true_or, or_true, gM_0, gM_1, gM_2, gM_3, gM_4, gM_5, gM_6, gM_7, gM_8, gM_9, gM_10, gM_11, gM_12, gM_13, gM_14, gM_15, gM_16, gM_17, gM_18, gM_19, gM_20, gM_21, gM_22, gM_23, gM_24, gM_25, gM_26, gM_27, gM_28, gM_29, gM_30, gM_31, gM_32, gM_33, gM_34, gM_35, gM_36, pM_0, pM_1, pM_6, pM_12, pM_17, pM_19, pM_20, pM_21, pM_22, pM_23, pM_26, pM_27, pM_28, pM_29, pM_34, pM_36, hm1, MD_rc hM1, sp_X9_readRule]
        refine ⟨A, I1, M1, p1, L, k, hM1, j20, j21, hp1, hL, rfl, hk, fun h => absurd h (by omega), fun _ => ⟨fun σ2 I2 M2 hM2 k22 hS2 hbut hwhy => ?_, fun σ2 I2 M2 fl cs p2 hr hM2 k20 hp2 hq2 hS2 hbut hrow => ?_⟩⟩
        · rw [e18] at k22 hwhy
          cases hrr : rdRule (M 18) L (adw isB (M 18) L p1) with
          | mk q o =>
            rw [hrr] at hR k22 hwhy hrok
            have hq : q ≤ L := hrok.1
            have hR1 : (rdText (M 18) L).1 = nI q := by
              cases o with
              | none => rw [hR]
              | some r =>
                rcases hwhy with z | z
                · cases z
                · have hwe := wd_end z
                  have hl := adw_le (c := isIn 97 122) (f := M 18) (L := L) _ q rfl hq
                  have h3 := (txt_len 6 (by decide)).2
                  dsimp only at hwe hl
                  have hqL : q < L := by omega
                  have hg := (isWdb_iff.mp z).2 0 (by decide)
                  have hb : ¬ bt (M 18) L q = 59 := by
                    unfold bt
                    rw [if_pos hqL]
                    intro z9
                    rw [show q + 0 = q from rfl, z9] at hg
                    exact absurd hg (by decide)
                  dsimp only at hR
                  rw [if_neg (by omega), if_neg hb] at hR
                  rw [hR]
            rw [hR1] at hX
            have := hX σ2 I2 M2 (nn _ (by omega)) hM2 k22 (SI_tr hS hS2) (upR_but hup hbut)
            refine wp_of_S hJ (ct []) 400 _ _ _ _ _ _ ?_
            simp only [w_if_ne (cut := ct []) (pc' := 32) (t := 34) rfl dX9_readAll_29 rfl (by decide) rfl, w_iconst (cut := ct []) (pc' := 33) (v := (-1)) rfl dX9_readAll_32 rfl rfl, w_ireturnI (cut := ct []) rfl dX9_readAll_33 rfl, w_iinc (cut := ct []) (pc' := 37) (d := 1) rfl dX9_readAll_34 rfl rfl, rsum, cg_int, cg_ref, cg_null, nby0, strd, mStr, onAL, true_imp_iff, false_imp_iff, not_true_eq_false, not_false_eq_true, Classical.not_not, eq_self, e10, e01, em1, Int32.reduceLT, Int32.reduceLE, onBoat, onGale, onOut, onPort, onRep, onWarn, yn, mI, mS, b0, okA, nb0, nb1, ini, List.map_cons, List.map_nil, List.replicate_zero, List.replicate_succ, List.append_nil, ldI, ldA, incK, oldK, castK, inv1, nwO, nwA, nwR, alen, ald, bald, ast, lald, last, rald, rast, goTo, nth, sto, setN, popN, okv, cat1_int, cat1_ref, cat1_null, cat1_rf, va_rf, hup_same, hup_hup, List.length_cons, List.length_nil, List.nil_append, List.cons_append, Option.toList, true_and, and_true, Nat.reduceAdd, Nat.reduceSub, Nat.reduceLT, Nat.reduceLeDiff, Nat.zero_le, Nat.sub_zero, Nat.zero_lt_succ, Nat.lt_add_left_iff_pos, Nat.succ_lt_succ_iff, rcM2, Nat.reduceEqDiff, reduceIte, iu, isMd_M, setTE_M, fI_6, fI_36, fI_0, fI_1, one_ne, zero_ne, true_or, or_true, gM_0, gM_1, gM_2, gM_3, gM_4, gM_5, gM_6, gM_7, gM_8, gM_9, gM_10, gM_11, gM_12, gM_13, gM_14, gM_15, gM_16, gM_17, gM_18, gM_19, gM_20, gM_21, gM_22, gM_23, gM_24, gM_25, gM_26, gM_27, gM_28, gM_29, gM_30, gM_31, gM_32, gM_33, gM_34, gM_35, gM_36, pM_0, pM_1, pM_6, pM_12, pM_17, pM_19, pM_20, pM_21, pM_22, pM_23, pM_26, pM_27, pM_28, pM_29, pM_34, pM_36]
            exact this
        · rw [e18] at hr hq2
          cases hrr : rdRule (M 18) L (adw isB (M 18) L p1) with
          | mk q o =>
            rw [hrr] at hR hr hq2 hrok
            cases hr
            dsimp only at hR hq2 hrok
            have hq : q ≤ L := hrok.1
            have hup2 := upR_but hup hbut
            have e18b : M2 18 = M 18 := hup2.1 18 (by decide) (by decide) (by decide) (by decide)
            rw [← hdn] at hbut hrow
            have hrows2 := rowsM_snoc hrows hdk hbut hrow
            have hdk2 : ∀ r ∈ dn ++ [(fl, cs)], ruleOK r := fun r hr => by
              rcases List.mem_append.mp hr with h | h
              · exact hdk r h
              · rw [List.mem_singleton.mp h]; exact hrok.2 _ rfl
            have hm2 := hM2.1
            have hS3 := SI_tr hS hS2
            have k21 : I2 21 = nI L := (hS3 21 (by decide) (by decide)).trans i21
            have hnx : nI k + 1 = nI (k + 1) := nI_1 k
            refine wp_of_S hJ (ct [41]) 400 _ _ _ _ _ _ ?_
            simp only [w_if_ne (cut := ct [41]) (pc' := 32) (t := 34) rfl dX9_readAll_29 rfl (by decide) rfl, w_iconst (cut := ct [41]) (pc' := 33) (v := (-1)) rfl dX9_readAll_32 rfl rfl, w_ireturnI (cut := ct [41]) rfl dX9_readAll_33 rfl, w_iinc (cut := ct [41]) (pc' := 37) (d := 1) rfl dX9_readAll_34 rfl rfl, w_aload_n (cut := ct [41]) (pc' := 38) (i := 0) rfl dX9_readAll_37 rfl rfl, w_invoke (inv := iv_X9_readAll cy P) (kd := 0) (f := 132) (g := sp_X9_blanks cy P) (cut := ct [41]) rfl dX9_readAll_38 rfl (by decide) rfl, w_cut (cut := ct [41]) (pc := 41) rfl, rsum, cg_int, cg_ref, cg_null, nby0, strd, mStr, onAL, true_imp_iff, false_imp_iff, not_true_eq_false, not_false_eq_true, Classical.not_not, eq_self, e10, e01, em1, Int32.reduceLT, Int32.reduceLE, onBoat, onGale, onOut, onPort, onRep, onWarn, yn, mI, mS, b0, okA, nb0, nb1, ini, List.map_cons, List.map_nil, List.replicate_zero, List.replicate_succ, List.append_nil, ldI, ldA, incK, oldK, castK, inv1, nwO, nwA, nwR, alen, ald, bald, ast, lald, last, rald, rast, goTo, nth, sto, setN, popN, okv, cat1_int, cat1_ref, cat1_null, cat1_rf, va_rf, hup_same, hup_hup, List.length_cons, List.length_nil, List.nil_append, List.cons_append, Option.toList, true_and, and_true, Nat.reduceAdd, Nat.reduceSub, Nat.reduceLT, Nat.reduceLeDiff, Nat.zero_le, Nat.sub_zero, Nat.zero_lt_succ, Nat.lt_add_left_iff_pos, Nat.succ_lt_succ_iff, rcM2, Nat.reduceEqDiff, reduceIte, iu, isMd_M, setTE_M, fI_6, fI_36, fI_0, fI_1, one_ne, zero_ne, true_or, or_true, gM_0, gM_1, gM_2, gM_3, gM_4, gM_5, gM_6, gM_7, gM_8, gM_9, gM_10, gM_11, gM_12, gM_13, gM_14, gM_15, gM_16, gM_17, gM_18, gM_19, gM_20, gM_21, gM_22, gM_23, gM_24, gM_25, gM_26, gM_27, gM_28, gM_29, gM_30, gM_31, gM_32, gM_33, gM_34, gM_35, gM_36, pM_0, pM_1, pM_6, pM_12, pM_17, pM_19, pM_20, pM_21, pM_22, pM_23, pM_26, pM_27, pM_28, pM_29, pM_34, pM_36, hm2, MD_rc hM2, hnx, sp_X9_blanks]
            refine ⟨A, I2, M2, p2, L, hM2, k20, k21, hp2, hL, fun σ4 I4 hM4 l20 l22 hS4 => ?_⟩
            rw [e18b, hq2] at l20 l22
            have hm4 := hM4.1
            have hS5 := SI_tr hS3 hS4
            have l21 : I4 21 = nI L := (hS5 21 (by decide) (by decide)).trans i21
            by_cases hqL : q = L
            · rw [if_pos hqL] at hR
              have eL : (nI q = nI L) = True := eq_true (by rw [hqL])
              rw [hR] at hK
              have := hK σ4 I4 M2 rfl hM4 hS5 hup2 hrows2
              rw [List.length_append, hdn] at this
              refine wp_of_S hJ (ct []) 400 _ _ _ _ _ _ ?_
              simp only [w_aload_n (cut := ct []) (pc' := 42) (i := 0) rfl dX9_readAll_41 rfl rfl, w_getfield (cut := ct []) (pc' := 45) rfl dX9_readAll_42 rfl (q_X9_f119 P), w_aload_n (cut := ct []) (pc' := 46) (i := 0) rfl dX9_readAll_45 rfl rfl, w_getfield (cut := ct []) (pc' := 49) rfl dX9_readAll_46 rfl (q_X9_f122 P), w_icmp_ne (cut := ct []) (pc' := 52) (t := 54) rfl dX9_readAll_49 rfl (by decide) rfl, w_iload_n (cut := ct []) (pc' := 53) (i := 1) rfl dX9_readAll_52 rfl rfl, w_ireturnI (cut := ct []) rfl dX9_readAll_53 rfl, w_aload_n (cut := ct []) (pc' := 55) (i := 0) rfl dX9_readAll_54 rfl rfl, rsum, cg_int, cg_ref, cg_null, nby0, strd, mStr, onAL, true_imp_iff, false_imp_iff, not_true_eq_false, not_false_eq_true, Classical.not_not, eq_self, e10, e01, em1, Int32.reduceLT, Int32.reduceLE, onBoat, onGale, onOut, onPort, onRep, onWarn, yn, mI, mS, b0, okA, nb0, nb1, ini, List.map_cons, List.map_nil, List.replicate_zero, List.replicate_succ, List.append_nil, ldI, ldA, incK, oldK, castK, inv1, nwO, nwA, nwR, alen, ald, bald, ast, lald, last, rald, rast, goTo, nth, sto, setN, popN, okv, cat1_int, cat1_ref, cat1_null, cat1_rf, va_rf, hup_same, hup_hup, List.length_cons, List.length_nil, List.nil_append, List.cons_append, Option.toList, true_and, and_true, Nat.reduceAdd, Nat.reduceSub, Nat.reduceLT, Nat.reduceLeDiff, Nat.zero_le, Nat.sub_zero, Nat.zero_lt_succ, Nat.lt_add_left_iff_pos, Nat.succ_lt_succ_iff, rcM2, Nat.reduceEqDiff, reduceIte, iu, isMd_M, setTE_M, fI_6, fI_36, fI_0, fI_1, one_ne, zero_ne, true_or, or_true, gM_0, gM_1, gM_2, gM_3, gM_4, gM_5, gM_6, gM_7, gM_8, gM_9, gM_10, gM_11, gM_12, gM_13, gM_14, gM_15, gM_16, gM_17, gM_18, gM_19, gM_20, gM_21, gM_22, gM_23, gM_24, gM_25, gM_26, gM_27, gM_28, gM_29, gM_30, gM_31, gM_32, gM_33, gM_34, gM_35, gM_36, pM_0, pM_1, pM_6, pM_12, pM_17, pM_19, pM_20, pM_21, pM_22, pM_23, pM_26, pM_27, pM_28, pM_29, pM_34, pM_36, hm4, l20, l21, eL]
              exact this
            · rw [if_neg hqL] at hR
              have eL : (nI q = nI L) = False := eq_false (fun z => hqL ((nI_eq (by omega) (by omega)).mp z))
              refine wp_of_S hJ (ct [62]) 400 _ _ _ _ _ _ ?_
              simp only [w_aload_n (cut := ct [62]) (pc' := 42) (i := 0) rfl dX9_readAll_41 rfl rfl, w_getfield (cut := ct [62]) (pc' := 45) rfl dX9_readAll_42 rfl (q_X9_f119 P), w_aload_n (cut := ct [62]) (pc' := 46) (i := 0) rfl dX9_readAll_45 rfl rfl, w_getfield (cut := ct [62]) (pc' := 49) rfl dX9_readAll_46 rfl (q_X9_f122 P), w_icmp_ne (cut := ct [62]) (pc' := 52) (t := 54) rfl dX9_readAll_49 rfl (by decide) rfl, w_iload_n (cut := ct [62]) (pc' := 53) (i := 1) rfl dX9_readAll_52 rfl rfl, w_ireturnI (cut := ct [62]) rfl dX9_readAll_53 rfl, w_aload_n (cut := ct [62]) (pc' := 55) (i := 0) rfl dX9_readAll_54 rfl rfl, w_bipush (cut := ct [62]) (pc' := 57) (v := 59) rfl dX9_readAll_55 rfl rfl, w_bipush (cut := ct [62]) (pc' := 59) (v := 59) rfl dX9_readAll_57 rfl rfl, w_invoke (inv := iv_X9_readAll cy P) (kd := 0) (f := 125) (g := sp_X9_isAt cy P) (cut := ct [62]) rfl dX9_readAll_59 rfl (by decide) rfl, w_cut (cut := ct [62]) (pc := 62) rfl, rsum, cg_int, cg_ref, cg_null, nby0, strd, mStr, onAL, true_imp_iff, false_imp_iff, not_true_eq_false, not_false_eq_true, Classical.not_not, eq_self, e10, e01, em1, Int32.reduceLT, Int32.reduceLE, onBoat, onGale, onOut, onPort, onRep, onWarn, yn, mI, mS, b0, okA, nb0, nb1, ini, List.map_cons, List.map_nil, List.replicate_zero, List.replicate_succ, List.append_nil, ldI, ldA, incK, oldK, castK, inv1, nwO, nwA, nwR, alen, ald, bald, ast, lald, last, rald, rast, goTo, nth, sto, setN, popN, okv, cat1_int, cat1_ref, cat1_null, cat1_rf, va_rf, hup_same, hup_hup, List.length_cons, List.length_nil, List.nil_append, List.cons_append, Option.toList, true_and, and_true, Nat.reduceAdd, Nat.reduceSub, Nat.reduceLT, Nat.reduceLeDiff, Nat.zero_le, Nat.sub_zero, Nat.zero_lt_succ, Nat.lt_add_left_iff_pos, Nat.succ_lt_succ_iff, rcM2, Nat.reduceEqDiff, reduceIte, iu, isMd_M, setTE_M, fI_6, fI_36, fI_0, fI_1, one_ne, zero_ne, true_or, or_true, gM_0, gM_1, gM_2, gM_3, gM_4, gM_5, gM_6, gM_7, gM_8, gM_9, gM_10, gM_11, gM_12, gM_13, gM_14, gM_15, gM_16, gM_17, gM_18, gM_19, gM_20, gM_21, gM_22, gM_23, gM_24, gM_25, gM_26, gM_27, gM_28, gM_29, gM_30, gM_31, gM_32, gM_33, gM_34, gM_35, gM_36, pM_0, pM_1, pM_6, pM_12, pM_17, pM_19, pM_20, pM_21, pM_22, pM_23, pM_26, pM_27, pM_28, pM_29, pM_34, pM_36, hm4, MD_rc hM4, l20, l21, eL, sp_X9_isAt]
              refine ⟨A, I4, M2, q, L, hM4, l20, l21, hq, hL, fun g => ?_, fun g => ?_⟩
              · rw [isIn1, e18b] at g
                have hb : bt (M 18) L q = 59 := by unfold bt; rw [if_pos g.1]; exact g.2
                rw [if_pos hb] at hR
                have hn1 : nI q + 1 = nI (q + 1) := nI_1 q
                have := ih (k + 1) (q + 1) (dn ++ [(fl, cs)]) _ (iu I4 20 (nI (q + 1))) M2 (by omega) (by omega) (by simp [hdn]) hdk2 (MD_set hM4) rfl (by omega) (SI_20 hS5) hup2 hrows2 (by rw [hR]; simp)
                refine wp_of_S hJ (ct [24]) 400 _ _ _ _ _ _ ?_
                simp only [w_cut (cut := ct [24]) (pc := 24) rfl, w_if_ne (cut := ct [24]) (pc' := 65) (t := 67) rfl dX9_readAll_62 rfl (by decide) rfl, w_iconst (cut := ct [24]) (pc' := 66) (v := (-1)) rfl dX9_readAll_65 rfl rfl, w_ireturnI (cut := ct [24]) rfl dX9_readAll_66 rfl, w_aload_n (cut := ct [24]) (pc' := 68) (i := 0) rfl dX9_readAll_67 rfl rfl, w_dup (cut := ct [24]) (pc' := 69) rfl dX9_readAll_68 rfl, w_getfield (cut := ct [24]) (pc' := 72) rfl dX9_readAll_69 rfl (q_X9_f119 P), w_iconst (cut := ct [24]) (pc' := 73) (v := 1) rfl dX9_readAll_72 rfl rfl, w_iadd (cut := ct [24]) (pc' := 74) rfl dX9_readAll_73 rfl, w_putfield (cut := ct [24]) (pc' := 77) rfl dX9_readAll_74 rfl (q_X9_f119 P), w_goto (cut := ct [24]) (t := 24) rfl dX9_readAll_77 (by decide) rfl, rsum, cg_int, cg_ref, cg_null, nby0, strd, mStr, onAL, true_imp_iff, false_imp_iff, not_true_eq_false, not_false_eq_true, Classical.not_not, eq_self, e10, e01, em1, Int32.reduceLT, Int32.reduceLE, onBoat, onGale, onOut, onPort, onRep, onWarn, yn, mI, mS, b0, okA, nb0, nb1, ini, List.map_cons, List.map_nil, List.replicate_zero, List.replicate_succ, List.append_nil, ldI, ldA, incK, oldK, castK, inv1, nwO, nwA, nwR, alen, ald, bald, ast, lald, last, rald, rast, goTo, nth, sto, setN, popN, okv, cat1_int, cat1_ref, cat1_null, cat1_rf, va_rf, hup_same, hup_hup, List.length_cons, List.length_nil, List.nil_append, List.cons_append, Option.toList, true_and, and_true, Nat.reduceAdd, Nat.reduceSub, Nat.reduceLT, Nat.reduceLeDiff, Nat.zero_le, Nat.sub_zero, Nat.zero_lt_succ, Nat.lt_add_left_iff_pos, Nat.succ_lt_succ_iff, rcM2, Nat.reduceEqDiff, reduceIte, iu, isMd_M, setTE_M, fI_6, fI_36, fI_0, fI_1, one_ne, zero_ne, true_or, or_true, gM_0, gM_1, gM_2, gM_3, gM_4, gM_5, gM_6, gM_7, gM_8, gM_9, gM_10, gM_11, gM_12, gM_13, gM_14, gM_15, gM_16, gM_17, gM_18, gM_19, gM_20, gM_21, gM_22, gM_23, gM_24, gM_25, gM_26, gM_27, gM_28, gM_29, gM_30, gM_31, gM_32, gM_33, gM_34, gM_35, gM_36, pM_0, pM_1, pM_6, pM_12, pM_17, pM_19, pM_20, pM_21, pM_22, pM_23, pM_26, pM_27, pM_28, pM_29, pM_34, pM_36, hm4, l20, hn1]
                exact this
              · rw [isIn1, e18b] at g
                have hb : ¬ bt (M 18) L q = 59 := fun z => g ⟨bt_lt z (by decide), by have h9 := z; unfold bt at h9; rw [if_pos (bt_lt z (by decide))] at h9; exact h9⟩
                rw [if_neg hb] at hR
                rw [hR] at hX
                have := hX σ4 I4 M2 (nn _ (by omega)) hM4 l22 hS5 hup2
                refine wp_of_S hJ (ct []) 400 _ _ _ _ _ _ ?_
                simp only [w_if_ne (cut := ct []) (pc' := 65) (t := 67) rfl dX9_readAll_62 rfl (by decide) rfl, w_iconst (cut := ct []) (pc' := 66) (v := (-1)) rfl dX9_readAll_65 rfl rfl, w_ireturnI (cut := ct []) rfl dX9_readAll_66 rfl, w_aload_n (cut := ct []) (pc' := 68) (i := 0) rfl dX9_readAll_67 rfl rfl, rsum, cg_int, cg_ref, cg_null, nby0, strd, mStr, onAL, true_imp_iff, false_imp_iff, not_true_eq_false, not_false_eq_true, Classical.not_not, eq_self, e10, e01, em1, Int32.reduceLT, Int32.reduceLE, onBoat, onGale, onOut, onPort, onRep, onWarn, yn, mI, mS, b0, okA, nb0, nb1, ini, List.map_cons, List.map_nil, List.replicate_zero, List.replicate_succ, List.append_nil, ldI, ldA, incK, oldK, castK, inv1, nwO, nwA, nwR, alen, ald, bald, ast, lald, last, rald, rast, goTo, nth, sto, setN, popN, okv, cat1_int, cat1_ref, cat1_null, cat1_rf, va_rf, hup_same, hup_hup, List.length_cons, List.length_nil, List.nil_append, List.cons_append, Option.toList, true_and, and_true, Nat.reduceAdd, Nat.reduceSub, Nat.reduceLT, Nat.reduceLeDiff, Nat.zero_le, Nat.sub_zero, Nat.zero_lt_succ, Nat.lt_add_left_iff_pos, Nat.succ_lt_succ_iff, rcM2, Nat.reduceEqDiff, reduceIte, iu, isMd_M, setTE_M, fI_6, fI_36, fI_0, fI_1, one_ne, zero_ne, true_or, or_true, gM_0, gM_1, gM_2, gM_3, gM_4, gM_5, gM_6, gM_7, gM_8, gM_9, gM_10, gM_11, gM_12, gM_13, gM_14, gM_15, gM_16, gM_17, gM_18, gM_19, gM_20, gM_21, gM_22, gM_23, gM_24, gM_25, gM_26, gM_27, gM_28, gM_29, gM_30, gM_31, gM_32, gM_33, gM_34, gM_35, gM_36, pM_0, pM_1, pM_6, pM_12, pM_17, pM_19, pM_20, pM_21, pM_22, pM_23, pM_26, pM_27, pM_28, pM_29, pM_34, pM_36]
                exact this
    have hm := hM.1
    have hM1 := MD_set (I' := iu I 20 0) hM
    refine wp_of_S hJ (ct [9]) 400 _ _ _ _ _ _ ?_
    simp only [w_aload_n (cut := ct [9]) (pc' := 1) (i := 0) rfl dX9_readAll_0 rfl rfl, w_iconst (cut := ct [9]) (pc' := 2) (v := 0) rfl dX9_readAll_1 rfl rfl, w_putfield (cut := ct [9]) (pc' := 5) rfl dX9_readAll_2 rfl (q_X9_f119 P), w_aload_n (cut := ct [9]) (pc' := 6) (i := 0) rfl dX9_readAll_5 rfl rfl, w_invoke (inv := iv_X9_readAll cy P) (kd := 0) (f := 132) (g := sp_X9_blanks cy P) (cut := ct [9]) rfl dX9_readAll_6 rfl (by decide) rfl, w_cut (cut := ct [9]) (pc := 9) rfl, rsum, cg_int, cg_ref, cg_null, nby0, strd, mStr, onAL, true_imp_iff, false_imp_iff, not_true_eq_false, not_false_eq_true, Classical.not_not, eq_self, e10, e01, em1, Int32.reduceLT, Int32.reduceLE, onBoat, onGale, onOut, onPort, onRep, onWarn, yn, mI, mS, b0, okA, nb0, nb1, ini, List.map_cons, List.map_nil, List.replicate_zero, List.replicate_succ, List.append_nil, ldI, ldA, incK, oldK, castK, inv1, nwO, nwA, nwR, alen, ald, bald, ast, lald, last, rald, rast, goTo, nth, sto, setN, popN, okv, cat1_int, cat1_ref, cat1_null, cat1_rf, va_rf, hup_same, hup_hup, List.length_cons, List.length_nil, List.nil_append, List.cons_append, Option.toList, true_and, and_true, Nat.reduceAdd, Nat.reduceSub, Nat.reduceLT, Nat.reduceLeDiff, Nat.zero_le, Nat.sub_zero, Nat.zero_lt_succ, Nat.lt_add_left_iff_pos, Nat.succ_lt_succ_iff, rcM2, Nat.reduceEqDiff, reduceIte, iu, isMd_M, setTE_M, fI_6, fI_36, fI_0, fI_1, one_ne, zero_ne, true_or, or_true, gM_0, gM_1, gM_2, gM_3, gM_4, gM_5, gM_6, gM_7, gM_8, gM_9, gM_10, gM_11, gM_12, gM_13, gM_14, gM_15, gM_16, gM_17, gM_18, gM_19, gM_20, gM_21, gM_22, gM_23, gM_24, gM_25, gM_26, gM_27, gM_28, gM_29, gM_30, gM_31, gM_32, gM_33, gM_34, gM_35, gM_36, pM_0, pM_1, pM_6, pM_12, pM_17, pM_19, pM_20, pM_21, pM_22, pM_23, pM_26, pM_27, pM_28, pM_29, pM_34, pM_36, sp_X9_readAll, hm, sp_X9_blanks]
    refine ⟨A, iu I 20 0, M, 0, L, hM1, rfl, i21, Nat.zero_le _, hL, fun σ1 I1 hM2 j20 j22 hS => ?_⟩
    have hal := adw_le (c := isB) (f := M 18) (L := L) _ 0 rfl (Nat.zero_le _)
    have hS2 := SI_tr (SI_20 (v := 0) (SI_rf (I := I))) hS
    have hm2 := hM2.1
    have j21 : I1 21 = nI L := (hS2 21 (by decide) (by decide)).trans i21
    by_cases hqL : adw isB (M 18) L 0 = L
    · have hR : rdText (M 18) L = (-1, []) := by unfold rdText; rw [if_pos hqL]
      have eL : (nI (adw isB (M 18) L 0) = nI L) = True := eq_true (by rw [hqL])
      rw [hR] at hK
      have := hK σ1 I1 M rfl hM2 hS2 upR_rf (fun k _ _ hk => by cases hk)
      refine wp_of_S hJ (ct []) 400 _ _ _ _ _ _ ?_
      simp only [w_aload_n (cut := ct []) (pc' := 10) (i := 0) rfl dX9_readAll_9 rfl rfl, w_getfield (cut := ct []) (pc' := 13) rfl dX9_readAll_10 rfl (q_X9_f119 P), w_aload_n (cut := ct []) (pc' := 14) (i := 0) rfl dX9_readAll_13 rfl rfl, w_getfield (cut := ct []) (pc' := 17) rfl dX9_readAll_14 rfl (q_X9_f122 P), w_icmp_ne (cut := ct []) (pc' := 20) (t := 22) rfl dX9_readAll_17 rfl (by decide) rfl, w_iconst (cut := ct []) (pc' := 21) (v := 0) rfl dX9_readAll_20 rfl rfl, w_ireturnI (cut := ct []) rfl dX9_readAll_21 rfl, w_iconst (cut := ct []) (pc' := 23) (v := 0) rfl dX9_readAll_22 rfl rfl, rsum, cg_int, cg_ref, cg_null, nby0, strd, mStr, onAL, true_imp_iff, false_imp_iff, not_true_eq_false, not_false_eq_true, Classical.not_not, eq_self, e10, e01, em1, Int32.reduceLT, Int32.reduceLE, onBoat, onGale, onOut, onPort, onRep, onWarn, yn, mI, mS, b0, okA, nb0, nb1, ini, List.map_cons, List.map_nil, List.replicate_zero, List.replicate_succ, List.append_nil, ldI, ldA, incK, oldK, castK, inv1, nwO, nwA, nwR, alen, ald, bald, ast, lald, last, rald, rast, goTo, nth, sto, setN, popN, okv, cat1_int, cat1_ref, cat1_null, cat1_rf, va_rf, hup_same, hup_hup, List.length_cons, List.length_nil, List.nil_append, List.cons_append, Option.toList, true_and, and_true, Nat.reduceAdd, Nat.reduceSub, Nat.reduceLT, Nat.reduceLeDiff, Nat.zero_le, Nat.sub_zero, Nat.zero_lt_succ, Nat.lt_add_left_iff_pos, Nat.succ_lt_succ_iff, rcM2, Nat.reduceEqDiff, reduceIte, iu, isMd_M, setTE_M, fI_6, fI_36, fI_0, fI_1, one_ne, zero_ne, true_or, or_true, gM_0, gM_1, gM_2, gM_3, gM_4, gM_5, gM_6, gM_7, gM_8, gM_9, gM_10, gM_11, gM_12, gM_13, gM_14, gM_15, gM_16, gM_17, gM_18, gM_19, gM_20, gM_21, gM_22, gM_23, gM_24, gM_25, gM_26, gM_27, gM_28, gM_29, gM_30, gM_31, gM_32, gM_33, gM_34, gM_35, gM_36, pM_0, pM_1, pM_6, pM_12, pM_17, pM_19, pM_20, pM_21, pM_22, pM_23, pM_26, pM_27, pM_28, pM_29, pM_34, pM_36, hm2, j20, j21, eL]
      exact this
    · have hR : rdText (M 18) L = rdAll (M 18) L 8 (adw isB (M 18) L 0) := by unfold rdText; rw [if_neg hqL]
      have eL : (nI (adw isB (M 18) L 0) = nI L) = False := eq_false (fun z => hqL ((nI_eq (by omega) (by omega)).mp z))
      have idem : adw isB (M 18) L (adw isB (M 18) L 0) = adw isB (M 18) L 0 := by
        have : ∀ (r p : Nat), L - p = r → p ≤ L → adw isB (M 18) L (adw isB (M 18) L p) = adw isB (M 18) L p := by
          intro r
          induction r with
          | zero => intro p h1 h2; rw [adw_no (p := p) (by omega), adw_no (by omega)]
          | succ r ih =>
            intro p h1 h2
            by_cases h : p < L ∧ isB (M 18 p) = true
            · rw [adw_go h.1 h.2]; exact ih (p + 1) (by omega) (by omega)
            · rw [adw_no h, adw_no h]
        exact this _ 0 rfl (Nat.zero_le _)
      have := key 8 0 (adw isB (M 18) L 0) [] σ1 I1 M rfl (by decide) rfl (fun r hr => nomatch hr) hM2 j20 hal.2 hS2 upR_rf (fun k _ _ hk => by cases hk) (by rw [idem, hR]; rfl)
      refine wp_of_S hJ (ct [24]) 400 _ _ _ _ _ _ ?_
      simp only [w_aload_n (cut := ct [24]) (pc' := 10) (i := 0) rfl dX9_readAll_9 rfl rfl, w_getfield (cut := ct [24]) (pc' := 13) rfl dX9_readAll_10 rfl (q_X9_f119 P), w_aload_n (cut := ct [24]) (pc' := 14) (i := 0) rfl dX9_readAll_13 rfl rfl, w_getfield (cut := ct [24]) (pc' := 17) rfl dX9_readAll_14 rfl (q_X9_f122 P), w_icmp_ne (cut := ct [24]) (pc' := 20) (t := 22) rfl dX9_readAll_17 rfl (by decide) rfl, w_iconst (cut := ct [24]) (pc' := 21) (v := 0) rfl dX9_readAll_20 rfl rfl, w_ireturnI (cut := ct [24]) rfl dX9_readAll_21 rfl, w_iconst (cut := ct [24]) (pc' := 23) (v := 0) rfl dX9_readAll_22 rfl rfl, w_istore_n (cut := ct [24]) (pc' := 24) (i := 1) rfl dX9_readAll_23 rfl rfl, w_cut (cut := ct [24]) (pc := 24) rfl, rsum, cg_int, cg_ref, cg_null, nby0, strd, mStr, onAL, true_imp_iff, false_imp_iff, not_true_eq_false, not_false_eq_true, Classical.not_not, eq_self, e10, e01, em1, Int32.reduceLT, Int32.reduceLE, onBoat, onGale, onOut, onPort, onRep, onWarn, yn, mI, mS, b0, okA, nb0, nb1, ini, List.map_cons, List.map_nil, List.replicate_zero, List.replicate_succ, List.append_nil, ldI, ldA, incK, oldK, castK, inv1, nwO, nwA, nwR, alen, ald, bald, ast, lald, last, rald, rast, goTo, nth, sto, setN, popN, okv, cat1_int, cat1_ref, cat1_null, cat1_rf, va_rf, hup_same, hup_hup, List.length_cons, List.length_nil, List.nil_append, List.cons_append, Option.toList, true_and, and_true, Nat.reduceAdd, Nat.reduceSub, Nat.reduceLT, Nat.reduceLeDiff, Nat.zero_le, Nat.sub_zero, Nat.zero_lt_succ, Nat.lt_add_left_iff_pos, Nat.succ_lt_succ_iff, rcM2, Nat.reduceEqDiff, reduceIte, iu, isMd_M, setTE_M, fI_6, fI_36, fI_0, fI_1, one_ne, zero_ne, true_or, or_true, gM_0, gM_1, gM_2, gM_3, gM_4, gM_5, gM_6, gM_7, gM_8, gM_9, gM_10, gM_11, gM_12, gM_13, gM_14, gM_15, gM_16, gM_17, gM_18, gM_19, gM_20, gM_21, gM_22, gM_23, gM_24, gM_25, gM_26, gM_27, gM_28, gM_29, gM_30, gM_31, gM_32, gM_33, gM_34, gM_35, gM_36, pM_0, pM_1, pM_6, pM_12, pM_17, pM_19, pM_20, pM_21, pM_22, pM_23, pM_26, pM_27, pM_28, pM_29, pM_34, pM_36, hm2, j20, j21, eL]
      exact this
  · exact hT.elim
set_option maxRecDepth 100000 in
theorem con_X9_readAll {l : Launch} {s0 : State} {D : va_G} {cy : Nat → ClassId} {P : Pm} {a0 : Array Value} (hE : E0 l s0 D cy P a0) : Con l s0 D yX9_readAll (Cond.code yX9_readAll cX9_readAll 2 (some .int)) 7 155 (sp_X9_readAll cy P) := by
  refine con_of (clok_X9 hE _) (by decide) (fun as σ K KX h => okA_cat h.1) (Nat.le_of_ble_eq_true rfl) ?_ ?_ (m_X9_readAll cy P hE.2.2.2.1)
  · intro p e R s m args below meth c A Q hfr hlo hW B kd j g hg
    unfold iv_X9_readAll at hg
    split at hg
    · cases hg; exact inv_V (ci := 10) B (con_X9_blanks hE) rfl (fun as σ K KX h => rcvd_spec h.2.1) (cw_mk hE hW tw_1093 rfl tw_8 ⟨by decide, by decide⟩ rfl) rfl (wd hE hW tw_1090 rfl) (wd hE hW tw_1092 rfl) (wd hE hW (List.mem_of_getElem? (i := 34) (by decide +kernel)) rfl) (by rw [hfr]; decide) (by rw [hlo]; decide)
    · cases hg; exact inv_V (ci := 10) B (con_X9_readRule hE) rfl (fun as σ K KX h => rcvd_spec h.2.1) (cw_mk hE hW tw_1101 rfl tw_8 ⟨by decide, by decide⟩ rfl) rfl (wd hE hW tw_1098 rfl) (wd hE hW tw_1100 rfl) (wd hE hW (List.mem_of_getElem? (i := 36) (by decide +kernel)) rfl) (by rw [hfr]; decide) (by rw [hlo]; decide)
    · cases hg; exact inv_V (ci := 10) B (con_X9_isAt hE) rfl (fun as σ K KX h => rcvd_spec h.2.1) (cw_mk hE hW tw_1097 rfl tw_8 ⟨by decide, by decide⟩ rfl) rfl (wd hE hW tw_1094 rfl) (wd hE hW tw_1096 rfl) (wd hE hW (List.mem_of_getElem? (i := 35) (by decide +kernel)) rfl) (by rw [hfr]; decide) (by rw [hlo]; decide)
    · cases hg
  · intro p e R s m args below meth c A K KX hfr hlo hW B htab
    exact xok_none htab
