/-! ===== the model: a rule, a text, rules() ===== -/
/-- the rows that a reading may write: at 8 and above -/
def sameS (M M' : Ms) : Prop := ∀ s, s ≠ 13 → s ≠ 14 → s ≠ 15 → s ≠ 16 → M' s = M s
/-- all but row r is as it was -/
def butR (r : Nat) (M M' : Ms) : Prop := sameS M M' ∧ (∀ j, j ≠ r → M' 13 j = M 13 j ∧ M' 14 j = M 14 j) ∧ ∀ j, (j < 4 * r ∨ 4 * r + 4 ≤ j) → M' 15 j = M 15 j ∧ M' 16 j = M 16 j
theorem butR_rf {r : Nat} {M : Ms} : butR r M M := ⟨fun _ _ _ _ _ => rfl, fun _ _ => ⟨rfl, rfl⟩, fun _ _ => ⟨rfl, rfl⟩⟩
theorem butR_tr {r : Nat} {M M' M2 : Ms} (h : butR r M M') (h2 : butR r M' M2) : butR r M M2 :=
  ⟨fun s a b c d => (h2.1 s a b c d).trans (h.1 s a b c d), fun j hj => ⟨((h2.2.1 j hj).1).trans (h.2.1 j hj).1, ((h2.2.1 j hj).2).trans (h.2.1 j hj).2⟩, fun j hj => ⟨((h2.2.2 j hj).1).trans (h.2.2 j hj).1, ((h2.2.2 j hj).2).trans (h.2.2 j hj).2⟩⟩
theorem butR_cond {r n : Nat} {M : Ms} {kd nm : Int32} (hn : n < 4) : butR r M (condM M r n kd nm) := by
  refine ⟨fun s a b c d => ?_, fun j hj => ⟨rfl, ?_⟩, fun j hj => ⟨?_, ?_⟩⟩
  · unfold condM; rw [setR_ne b, setR_ne d, setR_ne c]
  · show upd (M 14) r (nI (n + 1)) j = M 14 j
    exact pk_un hj
  · show upd (M 15) (4 * r + n) kd j = M 15 j
    exact pk_un (by omega)
  · show upd (M 16) (4 * r + n) nm j = M 16 j
    exact pk_un (by omega)
/-- row r is a rule -/
def rowM (r : Nat) (M : Ms) (fl : Int32) (cs : List (Int32 × Int32)) : Prop := M 13 r = fl ∧ M 14 r = nI cs.length ∧ ∀ c x, cs[c]? = some x → M 15 (4 * r + c) = x.1 ∧ M 16 (4 * r + c) = x.2
def iv_X9_readRule (cy : Nat → ClassId) (P : Pm) : Nat → Nat → Option Sg
  | 0, 132 => some (sp_X9_blanks cy P)
  | 0, 145 => some (sp_X9_word cy P)
  | 0, 150 => some (sp_X9_isWord cy P)
  | 0, 163 => some (sp_X9_readCondition cy P)
  | _, _ => none
def sp_X9_readRule (cy : Nat → ClassId) (P : Pm) : Sg := mI 10 [0] b0 (fun as σ K _ => match as with
  | [.ref m, .int r] => ∃ A I M p0 L k, MD cy σ m A I M ∧ I 20 = nI p0 ∧ I 21 = nI L ∧ p0 ≤ L ∧ L ≤ 400 ∧ r = nI k ∧ k ≤ 8 ∧
      (k = 8 → ∀ σ' I', MD cy σ' m A I' M → I' 22 = nI (adw isB (M 18) L p0) → SI I I' → K (some (.int 0)) σ') ∧
      (k < 8 → (∀ σ' I' M', MD cy σ' m A I' M' → I' 22 = nI (rdRule (M 18) L (adw isB (M 18) L p0)).1 → SI I I' → butR (8 + k) M M' → ((rdRule (M 18) L (adw isB (M 18) L p0)).2 = none ∨ isWdb (M 18) L (rdRule (M 18) L (adw isB (M 18) L p0)).1 6 = true) → K (some (.int 0)) σ') ∧
        (∀ σ' I' M' fl cs p1, (rdRule (M 18) L (adw isB (M 18) L p0)).2 = some (fl, cs) → MD cy σ' m A I' M' → I' 20 = nI p1 → p1 ≤ L → adw isB (M 18) L p1 = (rdRule (M 18) L (adw isB (M 18) L p0)).1 → SI I I' → butR (8 + k) M M' → rowM (8 + k) M' fl cs → K (some (.int 1)) σ'))
  | _ => False)
set_option maxRecDepth 8000 in
set_option maxHeartbeats 16000000 in
theorem m_X9_readRule (cy : Nat → ClassId) (P : Pm) (hP : PmOK P) : MOK (cl_X9 P) cy P.2.1 obj cX9_readRule (iv_X9_readRule cy P) (fun _ => none) (fun _ => some none) (some .boolean) 4 (sp_X9_readRule cy P) := by
  intro as σ K KX J hlen hT hJ hOld
  obtain ⟨-, -, hT⟩ := hT
  split at hT
  · rename_i m r
    obtain ⟨A, I, M, p0, L, k, hM, i20, i21, hp0, hL, rfl, hk, hT8, hT⟩ := hT
    have hm := hM.1
    by_cases h8 : k = 8
    · subst h8
      have hK := hT8 rfl
      have e8 : (nI 8 = 8) = True := eq_true rfl
      refine wp_of_S hJ (ct []) 400 _ _ _ _ _ _ ?_
      simp only [w_iload_n (cut := ct []) (pc' := 1) (i := 1) rfl dX9_readRule_0 rfl rfl, w_bipush (cut := ct []) (pc' := 3) (v := 8) rfl dX9_readRule_1 rfl rfl, w_icmp_ne (cut := ct []) (pc' := 6) (t := 12) rfl dX9_readRule_3 rfl (by decide) rfl, w_aload_n (cut := ct []) (pc' := 7) (i := 0) rfl dX9_readRule_6 rfl rfl, w_invoke (inv := iv_X9_readRule cy P) (kd := 0) (f := 132) (g := sp_X9_blanks cy P) (cut := ct []) rfl dX9_readRule_7 rfl (by decide) rfl, w_iconst (cut := ct []) (pc' := 11) (v := 0) rfl dX9_readRule_10 rfl rfl, w_ireturn (ty := .boolean) (cut := ct []) rfl dX9_readRule_11 rfl, w_bipush (cut := ct []) (pc' := 14) (v := 8) rfl dX9_readRule_12 rfl rfl, rsum, cg_int, cg_ref, cg_null, nby0, strd, mStr, onAL, true_imp_iff, false_imp_iff, not_true_eq_false, not_false_eq_true, Classical.not_not, eq_self, e10, e01, em1, Int32.reduceLT, Int32.reduceLE, onBoat, onGale, onOut, onPort, onRep, onWarn, yn, mI, mS, b0, okA, nb0, nb1, ini, List.map_cons, List.map_nil, List.replicate_zero, List.replicate_succ, List.append_nil, ldI, ldA, incK, oldK, castK, inv1, nwO, nwA, nwR, alen, ald, bald, ast, lald, last, rald, rast, goTo, nth, sto, setN, popN, okv, cat1_int, cat1_ref, cat1_null, cat1_rf, va_rf, hup_same, hup_hup, List.length_cons, List.length_nil, List.nil_append, List.cons_append, Option.toList, true_and, and_true, Nat.reduceAdd, Nat.reduceSub, Nat.reduceLT, Nat.reduceLeDiff, Nat.zero_le, Nat.sub_zero, Nat.zero_lt_succ, Nat.lt_add_left_iff_pos, Nat.succ_lt_succ_iff, rcM2, Nat.reduceEqDiff, reduceIte, iu, isMd_M, setTE_M, fI_6, fI_36, fI_0, fI_1, one_ne, zero_ne, true_or, or_true, gM_0, gM_1, gM_2, gM_3, gM_4, gM_5, gM_6, gM_7, gM_8, gM_9, gM_10, gM_11, gM_12, gM_13, gM_14, gM_15, gM_16, gM_17, gM_18, gM_19, gM_20, gM_21, gM_22, gM_23, gM_24, gM_25, gM_26, gM_27, gM_28, gM_29, gM_30, gM_31, gM_32, gM_33, gM_34, gM_35, gM_36, pM_0, pM_1, pM_6, pM_12, pM_17, pM_19, pM_20, pM_21, pM_22, pM_23, pM_26, pM_27, pM_28, pM_29, pM_34, pM_36, sp_X9_readRule, hm, MD_rc hM, e8, sp_X9_blanks]
      exact ⟨A, I, M, p0, L, hM, i20, i21, hp0, hL, fun σ1 I1 hM1 _ j22 hS => hK σ1 I1 hM1 j22 hS⟩
    · obtain ⟨hX, hK⟩ := hT (by omega)
      have e8 : (nI k = 8) = False := eq_false (fun z => h8 ((nI_eq (b := 8) (by omega) (by decide)).mp z))
      have a8 : 8 + nI k = nI (8 + k) := nI_add 8 k
      have v16 : vp_in (nI (8 + k)) 16 = True := eq_true (vp_in_nI (by omega) (by omega))
      have c16 : (nI (8 + k)).toNatClampNeg = 8 + k := nI_clamp (by omega)
      have hlp := adw_le (c := isB) (f := M 18) (L := L) _ p0 rfl hp0
      generalize hb9 : adw isB (M 18) L p0 = p at hlp hX hK
      have key : ∀ (j n p1 : Nat) (fl : Int32) (dn : List (Int32 × Int32)) (σ1 : Hp) (I1 : Nat → Int32) (M1 : Ms) (l3 : Option Value), 4 - n = j → n < 4 → dn.length = n → MD cy σ1 m A I1 M1 → I1 20 = nI p1 → p1 ≤ L → SI I I1 → butR (8 + k) M M1 → rowM (8 + k) M1 fl dn →
          rdRule (M 18) L p = (match rdConds (M 18) L j (adw isB (M 18) L p1) with
            | (q', none) => (q', none)
            | (q', some cs) => (q', some (fl, dn ++ cs))) → J 72 [some (.ref m), some (.int (nI k)), some (.int (nI (8 + k))), l3] [] σ1 0 0 := by
        intro j
        induction j with
        | zero => intro n p1 fl dn σ1 I1 M1 l3 h1 h2; omega
        | succ j ih =>
          intro n p1 fl dn σ1 I1 M1 l3 hj hn hdn hM1 j20 hp1 hS hbut hrow hR
          have hm1 := hM1.1
          have j21 : I1 21 = nI L := (hS 21 (by decide) (by decide)).trans i21
          have e18 : M1 18 = M 18 := hbut.1 18 (by decide) (by decide) (by decide) (by decide)
          have hcond := fun q => rdConds (M 18) L q
          rw [rdConds] at hR
          refine hJ (ct [72, 77]) 400 _ _ _ _ _ _ ((s_aload_n (pc' := 73) (i := 0) dX9_readRule_72 rfl rfl).mpr ?_)
          simp only [w_cut (cut := ct [72, 77]) (pc := 72) rfl, w_iload_n (cut := ct [72, 77]) (pc' := 74) (i := 2) rfl dX9_readRule_73 rfl rfl, w_invoke (inv := iv_X9_readRule cy P) (kd := 0) (f := 163) (g := sp_X9_readCondition cy P) (cut := ct [72, 77]) rfl dX9_readRule_74 rfl (by decide) rfl, w_cut (cut := ct [72, 77]) (pc := 77) rfl, rsum, cg_int, cg_ref, cg_null, nby0, strd, mStr, onAL, true_imp_iff, false_imp_iff, not_true_eq_false, not_false_eq_true, Classical.not_not, eq_self, e10, e01, em1, Int32.reduceLT, Int32.reduceLE, onBoat, onGale, onOut, onPort, onRep, onWarn, yn, mI, mS, b0, okA, nb0, nb1, ini, List.map_cons, List.map_nil, List.replicate_zero, List.replicate_succ, List.append_nil, ldI, ldA, incK, oldK, castK, inv1, nwO, nwA, nwR, alen, ald, bald, ast, lald, last, rald, rast, goTo, nth, sto, setN, popN, okv, cat1_int, cat1_ref, cat1_null, cat1_rf, va_rf, hup_same, hup_hup, List.length_cons, List.length_nil, List.nil_append, List.cons_append, Option.toList, true_and, and_true, Nat.reduceAdd, Nat.reduceSub, Nat.reduceLT, Nat.reduceLeDiff, Nat.zero_le, Nat.sub_zero, Nat.zero_lt_succ, Nat.lt_add_left_iff_pos, Nat.succ_lt_succ_iff, rcM2, Nat.reduceEqDiff, reduceIte, iu, isMd_M, setTE_M, fI_6, fI_36, fI_0, fI_1, one_ne, zero_ne, true_or, or_true, gM_0, gM_1, gM_2, gM_3, gM_4, gM_5, gM_6, gM_7, gM_8, gM_9, gM_10, gM_11, gM_12, gM_13, gM_14, gM_15, gM_16, gM_17, gM_18, gM_19, gM_20, gM_21, gM_22, gM_23, gM_24, gM_25, gM_26, gM_27, gM_28, gM_29, gM_30, gM_31, gM_32, gM_33, gM_34, gM_35, gM_36, pM_0, pM_1, pM_6, pM_12, pM_17, pM_19, pM_20, pM_21, pM_22, pM_23, pM_26, pM_27, pM_28, pM_29, pM_34, pM_36, hm1, MD_rc hM1, sp_X9_readCondition]
          refine ⟨A, I1, M1, p1, L, 8 + k, n, hM1, j20, j21, hp1, hL, rfl, by omega, by rw [hrow.2.1, hdn], hn, fun σ2 I2 q hc hM2 k22 hS2 => ?_, fun σ2 I2 q kd nm p2 hc hM2 k20 hp2 hq2 hS2 => ?_⟩
          · rw [e18] at hc
            rw [hc] at hR
            dsimp only at hR
            rw [hR] at hX
            have := hX σ2 I2 M1 hM2 k22 (SI_tr hS hS2) hbut (Or.inl rfl)
            refine wp_of_S hJ (ct []) 400 _ _ _ _ _ _ ?_
            simp only [w_if_ne (cut := ct []) (pc' := 80) (t := 82) rfl dX9_readRule_77 rfl (by decide) rfl, w_iconst (cut := ct []) (pc' := 81) (v := 0) rfl dX9_readRule_80 rfl rfl, w_ireturn (ty := .boolean) (cut := ct []) rfl dX9_readRule_81 rfl, w_aload_n (cut := ct []) (pc' := 83) (i := 0) rfl dX9_readRule_82 rfl rfl, rsum, cg_int, cg_ref, cg_null, nby0, strd, mStr, onAL, true_imp_iff, false_imp_iff, not_true_eq_false, not_false_eq_true, Classical.not_not, eq_self, e10, e01, em1, Int32.reduceLT, Int32.reduceLE, onBoat, onGale, onOut, onPort, onRep, onWarn, yn, mI, mS, b0, okA, nb0, nb1, ini, List.map_cons, List.map_nil, List.replicate_zero, List.replicate_succ, List.append_nil, ldI, ldA, incK, oldK, castK, inv1, nwO, nwA, nwR, alen, ald, bald, ast, lald, last, rald, rast, goTo, nth, sto, setN, popN, okv, cat1_int, cat1_ref, cat1_null, cat1_rf, va_rf, hup_same, hup_hup, List.length_cons, List.length_nil, List.nil_append, List.cons_append, Option.toList, true_and, and_true, Nat.reduceAdd, Nat.reduceSub, Nat.reduceLT, Nat.reduceLeDiff, Nat.zero_le, Nat.sub_zero, Nat.zero_lt_succ, Nat.lt_add_left_iff_pos, Nat.succ_lt_succ_iff, rcM2, Nat.reduceEqDiff, reduceIte, iu, isMd_M, setTE_M, fI_6, fI_36, fI_0, fI_1, one_ne, zero_ne, true_or, or_true, gM_0, gM_1, gM_2, gM_3, gM_4, gM_5, gM_6, gM_7, gM_8, gM_9, gM_10, gM_11, gM_12, gM_13, gM_14, gM_15, gM_16, gM_17, gM_18, gM_19, gM_20, gM_21, gM_22, gM_23, gM_24, gM_25, gM_26, gM_27, gM_28, gM_29, gM_30, gM_31, gM_32, gM_33, gM_34, gM_35, gM_36, pM_0, pM_1, pM_6, pM_12, pM_17, pM_19, pM_20, pM_21, pM_22, pM_23, pM_26, pM_27, pM_28, pM_29, pM_34, pM_36]
            exact this
          · rw [e18] at hc hq2
            rw [hc] at hR
            dsimp only at hR
            have hm2 := hM2.1
            have hS3 := SI_tr hS hS2
            have k21 : I2 21 = nI L := (hS3 21 (by decide) (by decide)).trans i21
            have hbut2 := butR_tr hbut (butR_cond (r := 8 + k) (n := n) (M := M1) (kd := kd) (nm := nm) hn)
            have e18b : condM M1 (8 + k) n kd nm 18 = M 18 := hbut2.1 18 (by decide) (by decide) (by decide) (by decide)
            have hrow2 : rowM (8 + k) (condM M1 (8 + k) n kd nm) fl (dn ++ [(kd, nm)]) := by
              refine ⟨hrow.1, ?_, fun c x hx => ?_⟩
              · show upd (M1 14) (8 + k) (nI (n + 1)) (8 + k) = _
                rw [pk_us]; simp [hdn]
              · show upd (M1 15) (4 * (8 + k) + n) kd (4 * (8 + k) + c) = _ ∧ upd (M1 16) (4 * (8 + k) + n) nm (4 * (8 + k) + c) = _
                by_cases hcl : c < dn.length
                · rw [List.getElem?_append_left hcl] at hx
                  rw [pk_un (by omega), pk_un (by omega)]
                  exact hrow.2.2 c x hx
                · rw [List.getElem?_append_right (by omega)] at hx
                  have hz : c - dn.length < 1 := (List.getElem?_eq_some_iff.mp hx).1
                  have hc0 : c = n := by omega
                  subst hc0
                  rw [hdn, Nat.sub_self] at hx
                  cases hx
                  exact ⟨pk_us, pk_us⟩
            have m14 : condM M1 (8 + k) n kd nm 14 (8 + k) = nI (n + 1) := pk_us
            generalize condM M1 (8 + k) n kd nm = M2 at hM2 hbut2 e18b hrow2 m14
            have hqL : q ≤ L := by rw [← hq2]; exact (adw_le (c := isB) (f := M 18) (L := L) _ p2 rfl hp2).2
            have hae := adw_le (c := isIn 97 122) (f := M 18) (L := L) _ q rfl hqL
            refine wp_of_S hJ (ct [91]) 400 _ _ _ _ _ _ ?_
            simp only [w_if_ne (cut := ct [91]) (pc' := 80) (t := 82) rfl dX9_readRule_77 rfl (by decide) rfl, w_iconst (cut := ct [91]) (pc' := 81) (v := 0) rfl dX9_readRule_80 rfl rfl, w_ireturn (ty := .boolean) (cut := ct [91]) rfl dX9_readRule_81 rfl, w_aload_n (cut := ct [91]) (pc' := 83) (i := 0) rfl dX9_readRule_82 rfl rfl, w_getfield (cut := ct [91]) (pc' := 86) rfl dX9_readRule_83 rfl (q_X9_f119 P), w_istore_n (cut := ct [91]) (pc' := 87) (i := 3) rfl dX9_readRule_86 rfl rfl, w_aload_n (cut := ct [91]) (pc' := 88) (i := 0) rfl dX9_readRule_87 rfl rfl, w_invoke (inv := iv_X9_readRule cy P) (kd := 0) (f := 145) (g := sp_X9_word cy P) (cut := ct [91]) rfl dX9_readRule_88 rfl (by decide) rfl, w_cut (cut := ct [91]) (pc := 91) rfl, rsum, cg_int, cg_ref, cg_null, nby0, strd, mStr, onAL, true_imp_iff, false_imp_iff, not_true_eq_false, not_false_eq_true, Classical.not_not, eq_self, e10, e01, em1, Int32.reduceLT, Int32.reduceLE, onBoat, onGale, onOut, onPort, onRep, onWarn, yn, mI, mS, b0, okA, nb0, nb1, ini, List.map_cons, List.map_nil, List.replicate_zero, List.replicate_succ, List.append_nil, ldI, ldA, incK, oldK, castK, inv1, nwO, nwA, nwR, alen, ald, bald, ast, lald, last, rald, rast, goTo, nth, sto, setN, popN, okv, cat1_int, cat1_ref, cat1_null, cat1_rf, va_rf, hup_same, hup_hup, List.length_cons, List.length_nil, List.nil_append, List.cons_append, Option.toList, true_and, and_true, Nat.reduceAdd, Nat.reduceSub, Nat.reduceLT, Nat.reduceLeDiff, Nat.zero_le, Nat.sub_zero, Nat.zero_lt_succ, Nat.lt_add_left_iff_pos, Nat.succ_lt_succ_iff, rcM2, Nat.reduceEqDiff, reduceIte, iu, isMd_M, setTE_M, fI_6, fI_36, fI_0, fI_1, one_ne, zero_ne, true_or, or_true, gM_0, gM_1, gM_2, gM_3, gM_4, gM_5, gM_6, gM_7, gM_8, gM_9, gM_10, gM_11, gM_12, gM_13, gM_14, gM_15, gM_16, gM_17, gM_18, gM_19, gM_20, gM_21, gM_22, gM_23, gM_24, gM_25, gM_26, gM_27, gM_28, gM_29, gM_30, gM_31, gM_32, gM_33, gM_34, gM_35, gM_36, pM_0, pM_1, pM_6, pM_12, pM_17, pM_19, pM_20, pM_21, pM_22, pM_23, pM_26, pM_27, pM_28, pM_29, pM_34, pM_36, hm2, MD_rc hM2, k20, sp_X9_word]
            refine ⟨A, I2, M2, p2, L, hM2, k20, k21, hp2, hL, fun σ4 I4 hM4 l20 l22 hS4 => ?_⟩
            rw [e18b, hq2] at l20 l22
            have hm4 := hM4.1
            have hS5 := SI_tr hS3 hS4
            have a14 : σ4 (A 14) = some (oInts cy 16 (M2 14)) := hM4.2.1 14 rfl
            refine wp_of_S hJ (ct [97]) 400 _ _ _ _ _ _ ?_
            simp only [w_aload_n (cut := ct [97]) (pc' := 92) (i := 0) rfl dX9_readRule_91 rfl rfl, w_ldc (cut := ct [97]) (pc' := 94) rfl dX9_readRule_92 rfl (q_X9_l166 P), w_invoke (inv := iv_X9_readRule cy P) (kd := 0) (f := 150) (g := sp_X9_isWord cy P) (cut := ct [97]) rfl dX9_readRule_94 rfl (by decide) rfl, w_cut (cut := ct [97]) (pc := 97) rfl, rsum, cg_int, cg_ref, cg_null, nby0, strd, mStr, onAL, true_imp_iff, false_imp_iff, not_true_eq_false, not_false_eq_true, Classical.not_not, eq_self, e10, e01, em1, Int32.reduceLT, Int32.reduceLE, onBoat, onGale, onOut, onPort, onRep, onWarn, yn, mI, mS, b0, okA, nb0, nb1, ini, List.map_cons, List.map_nil, List.replicate_zero, List.replicate_succ, List.append_nil, ldI, ldA, incK, oldK, castK, inv1, nwO, nwA, nwR, alen, ald, bald, ast, lald, last, rald, rast, goTo, nth, sto, setN, popN, okv, cat1_int, cat1_ref, cat1_null, cat1_rf, va_rf, hup_same, hup_hup, List.length_cons, List.length_nil, List.nil_append, List.cons_append, Option.toList, true_and, and_true, Nat.reduceAdd, Nat.reduceSub, Nat.reduceLT, Nat.reduceLeDiff, Nat.zero_le, Nat.sub_zero, Nat.zero_lt_succ, Nat.lt_add_left_iff_pos, Nat.succ_lt_succ_iff, rcM2, Nat.reduceEqDiff, reduceIte, iu, isMd_M, setTE_M, fI_6, fI_36, fI_0, fI_1, one_ne, zero_ne, true_or, or_true, gM_0, gM_1, gM_2, gM_3, gM_4, gM_5, gM_6, gM_7, gM_8, gM_9, gM_10, gM_11, gM_12, gM_13, gM_14, gM_15, gM_16, gM_17, gM_18, gM_19, gM_20, gM_21, gM_22, gM_23, gM_24, gM_25, gM_26, gM_27, gM_28, gM_29, gM_30, gM_31, gM_32, gM_33, gM_34, gM_35, gM_36, pM_0, pM_1, pM_6, pM_12, pM_17, pM_19, pM_20, pM_21, pM_22, pM_23, pM_26, pM_27, pM_28, pM_29, pM_34, pM_36, hm4, MD_rc hM4, sp_X9_isWord]
            refine ⟨A, I4, M2, q, L, 6, hM4, by rw [e18b]; exact l20, l22, hqL, hL, rfl, by decide, fun hw => ?_, fun hw => ?_⟩
            · rw [e18b] at hw
              by_cases hn4 : n + 1 = 4
              · have e4 : (nI (n + 1) = 4) = True := eq_true (by rw [hn4]; rfl)
                have hj0 : j = 0 := by omega
                rw [if_pos hj0] at hR
                dsimp only at hR
                rw [hR] at hX
                have := hX σ4 I4 M2 hM4 l22 hS5 hbut2 (Or.inr hw)
                refine wp_of_S hJ (ct []) 400 _ _ _ _ _ _ ?_
                simp only [w_if_ne (cut := ct []) (pc' := 100) (t := 107) rfl dX9_readRule_97 rfl (by decide) rfl, w_aload_n (cut := ct []) (pc' := 101) (i := 0) rfl dX9_readRule_100 rfl rfl, w_iload_n (cut := ct []) (pc' := 102) (i := 3) rfl dX9_readRule_101 rfl rfl, w_putfield (cut := ct []) (pc' := 105) rfl dX9_readRule_102 rfl (q_X9_f119 P), w_iconst (cut := ct []) (pc' := 106) (v := 1) rfl dX9_readRule_105 rfl rfl, w_ireturn (ty := .boolean) (cut := ct []) rfl dX9_readRule_106 rfl, w_aload_n (cut := ct []) (pc' := 108) (i := 0) rfl dX9_readRule_107 rfl rfl, w_getfield (cut := ct []) (pc' := 111) rfl dX9_readRule_108 rfl (q_X9_f40 P), w_iload_n (cut := ct []) (pc' := 112) (i := 2) rfl dX9_readRule_111 rfl rfl, w_iaload (cut := ct []) rfl dX9_readRule_112, w_iconst (cut := ct []) (pc' := 114) (v := 4) rfl dX9_readRule_113 rfl rfl, w_icmp_ne (cut := ct []) (pc' := 117) (t := 119) rfl dX9_readRule_114 rfl (by decide) rfl, w_iconst (cut := ct []) (pc' := 118) (v := 0) rfl dX9_readRule_117 rfl rfl, w_ireturn (ty := .boolean) (cut := ct []) rfl dX9_readRule_118 rfl, w_goto (cut := ct []) (t := 72) rfl dX9_readRule_119 (by decide) rfl, rsum, cg_int, cg_ref, cg_null, nby0, strd, mStr, onAL, true_imp_iff, false_imp_iff, not_true_eq_false, not_false_eq_true, Classical.not_not, eq_self, e10, e01, em1, Int32.reduceLT, Int32.reduceLE, onBoat, onGale, onOut, onPort, onRep, onWarn, yn, mI, mS, b0, okA, nb0, nb1, ini, List.map_cons, List.map_nil, List.replicate_zero, List.replicate_succ, List.append_nil, ldI, ldA, incK, oldK, castK, inv1, nwO, nwA, nwR, alen, ald, bald, ast, lald, last, rald, rast, goTo, nth, sto, setN, popN, okv, cat1_int, cat1_ref, cat1_null, cat1_rf, va_rf, hup_same, hup_hup, List.length_cons, List.length_nil, List.nil_append, List.cons_append, Option.toList, true_and, and_true, Nat.reduceAdd, Nat.reduceSub, Nat.reduceLT, Nat.reduceLeDiff, Nat.zero_le, Nat.sub_zero, Nat.zero_lt_succ, Nat.lt_add_left_iff_pos, Nat.succ_lt_succ_iff, rcM2, Nat.reduceEqDiff, reduceIte, iu, isMd_M, setTE_M, fI_6, fI_36, fI_0, fI_1, one_ne, zero_ne, true_or, or_true, gM_0, gM_1, gM_2, gM_3, gM_4, gM_5, gM_6, gM_7, gM_8, gM_9, gM_10, gM_11, gM_12, gM_13, gM_14, gM_15, gM_16, gM_17, gM_18, gM_19, gM_20, gM_21, gM_22, gM_23, gM_24, gM_25, gM_26, gM_27, gM_28, gM_29, gM_30, gM_31, gM_32, gM_33, gM_34, gM_35, gM_36, pM_0, pM_1, pM_6, pM_12, pM_17, pM_19, pM_20, pM_21, pM_22, pM_23, pM_26, pM_27, pM_28, pM_29, pM_34, pM_36, hm4, a14, v16, c16, m14, e4]
                exact this
              · have e4 : (nI (n + 1) = 4) = False := eq_false (fun z => hn4 ((nI_eq (b := 4) (by omega) (by decide)).mp z))
                rw [if_neg (by omega), if_pos hw] at hR
                have hwe := wd_end hw
                have := ih (n + 1) (adw (isIn 97 122) (M 18) L q) fl (dn ++ [(kd, nm)]) σ4 I4 M2 (some (.int (nI p2))) (by omega) (by omega) (by simp [hdn]) hM4 l20 hae.2 hS5 hbut2 hrow2 (by
                  rw [hR, hwe]
                  show _ = match rdConds (M 18) L j (aftW (M 18) L q 6) with
                    | (q', none) => (q', none)
                    | (q', some cs) => (q', some (fl, dn ++ [(kd, nm)] ++ cs))
                  cases hrc : rdConds (M 18) L j (aftW (M 18) L q 6) with
                  | mk q' o =>
                    cases o with
                    | none => rfl
                    | some cs => simp)
                refine wp_of_S hJ (ct [72]) 400 _ _ _ _ _ _ ?_
                simp only [w_cut (cut := ct [72]) (pc := 72) rfl, w_if_ne (cut := ct [72]) (pc' := 100) (t := 107) rfl dX9_readRule_97 rfl (by decide) rfl, w_aload_n (cut := ct [72]) (pc' := 101) (i := 0) rfl dX9_readRule_100 rfl rfl, w_iload_n (cut := ct [72]) (pc' := 102) (i := 3) rfl dX9_readRule_101 rfl rfl, w_putfield (cut := ct [72]) (pc' := 105) rfl dX9_readRule_102 rfl (q_X9_f119 P), w_iconst (cut := ct [72]) (pc' := 106) (v := 1) rfl dX9_readRule_105 rfl rfl, w_ireturn (ty := .boolean) (cut := ct [72]) rfl dX9_readRule_106 rfl, w_aload_n (cut := ct [72]) (pc' := 108) (i := 0) rfl dX9_readRule_107 rfl rfl, w_getfield (cut := ct [72]) (pc' := 111) rfl dX9_readRule_108 rfl (q_X9_f40 P), w_iload_n (cut := ct [72]) (pc' := 112) (i := 2) rfl dX9_readRule_111 rfl rfl, w_iaload (cut := ct [72]) rfl dX9_readRule_112, w_iconst (cut := ct [72]) (pc' := 114) (v := 4) rfl dX9_readRule_113 rfl rfl, w_icmp_ne (cut := ct [72]) (pc' := 117) (t := 119) rfl dX9_readRule_114 rfl (by decide) rfl, w_iconst (cut := ct [72]) (pc' := 118) (v := 0) rfl dX9_readRule_117 rfl rfl, w_ireturn (ty := .boolean) (cut := ct [72]) rfl dX9_readRule_118 rfl, w_goto (cut := ct [72]) (t := 72) rfl dX9_readRule_119 (by decide) rfl, rsum, cg_int, cg_ref, cg_null, nby0, strd, mStr, onAL, true_imp_iff, false_imp_iff, not_true_eq_false, not_false_eq_true, Classical.not_not, eq_self, e10, e01, em1, Int32.reduceLT, Int32.reduceLE, onBoat, onGale, onOut, onPort, onRep, onWarn, yn, mI, mS, b0, okA, nb0, nb1, ini, List.map_cons, List.map_nil, List.replicate_zero, List.replicate_succ, List.append_nil, ldI, ldA, incK, oldK, castK, inv1, nwO, nwA, nwR, alen, ald, bald, ast, lald, last, rald, rast, goTo, nth, sto, setN, popN, okv, cat1_int, cat1_ref, cat1_null, cat1_rf, va_rf, hup_same, hup_hup, List.length_cons, List.length_nil, List.nil_append, List.cons_append, Option.toList, true_and, and_true, Nat.reduceAdd, Nat.reduceSub, Nat.reduceLT, Nat.reduceLeDiff, Nat.zero_le, Nat.sub_zero, Nat.zero_lt_succ, Nat.lt_add_left_iff_pos, Nat.succ_lt_succ_iff, rcM2, Nat.reduceEqDiff, reduceIte, iu, isMd_M, setTE_M, fI_6, fI_36, fI_0, fI_1, one_ne, zero_ne, true_or, or_true, gM_0, gM_1, gM_2, gM_3, gM_4, gM_5, gM_6, gM_7, gM_8, gM_9, gM_10, gM_11, gM_12, gM_13, gM_14, gM_15, gM_16, gM_17, gM_18, gM_19, gM_20, gM_21, gM_22, gM_23, gM_24, gM_25, gM_26, gM_27, gM_28, gM_29, gM_30, gM_31, gM_32, gM_33, gM_34, gM_35, gM_36, pM_0, pM_1, pM_6, pM_12, pM_17, pM_19, pM_20, pM_21, pM_22, pM_23, pM_26, pM_27, pM_28, pM_29, pM_34, pM_36, hm4, a14, v16, c16, m14, e4]
                exact this
            · rw [e18b] at hw
              have hR2 : rdRule (M 18) L p = (q, some (fl, dn ++ [(kd, nm)])) := by
                rw [hR]
                by_cases hj0 : j = 0
                · rw [if_pos hj0]
                · rw [if_neg hj0, if_neg hw]
              rw [hR2] at hK
              have := hK _ (iu I4 20 (nI p2)) M2 _ _ p2 rfl (MD_set hM4) rfl hp2 hq2 (SI_20 hS5) hbut2 hrow2
              refine wp_of_S hJ (ct []) 400 _ _ _ _ _ _ ?_
              simp only [w_if_ne (cut := ct []) (pc' := 100) (t := 107) rfl dX9_readRule_97 rfl (by decide) rfl, w_aload_n (cut := ct []) (pc' := 101) (i := 0) rfl dX9_readRule_100 rfl rfl, w_iload_n (cut := ct []) (pc' := 102) (i := 3) rfl dX9_readRule_101 rfl rfl, w_putfield (cut := ct []) (pc' := 105) rfl dX9_readRule_102 rfl (q_X9_f119 P), w_iconst (cut := ct []) (pc' := 106) (v := 1) rfl dX9_readRule_105 rfl rfl, w_ireturn (ty := .boolean) (cut := ct []) rfl dX9_readRule_106 rfl, w_aload_n (cut := ct []) (pc' := 108) (i := 0) rfl dX9_readRule_107 rfl rfl, rsum, cg_int, cg_ref, cg_null, nby0, strd, mStr, onAL, true_imp_iff, false_imp_iff, not_true_eq_false, not_false_eq_true, Classical.not_not, eq_self, e10, e01, em1, Int32.reduceLT, Int32.reduceLE, onBoat, onGale, onOut, onPort, onRep, onWarn, yn, mI, mS, b0, okA, nb0, nb1, ini, List.map_cons, List.map_nil, List.replicate_zero, List.replicate_succ, List.append_nil, ldI, ldA, incK, oldK, castK, inv1, nwO, nwA, nwR, alen, ald, bald, ast, lald, last, rald, rast, goTo, nth, sto, setN, popN, okv, cat1_int, cat1_ref, cat1_null, cat1_rf, va_rf, hup_same, hup_hup, List.length_cons, List.length_nil, List.nil_append, List.cons_append, Option.toList, true_and, and_true, Nat.reduceAdd, Nat.reduceSub, Nat.reduceLT, Nat.reduceLeDiff, Nat.zero_le, Nat.sub_zero, Nat.zero_lt_succ, Nat.lt_add_left_iff_pos, Nat.succ_lt_succ_iff, rcM2, Nat.reduceEqDiff, reduceIte, iu, isMd_M, setTE_M, fI_6, fI_36, fI_0, fI_1, one_ne, zero_ne, true_or, or_true, gM_0, gM_1, gM_2, gM_3, gM_4, gM_5, gM_6, gM_7, gM_8, gM_9, gM_10, gM_11, gM_12, gM_13, gM_14, gM_15, gM_16, gM_17, gM_18, gM_19, gM_20, gM_21, gM_22, gM_23, gM_24, gM_25, gM_26, gM_27, gM_28, gM_29, gM_30, gM_31, gM_32, gM_33, gM_34, gM_35, gM_36, pM_0, pM_1, pM_6, pM_12, pM_17, pM_19, pM_20, pM_21, pM_22, pM_23, pM_26, pM_27, pM_28, pM_29, pM_34, pM_36, hm4]
              exact this
      have bg : ∀ (v : Int32) (σ1 : Hp) (I1 : Nat → Int32), (v = 0 ∨ v = 1) → MD cy σ1 m A I1 M → I1 20 = nI (adw (isIn 97 122) (M 18) L p) → SI I I1 → rdFlag (M 18) L p = some (v, adw isB (M 18) L (adw (isIn 97 122) (M 18) L p)) → J 53 [some (.ref m), some (.int (nI k)), some (.int (nI (8 + k))), none] [.int v, .int (nI (8 + k)), .ref (A 13)] σ1 0 0 := by
        intro v σ1 I1 hv hM1 j20 hS hfl
        have hm1 := hM1.1
        have hinj := MD_inj hM1
        have hne' := MD_ne' hM1
        have a13 : σ1 (A 13) = some (oInts cy 16 (M 13)) := hM1.2.1 13 rfl
        have a14 : σ1 (A 14) = some (oInts cy 16 (M 14)) := hM1.2.1 14 rfl
        have v0 : (0 ≤ v) = True := eq_true (by rcases hv with rfl | rfl <;> decide)
        have hae := adw_le (c := isIn 97 122) (f := M 18) (L := L) _ p rfl hlp.2
        have hM2 : MD cy (hup (hup σ1 (A 13) (oArr cy 13 (upd (M 13) (8 + k) v))) (A 14) (oArr cy 14 (upd (M 14) (8 + k) 0))) m A I1 (setR (setR M 13 (upd (M 13) (8 + k) v)) 14 (upd (M 14) (8 + k) 0)) := MD_arr (MD_arr hM1)
        have := key 4 0 (adw (isIn 97 122) (M 18) L p) v [] _ I1 _ none rfl (by decide) rfl hM2 j20 hae.2 hS ⟨fun s a b c d => by rw [setR_ne b, setR_ne a], fun j hj => ⟨pk_un hj, pk_un hj⟩, fun j hj => ⟨rfl, rfl⟩⟩ ⟨pk_us, pk_us, fun c x hx => by cases hx⟩ (by
          unfold rdRule
          rw [hfl]
          dsimp only
          cases rdConds (M 18) L 4 (adw isB (M 18) L (adw (isIn 97 122) (M 18) L p)) with
          | mk q' o => cases o <;> rfl)
        refine wp_of_S hJ (ct [72]) 400 _ _ _ _ _ _ ?_
        simp only [w_iastore (cut := ct [72]) rfl dX9_readRule_53, w_aload_n (cut := ct [72]) (pc' := 55) (i := 0) rfl dX9_readRule_54 rfl rfl, w_getfield (cut := ct [72]) (pc' := 58) rfl dX9_readRule_55 rfl (q_X9_f40 P), w_iload_n (cut := ct [72]) (pc' := 59) (i := 2) rfl dX9_readRule_58 rfl rfl, w_iconst (cut := ct [72]) (pc' := 60) (v := 0) rfl dX9_readRule_59 rfl rfl, w_iastore (cut := ct [72]) rfl dX9_readRule_60, w_aload_n (cut := ct [72]) (pc' := 62) (i := 0) rfl dX9_readRule_61 rfl rfl, w_getfield (cut := ct [72]) (pc' := 65) rfl dX9_readRule_62 rfl (q_X9_f37 P), w_iload_n (cut := ct [72]) (pc' := 66) (i := 2) rfl dX9_readRule_65 rfl rfl, w_iaload (cut := ct [72]) rfl dX9_readRule_66, w_if_ge (cut := ct [72]) (pc' := 70) (t := 72) rfl dX9_readRule_67 rfl (by decide) rfl, w_iconst (cut := ct [72]) (pc' := 71) (v := 0) rfl dX9_readRule_70 rfl rfl, w_ireturn (ty := .boolean) (cut := ct [72]) rfl dX9_readRule_71 rfl, w_cut (cut := ct [72]) (pc := 72) rfl, rsum, cg_int, cg_ref, cg_null, nby0, strd, mStr, onAL, true_imp_iff, false_imp_iff, not_true_eq_false, not_false_eq_true, Classical.not_not, eq_self, e10, e01, em1, Int32.reduceLT, Int32.reduceLE, onBoat, onGale, onOut, onPort, onRep, onWarn, yn, mI, mS, b0, okA, nb0, nb1, ini, List.map_cons, List.map_nil, List.replicate_zero, List.replicate_succ, List.append_nil, ldI, ldA, incK, oldK, castK, inv1, nwO, nwA, nwR, alen, ald, bald, ast, lald, last, rald, rast, goTo, nth, sto, setN, popN, okv, cat1_int, cat1_ref, cat1_null, cat1_rf, va_rf, hup_same, hup_hup, List.length_cons, List.length_nil, List.nil_append, List.cons_append, Option.toList, true_and, and_true, Nat.reduceAdd, Nat.reduceSub, Nat.reduceLT, Nat.reduceLeDiff, Nat.zero_le, Nat.sub_zero, Nat.zero_lt_succ, Nat.lt_add_left_iff_pos, Nat.succ_lt_succ_iff, rcM2, Nat.reduceEqDiff, reduceIte, iu, isMd_M, setTE_M, fI_6, fI_36, fI_0, fI_1, one_ne, zero_ne, true_or, or_true, gM_0, gM_1, gM_2, gM_3, gM_4, gM_5, gM_6, gM_7, gM_8, gM_9, gM_10, gM_11, gM_12, gM_13, gM_14, gM_15, gM_16, gM_17, gM_18, gM_19, gM_20, gM_21, gM_22, gM_23, gM_24, gM_25, gM_26, gM_27, gM_28, gM_29, gM_30, gM_31, gM_32, gM_33, gM_34, gM_35, gM_36, pM_0, pM_1, pM_6, pM_12, pM_17, pM_19, pM_20, pM_21, pM_22, pM_23, pM_26, pM_27, pM_28, pM_29, pM_34, pM_36, hm1, a13, a14, v16, c16, v0, hinj, hne', hup_app, pk_us]
        exact this
      refine wp_of_S hJ (ct [21]) 400 _ _ _ _ _ _ ?_
      simp only [w_iload_n (cut := ct [21]) (pc' := 1) (i := 1) rfl dX9_readRule_0 rfl rfl, w_bipush (cut := ct [21]) (pc' := 3) (v := 8) rfl dX9_readRule_1 rfl rfl, w_icmp_ne (cut := ct [21]) (pc' := 6) (t := 12) rfl dX9_readRule_3 rfl (by decide) rfl, w_aload_n (cut := ct [21]) (pc' := 7) (i := 0) rfl dX9_readRule_6 rfl rfl, w_invoke (inv := iv_X9_readRule cy P) (kd := 0) (f := 132) (g := sp_X9_blanks cy P) (cut := ct [21]) rfl dX9_readRule_7 rfl (by decide) rfl, w_iconst (cut := ct [21]) (pc' := 11) (v := 0) rfl dX9_readRule_10 rfl rfl, w_ireturn (ty := .boolean) (cut := ct [21]) rfl dX9_readRule_11 rfl, w_bipush (cut := ct [21]) (pc' := 14) (v := 8) rfl dX9_readRule_12 rfl rfl, w_iload_n (cut := ct [21]) (pc' := 15) (i := 1) rfl dX9_readRule_14 rfl rfl, w_iadd (cut := ct [21]) (pc' := 16) rfl dX9_readRule_15 rfl, w_istore_n (cut := ct [21]) (pc' := 17) (i := 2) rfl dX9_readRule_16 rfl rfl, w_aload_n (cut := ct [21]) (pc' := 18) (i := 0) rfl dX9_readRule_17 rfl rfl, w_invoke (inv := iv_X9_readRule cy P) (kd := 0) (f := 145) (g := sp_X9_word cy P) (cut := ct [21]) rfl dX9_readRule_18 rfl (by decide) rfl, w_cut (cut := ct [21]) (pc := 21) rfl, rsum, cg_int, cg_ref, cg_null, nby0, strd, mStr, onAL, true_imp_iff, false_imp_iff, not_true_eq_false, not_false_eq_true, Classical.not_not, eq_self, e10, e01, em1, Int32.reduceLT, Int32.reduceLE, onBoat, onGale, onOut, onPort, onRep, onWarn, yn, mI, mS, b0, okA, nb0, nb1, ini, List.map_cons, List.map_nil, List.replicate_zero, List.replicate_succ, List.append_nil, ldI, ldA, incK, oldK, castK, inv1, nwO, nwA, nwR, alen, ald, bald, ast, lald, last, rald, rast, goTo, nth, sto, setN, popN, okv, cat1_int, cat1_ref, cat1_null, cat1_rf, va_rf, hup_same, hup_hup, List.length_cons, List.length_nil, List.nil_append, List.cons_append, Option.toList, true_and, and_true, Nat.reduceAdd, Nat.reduceSub, Nat.reduceLT, Nat.reduceLeDiff, Nat.zero_le, Nat.sub_zero, Nat.zero_lt_succ, Nat.lt_add_left_iff_pos, Nat.succ_lt_succ_iff, rcM2, Nat.reduceEqDiff, reduceIte, iu, isMd_M, setTE_M, fI_6, fI_36, fI_0, fI_1, one_ne, zero_ne, true_or, or_true, gM_0, gM_1, gM_2, gM_3, gM_4, gM_5, gM_6, gM_7, gM_8, gM_9, gM_10, gM_11, gM_12, gM_13, gM_14, gM_15, gM_16, gM_17, gM_18, gM_19, gM_20, gM_21, gM_22, gM_23, gM_24, gM_25, gM_26, gM_27, gM_28, gM_29, gM_30, gM_31, gM_32, gM_33, gM_34, gM_35, gM_36, pM_0, pM_1, pM_6, pM_12, pM_17, pM_19, pM_20, pM_21, pM_22, pM_23, pM_26, pM_27, pM_28, pM_29, pM_34, pM_36, sp_X9_readRule, hm, MD_rc hM, e8, a8, sp_X9_word]
      refine ⟨A, I, M, p0, L, hM, i20, i21, hp0, hL, fun σ1 I1 hM1 j20 j22 hS => ?_⟩
      rw [hb9] at j20 j22
      have hm1 := hM1.1
      have mk : ∀ k, isWdb (M 18) L p k = true → adw isB (M 18) L (adw (isIn 97 122) (M 18) L p) = aftW (M 18) L p k := fun k h => by unfold aftW; rw [wd_end h]
      refine wp_of_S hJ (ct [53]) 400 _ _ _ _ _ _ ?_
      simp only [w_aload_n (cut := ct [53]) (pc' := 22) (i := 0) rfl dX9_readRule_21 rfl rfl, w_getfield (cut := ct [53]) (pc' := 25) rfl dX9_readRule_22 rfl (q_X9_f37 P), w_iload_n (cut := ct [53]) (pc' := 26) (i := 2) rfl dX9_readRule_25 rfl rfl, w_aload_n (cut := ct [53]) (pc' := 27) (i := 0) rfl dX9_readRule_26 rfl rfl, w_ldc (cut := ct [53]) (pc' := 29) rfl dX9_readRule_27 rfl (q_X9_l159 P), w_invoke (inv := iv_X9_readRule cy P) (kd := 0) (f := 150) (g := sp_X9_isWord cy P) (cut := ct [53]) rfl dX9_readRule_29 rfl (by decide) rfl, w_if_eq (cut := ct [53]) (pc' := 35) (t := 39) rfl dX9_readRule_32 rfl (by decide) rfl, w_iconst (cut := ct [53]) (pc' := 36) (v := 0) rfl dX9_readRule_35 rfl rfl, w_goto (cut := ct [53]) (t := 53) rfl dX9_readRule_36 (by decide) rfl, w_aload_n (cut := ct [53]) (pc' := 40) (i := 0) rfl dX9_readRule_39 rfl rfl, w_ldc (cut := ct [53]) (pc' := 42) rfl dX9_readRule_40 rfl (q_X9_l161 P), w_invoke (inv := iv_X9_readRule cy P) (kd := 0) (f := 150) (g := sp_X9_isWord cy P) (cut := ct [53]) rfl dX9_readRule_42 rfl (by decide) rfl, w_if_eq (cut := ct [53]) (pc' := 48) (t := 52) rfl dX9_readRule_45 rfl (by decide) rfl, w_iconst (cut := ct [53]) (pc' := 49) (v := 1) rfl dX9_readRule_48 rfl rfl, w_goto (cut := ct [53]) (t := 53) rfl dX9_readRule_49 (by decide) rfl, w_iconst (cut := ct [53]) (pc' := 53) (v := (-1)) rfl dX9_readRule_52 rfl rfl, w_cut (cut := ct [53]) (pc := 53) rfl, rsum, cg_int, cg_ref, cg_null, nby0, strd, mStr, onAL, true_imp_iff, false_imp_iff, not_true_eq_false, not_false_eq_true, Classical.not_not, eq_self, e10, e01, em1, Int32.reduceLT, Int32.reduceLE, onBoat, onGale, onOut, onPort, onRep, onWarn, yn, mI, mS, b0, okA, nb0, nb1, ini, List.map_cons, List.map_nil, List.replicate_zero, List.replicate_succ, List.append_nil, ldI, ldA, incK, oldK, castK, inv1, nwO, nwA, nwR, alen, ald, bald, ast, lald, last, rald, rast, goTo, nth, sto, setN, popN, okv, cat1_int, cat1_ref, cat1_null, cat1_rf, va_rf, hup_same, hup_hup, List.length_cons, List.length_nil, List.nil_append, List.cons_append, Option.toList, true_and, and_true, Nat.reduceAdd, Nat.reduceSub, Nat.reduceLT, Nat.reduceLeDiff, Nat.zero_le, Nat.sub_zero, Nat.zero_lt_succ, Nat.lt_add_left_iff_pos, Nat.succ_lt_succ_iff, rcM2, Nat.reduceEqDiff, reduceIte, iu, isMd_M, setTE_M, fI_6, fI_36, fI_0, fI_1, one_ne, zero_ne, true_or, or_true, gM_0, gM_1, gM_2, gM_3, gM_4, gM_5, gM_6, gM_7, gM_8, gM_9, gM_10, gM_11, gM_12, gM_13, gM_14, gM_15, gM_16, gM_17, gM_18, gM_19, gM_20, gM_21, gM_22, gM_23, gM_24, gM_25, gM_26, gM_27, gM_28, gM_29, gM_30, gM_31, gM_32, gM_33, gM_34, gM_35, gM_36, pM_0, pM_1, pM_6, pM_12, pM_17, pM_19, pM_20, pM_21, pM_22, pM_23, pM_26, pM_27, pM_28, pM_29, pM_34, pM_36, hm1, MD_rc hM1, sp_X9_isWord]
      refine ⟨A, I1, M, p, L, 0, hM1, j20, j22, hlp.2, hL, rfl, by decide, fun g1 => ?_, fun g1 => ⟨A, I1, M, p, L, 1, hM1, j20, j22, hlp.2, hL, rfl, by decide, fun g2 => ?_, fun g2 => ?_⟩⟩
      · exact bg 0 σ1 I1 (Or.inl rfl) hM1 j20 hS (by rw [mk 0 g1]; unfold rdFlag; rw [if_pos g1])
      · exact bg 1 σ1 I1 (Or.inr rfl) hM1 j20 hS (by rw [mk 1 g2]; unfold rdFlag; rw [if_neg g1, if_pos g2])
      · have hR : rdRule (M 18) L p = (p, none) := by unfold rdRule rdFlag; rw [if_neg g1, if_neg g2]
        rw [hR] at hX
        have hinj := MD_inj hM1
        have hne' := MD_ne' hM1
        have a13 : σ1 (A 13) = some (oInts cy 16 (M 13)) := hM1.2.1 13 rfl
        have a14 : σ1 (A 14) = some (oInts cy 16 (M 14)) := hM1.2.1 14 rfl
        have v0 : ((0 : Int32) ≤ -1) = False := eq_false (by decide)
        have hM2 : MD cy (hup (hup σ1 (A 13) (oArr cy 13 (upd (M 13) (8 + k) (-1)))) (A 14) (oArr cy 14 (upd (M 14) (8 + k) 0))) m A I1 (setR (setR M 13 (upd (M 13) (8 + k) (-1))) 14 (upd (M 14) (8 + k) 0)) := MD_arr (MD_arr hM1)
        have := hX _ I1 _ hM2 j22 hS ⟨fun s a b c d => by rw [setR_ne b, setR_ne a], fun j hj => ⟨pk_un hj, pk_un hj⟩, fun j hj => ⟨rfl, rfl⟩⟩ (Or.inl rfl)
        refine wp_of_S hJ (ct []) 400 _ _ _ _ _ _ ?_
        simp only [w_iastore (cut := ct []) rfl dX9_readRule_53, w_aload_n (cut := ct []) (pc' := 55) (i := 0) rfl dX9_readRule_54 rfl rfl, w_getfield (cut := ct []) (pc' := 58) rfl dX9_readRule_55 rfl (q_X9_f40 P), w_iload_n (cut := ct []) (pc' := 59) (i := 2) rfl dX9_readRule_58 rfl rfl, w_iconst (cut := ct []) (pc' := 60) (v := 0) rfl dX9_readRule_59 rfl rfl, w_iastore (cut := ct []) rfl dX9_readRule_60, w_aload_n (cut := ct []) (pc' := 62) (i := 0) rfl dX9_readRule_61 rfl rfl, w_getfield (cut := ct []) (pc' := 65) rfl dX9_readRule_62 rfl (q_X9_f37 P), w_iload_n (cut := ct []) (pc' := 66) (i := 2) rfl dX9_readRule_65 rfl rfl, w_iaload (cut := ct []) rfl dX9_readRule_66, w_if_ge (cut := ct []) (pc' := 70) (t := 72) rfl dX9_readRule_67 rfl (by decide) rfl, w_iconst (cut := ct []) (pc' := 71) (v := 0) rfl dX9_readRule_70 rfl rfl, w_ireturn (ty := .boolean) (cut := ct []) rfl dX9_readRule_71 rfl, w_aload_n (cut := ct []) (pc' := 73) (i := 0) rfl dX9_readRule_72 rfl rfl, rsum, cg_int, cg_ref, cg_null, nby0, strd, mStr, onAL, true_imp_iff, false_imp_iff, not_true_eq_false, not_false_eq_true, Classical.not_not, eq_self, e10, e01, em1, Int32.reduceLT, Int32.reduceLE, onBoat, onGale, onOut, onPort, onRep, onWarn, yn, mI, mS, b0, okA, nb0, nb1, ini, List.map_cons, List.map_nil, List.replicate_zero, List.replicate_succ, List.append_nil, ldI, ldA, incK, oldK, castK, inv1, nwO, nwA, nwR, alen, ald, bald, ast, lald, last, rald, rast, goTo, nth, sto, setN, popN, okv, cat1_int, cat1_ref, cat1_null, cat1_rf, va_rf, hup_same, hup_hup, List.length_cons, List.length_nil, List.nil_append, List.cons_append, Option.toList, true_and, and_true, Nat.reduceAdd, Nat.reduceSub, Nat.reduceLT, Nat.reduceLeDiff, Nat.zero_le, Nat.sub_zero, Nat.zero_lt_succ, Nat.lt_add_left_iff_pos, Nat.succ_lt_succ_iff, rcM2, Nat.reduceEqDiff, reduceIte, iu, isMd_M, setTE_M, fI_6, fI_36, fI_0, fI_1, one_ne, zero_ne, true_or, or_true, gM_0, gM_1, gM_2, gM_3, gM_4, gM_5, gM_6, gM_7, gM_8, gM_9, gM_10, gM_11, gM_12, gM_13, gM_14, gM_15, gM_16, gM_17, gM_18, gM_19, gM_20, gM_21, gM_22, gM_23, gM_24, gM_25, gM_26, gM_27, gM_28, gM_29, gM_30, gM_31, gM_32, gM_33, gM_34, gM_35, gM_36, pM_0, pM_1, pM_6, pM_12, pM_17, pM_19, pM_20, pM_21, pM_22, pM_23, pM_26, pM_27, pM_28, pM_29, pM_34, pM_36, hm1, a13, a14, v16, c16, v0, hinj, hne', hup_app, pk_us]
        exact this
  · exact hT.elim
set_option maxRecDepth 100000 in
theorem con_X9_readRule {l : Launch} {s0 : State} {D : va_G} {cy : Nat → ClassId} {P : Pm} {a0 : Array Value} (hE : E0 l s0 D cy P a0) : Con l s0 D yX9_readRule (Cond.code yX9_readRule cX9_readRule 4 (some .boolean)) 6 132 (sp_X9_readRule cy P) := by
  refine con_of (clok_X9 hE _) (by decide) (fun as σ K KX h => okA_cat h.1) (Nat.le_of_ble_eq_true rfl) ?_ ?_ (m_X9_readRule cy P hE.2.2.2.1)
  · intro p e R s m args below meth c A Q hfr hlo hW B kd j g hg
    unfold iv_X9_readRule at hg
    split at hg
    · cases hg; exact inv_V (ci := 10) B (con_X9_blanks hE) rfl (fun as σ K KX h => rcvd_spec h.2.1) (cw_mk hE hW tw_1093 rfl tw_8 ⟨by decide, by decide⟩ rfl) rfl (wd hE hW tw_1090 rfl) (wd hE hW tw_1092 rfl) (wd hE hW (List.mem_of_getElem? (i := 34) (by decide +kernel)) rfl) (by rw [hfr]; decide) (by rw [hlo]; decide)
    · cases hg; exact inv_V (ci := 10) B (con_X9_word hE) rfl (fun as σ K KX h => rcvd_spec h.2.1) (cw_mk hE hW tw_1105 rfl tw_8 ⟨by decide, by decide⟩ rfl) rfl (wd hE hW tw_1102 rfl) (wd hE hW tw_1104 rfl) (wd hE hW (List.mem_of_getElem? (i := 37) (by decide +kernel)) rfl) (by rw [hfr]; decide) (by rw [hlo]; decide)
    · cases hg; exact inv_V (ci := 10) B (con_X9_isWord hE) rfl (fun as σ K KX h => rcvd_spec h.2.1) (cw_mk hE hW tw_1110 rfl tw_8 ⟨by decide, by decide⟩ rfl) rfl (wd hE hW tw_1107 rfl) (wd hE hW tw_1109 rfl) (wd hE hW (List.mem_of_getElem? (i := 38) (by decide +kernel)) rfl) (by rw [hfr]; decide) (by rw [hlo]; decide)
    · cases hg; exact inv_V (ci := 10) B (con_X9_readCondition hE) rfl (fun as σ K KX h => rcvd_spec h.2.1) (cw_mk hE hW tw_1117 rfl tw_8 ⟨by decide, by decide⟩ rfl) rfl (wd hE hW tw_1114 rfl) (wd hE hW tw_1116 rfl) (wd hE hW (List.mem_of_getElem? (i := 39) (by decide +kernel)) rfl) (by rw [hfr]; decide) (by rw [hlo]; decide)
    · cases hg
  · intro p e R s m args below meth c A K KX hfr hlo hW B htab
    exact xok_none htab
