/-! ===== the law's loop ===== -/
theorem v17 (v : Int32) : (∃ k : Nat, k < 17 ∧ v = nI k) ∨ (v.toInt < 0 ∨ 16 < v.toInt) := by
  by_cases h : v.toInt < 0 ∨ 16 < v.toInt
  · exact Or.inr h
  · refine Or.inl ⟨v.toInt.toNat, by omega, ?_⟩
    rw [← Int32.ofInt_toInt v]
    have e : ((v.toInt.toNat : Nat) : Int) = v.toInt := by omega
    rw [Int32.ofInt_toInt, ← Int32.toInt_inj, nI_toInt (by omega), e]
theorem lend {L i : Nat} (hL : L ≤ 3072) (hi : i ≤ 3078) : (nI L - 6 < nI i) = (L < i + 6) := by
  have e : nI L < nI (i + 6) ↔ L < i + 6 := ⟨fun z => by have := Int32.lt_iff_toInt_lt.mp z; rw [nI_toInt (by omega), nI_toInt (by omega)] at this; omega, fun z => Int32.lt_iff_toInt_lt.mpr (by rw [nI_toInt (by omega), nI_toInt (by omega)]; omega)⟩
  have h6 : ((6 : Int32)).toInt = 6 := rfl
  apply propext
  rw [Int32.lt_iff_toInt_lt, Int32.toInt_sub, nI_toInt (by omega), nI_toInt (by omega), h6, Int.bmod_eq_of_le (by omega) (by omega)]
  omega
theorem loop_hours {cy : Nat → ClassId} {P : Pm} {K : Option Value → Hp → Prop} {KX : String → Hp → Prop} {J : Jt} {scr L : Nat} {xs : Nat → Int32} {x m o i : Nat} {l5 l6 : Option Value} {σ σc σm : Hp} {f : Nat → Int64} {N : Nat → Nat} {M : Ms} {th : Int32} {rc rs t : Nat}
    (hJ : ∀ cut n pc ls st σ rc rs, wpS (cl_L P) cy P.2.1 obj cL_law (iv_L_law cy P) (fun _ => none) (fun _ => none) (some .boolean) K KX cut J n pc ls st σ rc rs → J pc ls st σ rc rs)
    (hI : ∀ pc ls st σ rc rs i, decode cL_law pc = .ok (.iaload, 1) → i < L → J (pc + 1) ls (.int (xs i) :: st) σ rc rs → J pc ls (.int (nI i) :: .ref scr :: st) σ rc rs) (hi : i + 6 ≤ L) (hQ : LQ cy o σ σc σm f) (hC : CX cy P σc x N M) (hM : MX cy σm m th N M) (hW : WF N M) (hrc : 3 * (t + 1) + 64 * (offc 2000 - offc (N 1)) ≤ rc) (hrs : 80 * (t + 1) + 7968 * (offc 2000 - offc (N 1)) ≤ rs)
    (hend : ∀ σ' l5 l6 rc' rs', (∃ σc σm f N' M' th, LQ cy o σ' σc σm f ∧ CX cy P σc x N' M' ∧ MX cy σm m th N' M' ∧ WF N' M' ∧ 3 * t + 64 * (offc 2000 - offc (N' 1)) ≤ rc' ∧ 80 * t + 7968 * (offc 2000 - offc (N' 1)) ≤ rs') → J 1247 [some (.ref scr), some (.ref x), some (.ref m), some (.ref o), some (.int (nI i)), l5, l6] [] σ' rc' rs') : J 894 [some (.ref scr), some (.ref x), some (.ref m), some (.ref o), some (.int (nI i)), l5, l6] [] σ rc rs := by
  have hnow := CX_now hQ.1 hC hW.1.1
  have h1 := hW.1.1
  have eb : (sp_L_hours cy P).2.1 [.ref x, .int (xs (i + 1)), .ref o] σ = bHours [.ref x, .int (xs (i + 1))] σ := rfl
  by_cases hn : 0 ≤ xs (i + 1) ∧ xs (i + 1) ≤ 200
  · obtain ⟨k, hk, hv⟩ : ∃ k : Nat, k ≤ 200 ∧ xs (i + 1) = nI k := by
      have z0 := Int32.le_iff_toInt_le.mp hn.1
      have z1 := Int32.le_iff_toInt_le.mp hn.2
      have c0 : (0 : Int32).toInt = 0 := rfl
      have c1 : (200 : Int32).toInt = 200 := rfl
      refine ⟨(xs (i + 1)).toInt.toNat, by omega, ?_⟩
      rw [← Int32.toInt_inj, nI_toInt (by omega)]
      omega
    have e2 : bHours [.ref x, .int (xs (i + 1))] σ = (64 * (offc (min (N 1 + k) 2000) - offc (N 1)) + 1, 7968 * (offc (min (N 1 + k) 2000) - offc (N 1)) + 6) := by
      unfold bHours
      dsimp only
      rw [if_pos hn, hnow.2, hv, nI_clamp (by omega)]
    have hb1 : offc (min (N 1 + k) 2000) ≤ offc 2000 := by unfold offc; omega
    have hb2 : offc (N 1) ≤ offc (min (N 1 + k) 2000) := by unfold offc; omega
    refine case_hours (n1 := min (N 1 + k) 2000) hJ hI nI_add hi hQ hC hM hW (by rw [eb, e2]; dsimp only; omega) (by rw [eb, e2]; dsimp only; omega) (fun z => absurd hn z) (fun k2 e hk2 => ?_) (fun σ' l5 l6 hE => ?_)
    · obtain rfl := nuq (n := 201) hv e (by omega) (by omega) (by decide)
      exact (hrs_now (S := (N, M)) hW.1).symm
    · obtain ⟨q1, q2, q3, q4, q5, q6, q7, q8, q9, q10, q11⟩ := hE
      refine hend σ' l5 l6 _ _ ⟨q1, q2, q3, q4, q5, q6, q7, q8, q9, q10, ?_, ?_⟩
      · rw [eb, e2, q11]; dsimp only; omega
      · rw [eb, e2, q11]; dsimp only; omega
  · have e2 : bHours [.ref x, .int (xs (i + 1))] σ = (1, 6) := if_neg hn
    refine case_hours (n1 := N 1) hJ hI nI_add hi hQ hC hM hW (by rw [eb, e2]; dsimp only; omega) (by rw [eb, e2]; dsimp only; omega) (fun _ => rfl) (fun k e hk => absurd (by rw [e]; exact ⟨nI_pos' (by omega), nI_le (b := 200) hk (by decide)⟩) hn) (fun σ' l5 l6 hE => ?_)
    obtain ⟨q1, q2, q3, q4, q5, q6, q7, q8, q9, q10, q11⟩ := hE
    refine hend σ' l5 l6 _ _ ⟨q1, q2, q3, q4, q5, q6, q7, q8, q9, q10, ?_, ?_⟩
    · rw [eb, e2, q11]; dsimp only; omega
    · rw [eb, e2, q11]; dsimp only; omega
theorem law_loop {cy : Nat → ClassId} {P : Pm} {K : Option Value → Hp → Prop} {KX : String → Hp → Prop} {J : Jt} {scr L : Nat} {xs : Nat → Int32} {x m o : Nat}
    (hJ : ∀ cut n pc ls st σ rc rs, wpS (cl_L P) cy P.2.1 obj cL_law (iv_L_law cy P) (fun _ => none) (fun _ => none) (some .boolean) K KX cut J n pc ls st σ rc rs → J pc ls st σ rc rs)
    (hI : ∀ pc ls st σ rc rs i, decode cL_law pc = .ok (.iaload, 1) → i < L → J (pc + 1) ls (.int (xs i) :: st) σ rc rs → J pc ls (.int (nI i) :: .ref scr :: st) σ rc rs)
    (hA : ∀ pc ls st σ rc rs, decode cL_law pc = .ok (.arraylength, 1) → J (pc + 1) ls (.int (nI L) :: st) σ rc rs → J pc ls (.ref scr :: st) σ rc rs) (hL : L ≤ 3072) (hK : ∀ σ, K (some (.int 1)) σ) : ∀ (n i : Nat) (l5 l6 : Option Value) (σ σc σm : Hp) (f : Nat → Int64) (N : Nat → Nat) (M : Ms) (th : Int32) (rc rs : Nat), L ≤ i + n → i ≤ 3078 → LQ cy o σ σc σm f → CX cy P σc x N M → MX cy σm m th N M → WF N M → 3 * ((L - i) / 6) + 64 * (offc 2000 - offc (N 1)) ≤ rc → 80 * ((L - i) / 6) + 7968 * (offc 2000 - offc (N 1)) ≤ rs → J 23 [some (.ref scr), some (.ref x), some (.ref m), some (.ref o), some (.int (nI i)), l5, l6] [] σ rc rs := by
  intro n
  induction n using Nat.strongRecOn with
  | ind n ih =>
  intro i l5 l6 σ σc σm f N M th rc rs hn hi8 hQ hC hM hW hrc hrs
  refine wp_of_S hJ (ct [26]) 400 _ _ _ _ _ _ ?_
  simp only [w_iload (cut := ct [26]) (pc' := 25) (i := 4) rfl dL_law_23 rfl rfl, w_aload_n (cut := ct [26]) (pc' := 26) (i := 0) rfl dL_law_25 rfl rfl, w_cut (cut := ct [26]) (pc := 26) rfl, rsum, cg_int, cg_ref, cg_null, nby0, strd, mStr, onAL, true_imp_iff, false_imp_iff, not_true_eq_false, not_false_eq_true, Classical.not_not, eq_self, e10, e01, em1, Int32.reduceLT, Int32.reduceLE, onBoat, onGale, onOut, onPort, onRep, onWarn, yn, b0, okA, rcvd, nb0, nb1, ini, List.map_cons, List.map_nil, List.replicate_zero, List.replicate_succ, List.append_nil, ldI, ldA, incK, getK, putK, oldK, castK, nwO, nwA, nwR, alen, ald, bald, ast, lald, last, rald, rast, goTo, nth, sto, setN, popN, okv, cat1_int, cat1_ref, cat1_null, cat1_rf, va_rf, hup_same, hup_hup, List.length_cons, List.length_nil, List.nil_append, List.cons_append, Option.toList, true_and, and_true, Nat.reduceAdd, Nat.reduceSub, Nat.reduceLT, Nat.reduceLeDiff, Nat.zero_le, Nat.sub_zero, Nat.zero_lt_succ, Nat.lt_add_left_iff_pos, Nat.succ_lt_succ_iff]
  refine hA 26 _ _ _ _ _ dL_law_26 ?_
  refine wp_of_S hJ (ct [33, 1253]) 400 _ _ _ _ _ _ ?_
  simp only [w_bipush (cut := ct [33, 1253]) (pc' := 29) (v := 6) rfl dL_law_27 rfl rfl, w_isub (cut := ct [33, 1253]) (pc' := 30) rfl dL_law_29 rfl, w_icmp_gt (cut := ct [33, 1253]) (pc' := 33) (t := 1253) rfl dL_law_30 rfl (by decide) rfl, w_cut (cut := ct [33, 1253]) (pc := 33) rfl, w_cut (cut := ct [33, 1253]) (pc := 1253) rfl, rsum, cg_int, cg_ref, cg_null, nby0, strd, mStr, onAL, true_imp_iff, false_imp_iff, not_true_eq_false, not_false_eq_true, Classical.not_not, eq_self, e10, e01, em1, Int32.reduceLT, Int32.reduceLE, onBoat, onGale, onOut, onPort, onRep, onWarn, yn, b0, okA, rcvd, nb0, nb1, ini, List.map_cons, List.map_nil, List.replicate_zero, List.replicate_succ, List.append_nil, ldI, ldA, incK, getK, putK, oldK, castK, nwO, nwA, nwR, alen, ald, bald, ast, lald, last, rald, rast, goTo, nth, sto, setN, popN, okv, cat1_int, cat1_ref, cat1_null, cat1_rf, va_rf, hup_same, hup_hup, List.length_cons, List.length_nil, List.nil_append, List.cons_append, Option.toList, true_and, and_true, Nat.reduceAdd, Nat.reduceSub, Nat.reduceLT, Nat.reduceLeDiff, Nat.zero_le, Nat.sub_zero, Nat.zero_lt_succ, Nat.lt_add_left_iff_pos, Nat.succ_lt_succ_iff, lend hL hi8]
  refine ⟨fun _ => ?_, fun hi => ?_⟩
  · refine wp_of_S hJ (ct []) 400 _ _ _ _ _ _ ?_
    simp only [w_iconst (cut := ct []) (pc' := 1254) (v := 1) rfl dL_law_1253 rfl rfl, w_ireturn (ty := .boolean) (cut := ct []) rfl dL_law_1254 rfl, rsum, cg_int, cg_ref, cg_null, nby0, strd, mStr, onAL, true_imp_iff, false_imp_iff, not_true_eq_false, not_false_eq_true, Classical.not_not, eq_self, e10, e01, em1, Int32.reduceLT, Int32.reduceLE, onBoat, onGale, onOut, onPort, onRep, onWarn, yn, b0, okA, rcvd, nb0, nb1, ini, List.map_cons, List.map_nil, List.replicate_zero, List.replicate_succ, List.append_nil, ldI, ldA, incK, getK, putK, oldK, castK, nwO, nwA, nwR, alen, ald, bald, ast, lald, last, rald, rast, goTo, nth, sto, setN, popN, okv, cat1_int, cat1_ref, cat1_null, cat1_rf, va_rf, hup_same, hup_hup, List.length_cons, List.length_nil, List.nil_append, List.cons_append, Option.toList, true_and, and_true, Nat.reduceAdd, Nat.reduceSub, Nat.reduceLT, Nat.reduceLeDiff, Nat.zero_le, Nat.sub_zero, Nat.zero_lt_succ, Nat.lt_add_left_iff_pos, Nat.succ_lt_succ_iff]
    exact hK _
  have hi : i + 6 ≤ L := by omega
  have hd : (L - i) / 6 = (L - (i + 6)) / 6 + 1 := by omega
  have hnext : ∀ σ' l5 l6 rc' rs', (∃ σc σm f N' M' th, LQ cy o σ' σc σm f ∧ CX cy P σc x N' M' ∧ MX cy σm m th N' M' ∧ WF N' M' ∧ 3 * ((L - (i + 6)) / 6) + 64 * (offc 2000 - offc (N' 1)) ≤ rc' ∧ 80 * ((L - (i + 6)) / 6) + 7968 * (offc 2000 - offc (N' 1)) ≤ rs') → J 1247 [some (.ref scr), some (.ref x), some (.ref m), some (.ref o), some (.int (nI i)), l5, l6] [] σ' rc' rs' := by
    intro σ' l5 l6 rc' rs' ⟨σc', σm', f', N', M', th', q1, q2, q3, q4, q5, q6⟩
    refine wp_of_S hJ (ct [23]) 400 _ _ _ _ _ _ ?_
    simp only [w_cut (cut := ct [23]) (pc := 23) rfl, w_iinc (cut := ct [23]) (pc' := 1250) (d := 6) rfl dL_law_1247 rfl rfl, w_goto (cut := ct [23]) (t := 23) rfl dL_law_1250 (by decide) rfl, rsum, cg_int, cg_ref, cg_null, nby0, strd, mStr, onAL, true_imp_iff, false_imp_iff, not_true_eq_false, not_false_eq_true, Classical.not_not, eq_self, e10, e01, em1, Int32.reduceLT, Int32.reduceLE, onBoat, onGale, onOut, onPort, onRep, onWarn, yn, b0, okA, rcvd, nb0, nb1, ini, List.map_cons, List.map_nil, List.replicate_zero, List.replicate_succ, List.append_nil, ldI, ldA, incK, getK, putK, oldK, castK, nwO, nwA, nwR, alen, ald, bald, ast, lald, last, rald, rast, goTo, nth, sto, setN, popN, okv, cat1_int, cat1_ref, cat1_null, cat1_rf, va_rf, hup_same, hup_hup, List.length_cons, List.length_nil, List.nil_append, List.cons_append, Option.toList, true_and, and_true, Nat.reduceAdd, Nat.reduceSub, Nat.reduceLT, Nat.reduceLeDiff, Nat.zero_le, Nat.sub_zero, Nat.zero_lt_succ, Nat.lt_add_left_iff_pos, Nat.succ_lt_succ_iff]
    rw [show nI i + 6 = nI (i + 6) from nI_add i 6]
    exact ih (L - (i + 6)) (by omega) (i + 6) _ _ _ _ _ _ _ _ _ _ _ (by omega) (by omega) q1 q2 q3 q4 q5 q6
  refine wp_of_S hJ (ct [36]) 400 _ _ _ _ _ _ ?_
  simp only [w_aload_n (cut := ct [36]) (pc' := 34) (i := 0) rfl dL_law_33 rfl rfl, w_iload (cut := ct [36]) (pc' := 36) (i := 4) rfl dL_law_34 rfl rfl, w_cut (cut := ct [36]) (pc := 36) rfl, rsum, cg_int, cg_ref, cg_null, nby0, strd, mStr, onAL, true_imp_iff, false_imp_iff, not_true_eq_false, not_false_eq_true, Classical.not_not, eq_self, e10, e01, em1, Int32.reduceLT, Int32.reduceLE, onBoat, onGale, onOut, onPort, onRep, onWarn, yn, b0, okA, rcvd, nb0, nb1, ini, List.map_cons, List.map_nil, List.replicate_zero, List.replicate_succ, List.append_nil, ldI, ldA, incK, getK, putK, oldK, castK, nwO, nwA, nwR, alen, ald, bald, ast, lald, last, rald, rast, goTo, nth, sto, setN, popN, okv, cat1_int, cat1_ref, cat1_null, cat1_rf, va_rf, hup_same, hup_hup, List.length_cons, List.length_nil, List.nil_append, List.cons_append, Option.toList, true_and, and_true, Nat.reduceAdd, Nat.reduceSub, Nat.reduceLT, Nat.reduceLeDiff, Nat.zero_le, Nat.sub_zero, Nat.zero_lt_succ, Nat.lt_add_left_iff_pos, Nat.succ_lt_succ_iff]
  refine hI 36 _ _ _ _ _ _ dL_law_36 (by omega) ?_
  refine wp_of_S hJ (ct [40]) 400 _ _ _ _ _ _ ?_
  simp only [w_bipush (cut := ct [40]) (pc' := 39) (v := 31) rfl dL_law_37 rfl rfl, w_iand (cut := ct [40]) (pc' := 40) rfl dL_law_39 rfl, w_cut (cut := ct [40]) (pc := 40) rfl, rsum, cg_int, cg_ref, cg_null, nby0, strd, mStr, onAL, true_imp_iff, false_imp_iff, not_true_eq_false, not_false_eq_true, Classical.not_not, eq_self, e10, e01, em1, Int32.reduceLT, Int32.reduceLE, onBoat, onGale, onOut, onPort, onRep, onWarn, yn, b0, okA, rcvd, nb0, nb1, ini, List.map_cons, List.map_nil, List.replicate_zero, List.replicate_succ, List.append_nil, ldI, ldA, incK, getK, putK, oldK, castK, nwO, nwA, nwR, alen, ald, bald, ast, lald, last, rald, rast, goTo, nth, sto, setN, popN, okv, cat1_int, cat1_ref, cat1_null, cat1_rf, va_rf, hup_same, hup_hup, List.length_cons, List.length_nil, List.nil_append, List.cons_append, Option.toList, true_and, and_true, Nat.reduceAdd, Nat.reduceSub, Nat.reduceLT, Nat.reduceLeDiff, Nat.zero_le, Nat.sub_zero, Nat.zero_lt_succ, Nat.lt_add_left_iff_pos, Nat.succ_lt_succ_iff]
  generalize xs i &&& 31 = v
  rcases v17 v with ⟨k, hk, hv⟩ | hv
  · rcases (by omega : k = 0 ∨ k = 1 ∨ k = 2 ∨ k = 3 ∨ k = 4 ∨ k = 5 ∨ k = 6 ∨ k = 7 ∨ k = 8 ∨ k = 9 ∨ k = 10 ∨ k = 11 ∨ k = 12 ∨ k = 13 ∨ k = 14 ∨ k = 15 ∨ k = 16) with rfl | rfl | rfl | rfl | rfl | rfl | rfl | rfl | rfl | rfl | rfl | rfl | rfl | rfl | rfl | rfl | rfl
    · obtain rfl : v = 0 := hv
      refine wp_of_S hJ (ct [124]) 3 _ _ _ _ _ _ ?_
      rw [w_tsw (v := 0) (o := 84) (cut := ct [124]) (t := 124) rfl dL_law_40 (by decide) (by decide) rfl (by decide) rfl, w_cut (cut := ct [124]) rfl]
      exact case_feed hJ hI nI_add hi hQ hC hM hW (fun σ' l5 l6 hE => hnext σ' l5 l6 _ _ (by obtain ⟨q1, q2, q3, q4, q5, q6, q7, q8, q9, q10, q11⟩ := hE; exact ⟨q1, q2, q3, q4, q5, q6, q7, q8, q9, q10, by rw [q11]; omega, by rw [q11]; omega⟩))
    · obtain rfl : v = 1 := hv
      refine wp_of_S hJ (ct [197]) 3 _ _ _ _ _ _ ?_
      rw [w_tsw (v := 1) (o := 157) (cut := ct [197]) (t := 197) rfl dL_law_40 (by decide) (by decide) rfl (by decide) rfl, w_cut (cut := ct [197]) rfl]
      exact case_end hJ hI nI_add hi hQ hC hM hW (fun σ' l5 l6 hE => hnext σ' l5 l6 _ _ (by obtain ⟨q1, q2, q3, q4, q5, q6, q7, q8, q9, q10, q11⟩ := hE; exact ⟨q1, q2, q3, q4, q5, q6, q7, q8, q9, q10, by rw [q11]; omega, by rw [q11]; omega⟩))
    · obtain rfl : v = 2 := hv
      refine wp_of_S hJ (ct [222]) 3 _ _ _ _ _ _ ?_
      rw [w_tsw (v := 2) (o := 182) (cut := ct [222]) (t := 222) rfl dL_law_40 (by decide) (by decide) rfl (by decide) rfl, w_cut (cut := ct [222]) rfl]
      exact case_port hJ hI nI_add hi hQ hC hM hW (by omega) (by omega) (fun σ' l5 l6 hE => hnext σ' l5 l6 _ _ (by obtain ⟨q1, q2, q3, q4, q5, q6, q7, q8, q9, q10, q11⟩ := hE; exact ⟨q1, q2, q3, q4, q5, q6, q7, q8, q9, q10, by rw [q11]; omega, by rw [q11]; omega⟩))
    · obtain rfl : v = 3 := hv
      refine wp_of_S hJ (ct [314]) 3 _ _ _ _ _ _ ?_
      rw [w_tsw (v := 3) (o := 274) (cut := ct [314]) (t := 314) rfl dL_law_40 (by decide) (by decide) rfl (by decide) rfl, w_cut (cut := ct [314]) rfl]
      exact case_report hJ hI nI_add hi hQ hC hM hW (by omega) (by omega) (fun σ' l5 l6 hE => hnext σ' l5 l6 _ _ (by obtain ⟨q1, q2, q3, q4, q5, q6, q7, q8, q9, q10, q11⟩ := hE; exact ⟨q1, q2, q3, q4, q5, q6, q7, q8, q9, q10, by rw [q11]; omega, by rw [q11]; omega⟩))
    · obtain rfl : v = 4 := hv
      refine wp_of_S hJ (ct [406]) 3 _ _ _ _ _ _ ?_
      rw [w_tsw (v := 4) (o := 366) (cut := ct [406]) (t := 406) rfl dL_law_40 (by decide) (by decide) rfl (by decide) rfl, w_cut (cut := ct [406]) rfl]
      exact case_counts hJ hI nI_add hi hQ hC hM hW (by omega) (by omega) (fun σ' l5 l6 hE => hnext σ' l5 l6 _ _ (by obtain ⟨q1, q2, q3, q4, q5, q6, q7, q8, q9, q10, q11⟩ := hE; exact ⟨q1, q2, q3, q4, q5, q6, q7, q8, q9, q10, by rw [q11]; omega, by rw [q11]; omega⟩))
    · obtain rfl : v = 5 := hv
      refine wp_of_S hJ (ct [486]) 3 _ _ _ _ _ _ ?_
      rw [w_tsw (v := 5) (o := 446) (cut := ct [486]) (t := 486) rfl dL_law_40 (by decide) (by decide) rfl (by decide) rfl, w_cut (cut := ct [486]) rfl]
      exact case_field hJ hI nI_add hi hQ hC hM hW (by omega) (by omega) (fun σ' l5 l6 hE => hnext σ' l5 l6 _ _ (by obtain ⟨q1, q2, q3, q4, q5, q6, q7, q8, q9, q10, q11⟩ := hE; exact ⟨q1, q2, q3, q4, q5, q6, q7, q8, q9, q10, by rw [q11]; omega, by rw [q11]; omega⟩))
    · obtain rfl : v = 6 := hv
      refine wp_of_S hJ (ct [578]) 3 _ _ _ _ _ _ ?_
      rw [w_tsw (v := 6) (o := 538) (cut := ct [578]) (t := 578) rfl dL_law_40 (by decide) (by decide) rfl (by decide) rfl, w_cut (cut := ct [578]) rfl]
      exact case_rules hJ hI nI_add hi hQ hC hM hW (by omega) (by omega) (fun σ' l5 l6 hE => hnext σ' l5 l6 _ _ (by obtain ⟨q1, q2, q3, q4, q5, q6, q7, q8, q9, q10, q11⟩ := hE; exact ⟨q1, q2, q3, q4, q5, q6, q7, q8, q9, q10, by rw [q11]; omega, by rw [q11]; omega⟩))
    · obtain rfl : v = 7 := hv
      refine wp_of_S hJ (ct [622]) 3 _ _ _ _ _ _ ?_
      rw [w_tsw (v := 7) (o := 582) (cut := ct [622]) (t := 622) rfl dL_law_40 (by decide) (by decide) rfl (by decide) rfl, w_cut (cut := ct [622]) rfl]
      exact case_fault hJ hI nI_add hi hQ hC hM hW (fun σ' l5 l6 hE => hnext σ' l5 l6 _ _ (by obtain ⟨q1, q2, q3, q4, q5, q6, q7, q8, q9, q10, q11⟩ := hE; exact ⟨q1, q2, q3, q4, q5, q6, q7, q8, q9, q10, by rw [q11]; omega, by rw [q11]; omega⟩))
    · obtain rfl : v = 8 := hv
      refine wp_of_S hJ (ct [635]) 3 _ _ _ _ _ _ ?_
      rw [w_tsw (v := 8) (o := 595) (cut := ct [635]) (t := 635) rfl dL_law_40 (by decide) (by decide) rfl (by decide) rfl, w_cut (cut := ct [635]) rfl]
      exact case_gale hJ hI nI_add hi hQ hC hM hW (by omega) (by omega) (fun σ' l5 l6 hE => hnext σ' l5 l6 _ _ (by obtain ⟨q1, q2, q3, q4, q5, q6, q7, q8, q9, q10, q11⟩ := hE; exact ⟨q1, q2, q3, q4, q5, q6, q7, q8, q9, q10, by rw [q11]; omega, by rw [q11]; omega⟩))
    · obtain rfl : v = 9 := hv
      refine wp_of_S hJ (ct [727]) 3 _ _ _ _ _ _ ?_
      rw [w_tsw (v := 9) (o := 687) (cut := ct [727]) (t := 727) rfl dL_law_40 (by decide) (by decide) rfl (by decide) rfl, w_cut (cut := ct [727]) rfl]
      exact case_boat hJ hI nI_add hi hQ hC hM hW (by omega) (by omega) (fun σ' l5 l6 hE => hnext σ' l5 l6 _ _ (by obtain ⟨q1, q2, q3, q4, q5, q6, q7, q8, q9, q10, q11⟩ := hE; exact ⟨q1, q2, q3, q4, q5, q6, q7, q8, q9, q10, by rw [q11]; omega, by rw [q11]; omega⟩))
    · obtain rfl : v = 10 := hv
      refine wp_of_S hJ (ct [807]) 3 _ _ _ _ _ _ ?_
      rw [w_tsw (v := 10) (o := 767) (cut := ct [807]) (t := 807) rfl dL_law_40 (by decide) (by decide) rfl (by decide) rfl, w_cut (cut := ct [807]) rfl]
      exact case_trip hJ hI nI_add hi hQ hC hM hW (by omega) (by omega) (fun σ' l5 l6 hE => hnext σ' l5 l6 _ _ (by obtain ⟨q1, q2, q3, q4, q5, q6, q7, q8, q9, q10, q11⟩ := hE; exact ⟨q1, q2, q3, q4, q5, q6, q7, q8, q9, q10, by rw [q11]; omega, by rw [q11]; omega⟩))
    · obtain rfl : v = 11 := hv
      refine wp_of_S hJ (ct [894]) 3 _ _ _ _ _ _ ?_
      rw [w_tsw (v := 11) (o := 854) (cut := ct [894]) (t := 894) rfl dL_law_40 (by decide) (by decide) rfl (by decide) rfl, w_cut (cut := ct [894]) rfl]
      exact loop_hours hJ hI hi hQ hC hM hW (by omega) (by omega) (fun σ' l5 l6 rc' rs' hE => hnext σ' l5 l6 rc' rs' hE)
    · obtain rfl : v = 12 := hv
      refine wp_of_S hJ (ct [950]) 3 _ _ _ _ _ _ ?_
      rw [w_tsw (v := 12) (o := 910) (cut := ct [950]) (t := 950) rfl dL_law_40 (by decide) (by decide) rfl (by decide) rfl, w_cut (cut := ct [950]) rfl]
      exact case_flies hJ hI nI_add hi hQ hC hM hW (by omega) (by omega) (fun σ' l5 l6 hE => hnext σ' l5 l6 _ _ (by obtain ⟨q1, q2, q3, q4, q5, q6, q7, q8, q9, q10, q11⟩ := hE; exact ⟨q1, q2, q3, q4, q5, q6, q7, q8, q9, q10, by rw [q11]; omega, by rw [q11]; omega⟩))
    · obtain rfl : v = 13 := hv
      refine wp_of_S hJ (ct [1018]) 3 _ _ _ _ _ _ ?_
      rw [w_tsw (v := 13) (o := 978) (cut := ct [1018]) (t := 1018) rfl dL_law_40 (by decide) (by decide) rfl (by decide) rfl, w_cut (cut := ct [1018]) rfl]
      exact case_warning hJ hI nI_add hi hQ hC hM hW (by omega) (by omega) (fun σ' l5 l6 hE => hnext σ' l5 l6 _ _ (by obtain ⟨q1, q2, q3, q4, q5, q6, q7, q8, q9, q10, q11⟩ := hE; exact ⟨q1, q2, q3, q4, q5, q6, q7, q8, q9, q10, by rw [q11]; omega, by rw [q11]; omega⟩))
    · obtain rfl : v = 14 := hv
      refine wp_of_S hJ (ct [1086]) 3 _ _ _ _ _ _ ?_
      rw [w_tsw (v := 14) (o := 1046) (cut := ct [1086]) (t := 1086) rfl dL_law_40 (by decide) (by decide) rfl (by decide) rfl, w_cut (cut := ct [1086]) rfl]
      exact case_look hJ hI nI_add hi hQ hC hM hW (by omega) (by omega) (fun σ' l5 l6 hE => hnext σ' l5 l6 _ _ (by obtain ⟨q1, q2, q3, q4, q5, q6, q7, q8, q9, q10, q11⟩ := hE; exact ⟨q1, q2, q3, q4, q5, q6, q7, q8, q9, q10, by rw [q11]; omega, by rw [q11]; omega⟩))
    · obtain rfl : v = 15 := hv
      refine wp_of_S hJ (ct [1154]) 3 _ _ _ _ _ _ ?_
      rw [w_tsw (v := 15) (o := 1114) (cut := ct [1154]) (t := 1154) rfl dL_law_40 (by decide) (by decide) rfl (by decide) rfl, w_cut (cut := ct [1154]) rfl]
      exact case_score hJ hI nI_add hi hQ hC hM hW (by omega) (by omega) (fun σ' l5 l6 hE => hnext σ' l5 l6 _ _ (by obtain ⟨q1, q2, q3, q4, q5, q6, q7, q8, q9, q10, q11⟩ := hE; exact ⟨q1, q2, q3, q4, q5, q6, q7, q8, q9, q10, by rw [q11]; omega, by rw [q11]; omega⟩))
    · obtain rfl : v = 16 := hv
      refine wp_of_S hJ (ct [1222]) 3 _ _ _ _ _ _ ?_
      rw [w_tsw (v := 16) (o := 1182) (cut := ct [1222]) (t := 1222) rfl dL_law_40 (by decide) (by decide) rfl (by decide) rfl, w_cut (cut := ct [1222]) rfl]
      exact case_count hJ hI nI_add hi hQ hC hM hW (fun σ' l5 l6 hE => hnext σ' l5 l6 _ _ (by obtain ⟨q1, q2, q3, q4, q5, q6, q7, q8, q9, q10, q11⟩ := hE; exact ⟨q1, q2, q3, q4, q5, q6, q7, q8, q9, q10, by rw [q11]; omega, by rw [q11]; omega⟩))
  · refine wp_of_S hJ (ct [1247]) 3 _ _ _ _ _ _ ?_
    rw [w_tsd (cut := ct [1247]) (t := 1247) rfl dL_law_40 (by decide) rfl hv, w_cut (cut := ct [1247]) rfl]
    exact hnext σ l5 l6 _ _ ⟨_, _, _, _, _, _, hQ, hC, hM, hW, by omega, by omega⟩
theorem mrg_self {τ σ : Hp} : mrg τ σ σ = τ := by
  funext a
  unfold mrg
  cases h : τ a with
  | some e => rfl
  | none =>
    cases h2 : σ a with
    | some e => rfl
    | none => rfl
theorem LQ_new {cy : Nat → ClassId} {m o : Nat} {σc σm : Hp} {e : va_E} {f : Nat → Int64} (hm : σc m = none) (hf : fresh σm (hup (fun _ => none) m e) (hup σc m e)) (ho : mrg σm (hup (fun _ => none) m e) (hup σc m e) o = none) : LQ cy o (hup (mrg σm (hup (fun _ => none) m e) (hup σc m e)) o (oJ cy f)) σc σm f := by
  have hcm : ∀ a e', σc a = some e' → a ≠ m := fun a e' h z => by rw [z, hm] at h; cases h
  have hc : ∀ a e', σc a = some e' → σm a = none ∧ mrg σm (hup (fun _ => none) m e) (hup σc m e) a = some e' := fun a e' h =>
    mrg_at (by rw [hup_ne _ _ (hcm a e' h)]; exact h) (by rw [hup_ne _ _ (hcm a e' h)]) hf
  have hne : ∀ a e', mrg σm (hup (fun _ => none) m e) (hup σc m e) a = some e' → a ≠ o := fun a e' h z => by rw [z, ho] at h; cases h
  refine ⟨fun a e' h => ?_, fun a e' h => ?_, fun a h => ?_, hup_same _ _ _, ?_, ?_⟩
  · have := (hc a e' h).2; rw [hup_ne _ _ (hne a e' this)]; exact this
  · have := sub_mrg (σ1 := hup (fun _ => none) m e) (σ := hup σc m e) a e' h; rw [hup_ne _ _ (hne a e' this)]; exact this
  · cases hv : σc a with
    | none => exact absurd hv h
    | some e' => exact (hc a e' hv).1
  · cases hv : σc o with
    | none => rfl
    | some e' => have := (hc o e' hv).2; rw [ho] at this; cases this
  · cases hv : σm o with
    | none => rfl
    | some e' => have := sub_mrg (σ1 := hup (fun _ => none) m e) (σ := hup σc m e) o e' hv; rw [ho] at this; cases this
def eM : va_E := .inr (10, [.int 0, .int 0, .null, .null, .null, .null, .int 0, .null, .null, .null, .null, .null, .int 0, .null, .null, .null, .null, .int 0, .null, .int 0, .int 0, .int 0, .int 0, .int 0, .null, .null, .int 0, .int 0, .int 0, .int 0, .null, .null, .null, .null, .int 0, .null, .int 0])
theorem c_new {cy : Nat → ClassId} {P : Pm} {x : Nat} {K : Option Value → Hp → Prop} {KX : String → Hp → Prop} (h : ∀ τ, CX cy P τ x (fun _ => 0) M0 → K none τ) : (fs_X8_init cy P).2.2 [.ref x] (hup (fun _ => none) x (oS0 .null .null .null .null .null .null .null .null 0 0 0)) K KX := by
  refine ⟨_, fun _ _ h => h, rfl, rfl, ?_, hup_same _ _ _, fun σ' hC hf => ?_⟩
  · simp only [rcvd, hup_same, oS0]
  · rw [mrg_self]; exact h σ' hC
theorem m_new {cy : Nat → ClassId} {P : Pm} {m : Nat} {σ : Hp} {K : Option Value → Hp → Prop} {KX : String → Hp → Prop} (h : ∀ τ, MX cy τ m 0 (fun _ => 0) M0 → fresh τ (hup (fun _ => none) m eM) (hup σ m eM) → K none (mrg τ (hup (fun _ => none) m eM) (hup σ m eM))) : (fs_X9_init cy P).2.2 [.ref m] (hup σ m eM) K KX := by
  refine ⟨hup (fun _ => none) m eM, fun a e ha => ?_, rfl, rfl, ?_, hup_same _ _ _, fun σ' hM hf => h σ' hM hf⟩
  · by_cases hq : a = m
    · subst hq; rw [hup_same] at ha ⊢; exact ha
    · rw [hup_ne _ _ hq] at ha; cases ha
  · simp only [rcvd, hup_same, eM]
theorem law_pure {cy : Nat → ClassId} {P : Pm} {K : Option Value → Hp → Prop} {KX : String → Hp → Prop} {J : Jt} {scr L : Nat} {xs : Nat → Int32}
    (hJ : ∀ cut n pc ls st σ rc rs, wpS (cl_L P) cy P.2.1 obj cL_law (iv_L_law cy P) (fun _ => none) (fun _ => none) (some .boolean) K KX cut J n pc ls st σ rc rs → J pc ls st σ rc rs)
    (hI : ∀ pc ls st σ rc rs i, decode cL_law pc = .ok (.iaload, 1) → i < L → J (pc + 1) ls (.int (xs i) :: st) σ rc rs → J pc ls (.int (nI i) :: .ref scr :: st) σ rc rs)
    (hA : ∀ pc ls st σ rc rs, decode cL_law pc = .ok (.arraylength, 1) → J (pc + 1) ls (.int (nI L) :: st) σ rc rs → J pc ls (.ref scr :: st) σ rc rs) (hL : L ≤ 3072) (hK : ∀ σ, K (some (.int 1)) σ) : J 0 [some (.ref scr), none, none, none, none, none, none] [] (fun _ => none) 601024 7293034 := by
  refine wp_of_S hJ (ct [7]) 400 _ _ _ _ _ _ ?_
  simp only [w_new (thr := fun _ => none) (cut := ct [7]) rfl dL_law_0 rfl (q_L_n8 P), w_dup (cut := ct [7]) (pc' := 4) rfl dL_law_3 rfl, w_invoke (inv := iv_L_law cy P) (kd := 2) (f := 62) (g := fs_X8_init cy P) (cut := ct [7]) rfl dL_law_4 rfl (by decide) rfl, w_cut (cut := ct [7]) (pc := 7) rfl, rsum, cg_int, cg_ref, cg_null, nby0, strd, mStr, onAL, true_imp_iff, false_imp_iff, not_true_eq_false, not_false_eq_true, Classical.not_not, eq_self, e10, e01, em1, Int32.reduceLT, Int32.reduceLE, onBoat, onGale, onOut, onPort, onRep, onWarn, yn, b0, okA, rcvd, nb0, nb1, ini, List.map_cons, List.map_nil, List.replicate_zero, List.replicate_succ, List.append_nil, ldI, ldA, incK, getK, putK, oldK, castK, nwO, nwA, nwR, alen, ald, bald, ast, lald, last, rald, rast, goTo, nth, sto, setN, popN, okv, cat1_int, cat1_ref, cat1_null, cat1_rf, va_rf, hup_same, hup_hup, List.length_cons, List.length_nil, List.nil_append, List.cons_append, Option.toList, true_and, and_true, Nat.reduceAdd, Nat.reduceSub, Nat.reduceLT, Nat.reduceLeDiff, Nat.zero_le, Nat.sub_zero, Nat.zero_lt_succ, Nat.lt_add_left_iff_pos, Nat.succ_lt_succ_iff, inv1_go, ln_X8_init, lb_X8_init]
  refine fun x hx => c_new (fun σc hC => ?_)
  refine wp_of_S hJ (ct [15]) 400 _ _ _ _ _ _ ?_
  simp only [w_astore_n (cut := ct [15]) (pc' := 8) (i := 1) rfl dL_law_7 rfl rfl, w_astore_nN (cut := ct [15]) (pc' := 8) (i := 1) rfl dL_law_7 rfl rfl, w_new (thr := fun _ => none) (cut := ct [15]) rfl dL_law_8 rfl (q_L_n63 P), w_dup (cut := ct [15]) (pc' := 12) rfl dL_law_11 rfl, w_invoke (inv := iv_L_law cy P) (kd := 2) (f := 65) (g := fs_X9_init cy P) (cut := ct [15]) rfl dL_law_12 rfl (by decide) rfl, w_cut (cut := ct [15]) (pc := 15) rfl, rsum, cg_int, cg_ref, cg_null, nby0, strd, mStr, onAL, true_imp_iff, false_imp_iff, not_true_eq_false, not_false_eq_true, Classical.not_not, eq_self, e10, e01, em1, Int32.reduceLT, Int32.reduceLE, onBoat, onGale, onOut, onPort, onRep, onWarn, yn, b0, okA, rcvd, nb0, nb1, ini, List.map_cons, List.map_nil, List.replicate_zero, List.replicate_succ, List.append_nil, ldI, ldA, incK, getK, putK, oldK, castK, nwO, nwA, nwR, alen, ald, bald, ast, lald, last, rald, rast, goTo, nth, sto, setN, popN, okv, cat1_int, cat1_ref, cat1_null, cat1_rf, va_rf, hup_same, hup_hup, List.length_cons, List.length_nil, List.nil_append, List.cons_append, Option.toList, true_and, and_true, Nat.reduceAdd, Nat.reduceSub, Nat.reduceLT, Nat.reduceLeDiff, Nat.zero_le, Nat.sub_zero, Nat.zero_lt_succ, Nat.lt_add_left_iff_pos, Nat.succ_lt_succ_iff, inv1_go, ln_X9_init, lb_X9_init]
  refine fun m hm hmz => m_new (fun σm hM hf => ?_)
  refine wp_of_S hJ (ct [23]) 400 _ _ _ _ _ _ ?_
  simp only [w_astore_n (cut := ct [23]) (pc' := 16) (i := 2) rfl dL_law_15 rfl rfl, w_astore_nN (cut := ct [23]) (pc' := 16) (i := 2) rfl dL_law_15 rfl rfl, w_iconst (cut := ct [23]) (pc' := 17) (v := 1) rfl dL_law_16 rfl rfl, w_newarray_long (cut := ct [23]) rfl dL_law_17, w_astore_n (cut := ct [23]) (pc' := 20) (i := 3) rfl dL_law_19 rfl rfl, w_astore_nN (cut := ct [23]) (pc' := 20) (i := 3) rfl dL_law_19 rfl rfl, w_iconst (cut := ct [23]) (pc' := 21) (v := 0) rfl dL_law_20 rfl rfl, w_istore (cut := ct [23]) (pc' := 23) (i := 4) rfl dL_law_21 rfl rfl, w_cut (cut := ct [23]) (pc := 23) rfl, rsum, cg_int, cg_ref, cg_null, nby0, strd, mStr, onAL, true_imp_iff, false_imp_iff, not_true_eq_false, not_false_eq_true, Classical.not_not, eq_self, e10, e01, em1, Int32.reduceLT, Int32.reduceLE, onBoat, onGale, onOut, onPort, onRep, onWarn, yn, b0, okA, rcvd, nb0, nb1, ini, List.map_cons, List.map_nil, List.replicate_zero, List.replicate_succ, List.append_nil, ldI, ldA, incK, getK, putK, oldK, castK, nwO, nwA, nwR, alen, ald, bald, ast, lald, last, rald, rast, goTo, nth, sto, setN, popN, okv, cat1_int, cat1_ref, cat1_null, cat1_rf, va_rf, hup_same, hup_hup, List.length_cons, List.length_nil, List.nil_append, List.cons_append, Option.toList, true_and, and_true, Nat.reduceAdd, Nat.reduceSub, Nat.reduceLT, Nat.reduceLeDiff, Nat.zero_le, Nat.sub_zero, Nat.zero_lt_succ, Nat.lt_add_left_iff_pos, Nat.succ_lt_succ_iff]
  have e1 : (1 : Int32).toNatClampNeg = 1 := rfl
  rw [e1]
  refine ⟨by decide, by decide, fun o ho hoz => law_loop hJ hI hA hL hK L 0 none none _ σc σm (fun _ => 0) (fun _ => 0) M0 0 _ _ (by omega) (by omega) (LQ_new hm hf ho) hC hM WF_0 ?_ ?_⟩
  · have h1 : offc 2000 = 250 := rfl
    rw [h1]; omega
  · have h1 : offc 2000 = 250 := rfl
    rw [h1]; omega
