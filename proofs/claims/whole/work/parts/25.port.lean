/-! ===== Port: the chain of reports ===== -/
/-- a chain of reports from v on: address, number, watch, glass, wind, knownFrom -/
def chn (σ : Hp) : List (Nat × Int32 × Int32 × Int32 × Int32 × Int32) → Value → Prop
  | [], v => v = .null
  | r :: rs, v => v = .ref r.1 ∧ ∃ ea, σ r.1 = some (oRep r.2.1 r.2.2.1 r.2.2.2.1 r.2.2.2.2.1 r.2.2.2.2.2 ea) ∧ chn σ rs ea
theorem chn_val {σ : Hp} : ∀ {rs : List (Nat × Int32 × Int32 × Int32 × Int32 × Int32)} {v : Value}, chn σ rs v → v = .null ∨ ∃ q, v = .ref q
  | [], v, h => Or.inl h
  | r :: rs, v, h => Or.inr ⟨r.1, h.1⟩
/-- the one that counts -/
def cnt (w h : Int32) : List (Nat × Int32 × Int32 × Int32 × Int32 × Int32) → Option (Nat × Int32 × Int32 × Int32 × Int32 × Int32)
  | [] => none
  | r :: rs => if r.2.2.1 = w ∧ r.2.2.2.2.2 ≤ h then some r else cnt w h rs
def cntV (o : Option (Nat × Int32 × Int32 × Int32 × Int32 × Int32)) : Value := match o with
  | some r => .ref r.1
  | none => .null
def iv_X3_countingReport (cy : Nat → ClassId) (P : Pm) : Nat → Nat → Option Sg
  | _, _ => none
def sp_X3_countingReport (cy : Nat → ClassId) (P : Pm) : Sg := mI 4 [0, 0] b0 (fun as σ K _ => match as with
  | [.ref p, .int w, .int h] => onPort σ p (fun nu x y co wi la => ∃ rs, chn σ rs la ∧ K (some (cntV (cnt w h rs))) σ)
  | _ => False)
set_option maxHeartbeats 2000000 in
theorem m_X3_countingReport (cy : Nat → ClassId) (P : Pm) (hP : PmOK P) : MOK (cl_X3 P) cy P.2.1 obj cX3_countingReport (iv_X3_countingReport cy P) (fun _ => none) (fun _ => some none) (some (.object "StormFlags$Report")) 4 (sp_X3_countingReport cy P) := by
  intro as σ K KX J hlen hT hJ hOld
  obtain ⟨-, -, hT⟩ := hT
  split at hT
  · rename_i p w h
    obtain ⟨nu, x, y, co, wi, la, hp, rs, hc, hT⟩ := onPort_spec hT
    have key : ∀ (rs : List (Nat × Int32 × Int32 × Int32 × Int32 × Int32)) (v : Value), chn σ rs v → K (some (cntV (cnt w h rs))) σ → J 5 [some (.ref p), some (.int w), some (.int h), some v] [] σ 0 0 := by
      intro rs
      induction rs with
      | nil =>
        intro v hv hK
        cases hv
        refine hJ (ct [5]) 400 _ _ _ _ _ _ ((s_aload_n (pc' := 6) (i := 3) dX3_countingReport_5 rfl rfl).mpr ?_)
        simp only [w_aload_n (cut := ct [5]) (pc' := 1) (i := 0) rfl dX3_countingReport_0 rfl rfl, w_getfield (cut := ct [5]) (pc' := 4) rfl dX3_countingReport_1 rfl (q_X3_f27 P), w_astore_n (cut := ct [5]) (pc' := 5) (i := 3) rfl dX3_countingReport_4 rfl rfl, w_astore_nN (cut := ct [5]) (pc' := 5) (i := 3) rfl dX3_countingReport_4 rfl rfl, w_cut (cut := ct [5]) (pc := 5) rfl, w_ifnull_ref (cut := ct [5]) (pc' := 9) rfl dX3_countingReport_6 rfl, w_ifnull_null (cut := ct [5]) (t := 35) rfl dX3_countingReport_6 (by decide) rfl, w_aload_n (cut := ct [5]) (pc' := 10) (i := 3) rfl dX3_countingReport_9 rfl rfl, w_getfield (cut := ct [5]) (pc' := 13) rfl dX3_countingReport_10 rfl (q_X3_f31 P), w_iload_n (cut := ct [5]) (pc' := 14) (i := 1) rfl dX3_countingReport_13 rfl rfl, w_icmp_ne (cut := ct [5]) (pc' := 17) (t := 27) rfl dX3_countingReport_14 rfl (by decide) rfl, w_aload_n (cut := ct [5]) (pc' := 18) (i := 3) rfl dX3_countingReport_17 rfl rfl, w_getfield (cut := ct [5]) (pc' := 21) rfl dX3_countingReport_18 rfl (q_X3_f36 P), w_iload_n (cut := ct [5]) (pc' := 22) (i := 2) rfl dX3_countingReport_21 rfl rfl, w_icmp_gt (cut := ct [5]) (pc' := 25) (t := 27) rfl dX3_countingReport_22 rfl (by decide) rfl, w_aload_n (cut := ct [5]) (pc' := 26) (i := 3) rfl dX3_countingReport_25 rfl rfl, w_areturn_ref (cut := ct [5]) rfl dX3_countingReport_26 rfl, w_areturn_null (cut := ct [5]) rfl dX3_countingReport_26 rfl, w_aload_n (cut := ct [5]) (pc' := 28) (i := 3) rfl dX3_countingReport_27 rfl rfl, w_getfield (cut := ct [5]) (pc' := 31) rfl dX3_countingReport_28 rfl (q_X3_f39 P), w_astore_n (cut := ct [5]) (pc' := 32) (i := 3) rfl dX3_countingReport_31 rfl rfl, w_astore_nN (cut := ct [5]) (pc' := 32) (i := 3) rfl dX3_countingReport_31 rfl rfl, w_goto (cut := ct [5]) (t := 5) rfl dX3_countingReport_32 (by decide) rfl, w_aconst_null (cut := ct [5]) (pc' := 36) rfl dX3_countingReport_35 rfl, w_areturn_ref (cut := ct [5]) rfl dX3_countingReport_36 rfl, w_areturn_null (cut := ct [5]) rfl dX3_countingReport_36 rfl, rsum, cg_int, cg_ref, cg_null, nby0, strd, mStr, onAL, true_imp_iff, false_imp_iff, not_true_eq_false, not_false_eq_true, Classical.not_not, eq_self, e10, e01, em1, Int32.reduceLT, Int32.reduceLE, onBoat, onGale, onOut, onPort, onRep, onWarn, yn, mI, mS, b0, okA, rcvd, nb0, nb1, ini, List.map_cons, List.map_nil, List.replicate_zero, List.replicate_succ, List.append_nil, ldI, ldA, incK, getK, putK, oldK, castK, inv1, nwO, nwA, nwR, alen, ald, bald, ast, lald, last, rald, rast, goTo, nth, sto, setN, popN, okv, cat1_int, cat1_ref, cat1_null, cat1_rf, va_rf, hup_same, hup_hup, List.length_cons, List.length_nil, List.nil_append, List.cons_append, Option.toList, true_and, and_true, Nat.reduceAdd, Nat.reduceSub, Nat.reduceLT, Nat.reduceLeDiff, Nat.zero_le, Nat.sub_zero, Nat.zero_lt_succ, Nat.lt_add_left_iff_pos, Nat.succ_lt_succ_iff]
        exact hK
      | cons r rs ih =>
        intro v hv hK
        obtain ⟨rfl, ea, hr, hea⟩ := hv
        unfold cnt at hK
        refine hJ (ct [5]) 400 _ _ _ _ _ _ ((s_aload_n (pc' := 6) (i := 3) dX3_countingReport_5 rfl rfl).mpr ?_)
        rcases chn_val hea with rfl | ⟨q, rfl⟩
        all_goals
          simp only [w_aload_n (cut := ct [5]) (pc' := 1) (i := 0) rfl dX3_countingReport_0 rfl rfl, w_getfield (cut := ct [5]) (pc' := 4) rfl dX3_countingReport_1 rfl (q_X3_f27 P), w_astore_n (cut := ct [5]) (pc' := 5) (i := 3) rfl dX3_countingReport_4 rfl rfl, w_astore_nN (cut := ct [5]) (pc' := 5) (i := 3) rfl dX3_countingReport_4 rfl rfl, w_cut (cut := ct [5]) (pc := 5) rfl, w_ifnull_ref (cut := ct [5]) (pc' := 9) rfl dX3_countingReport_6 rfl, w_ifnull_null (cut := ct [5]) (t := 35) rfl dX3_countingReport_6 (by decide) rfl, w_aload_n (cut := ct [5]) (pc' := 10) (i := 3) rfl dX3_countingReport_9 rfl rfl, w_getfield (cut := ct [5]) (pc' := 13) rfl dX3_countingReport_10 rfl (q_X3_f31 P), w_iload_n (cut := ct [5]) (pc' := 14) (i := 1) rfl dX3_countingReport_13 rfl rfl, w_icmp_ne (cut := ct [5]) (pc' := 17) (t := 27) rfl dX3_countingReport_14 rfl (by decide) rfl, w_aload_n (cut := ct [5]) (pc' := 18) (i := 3) rfl dX3_countingReport_17 rfl rfl, w_getfield (cut := ct [5]) (pc' := 21) rfl dX3_countingReport_18 rfl (q_X3_f36 P), w_iload_n (cut := ct [5]) (pc' := 22) (i := 2) rfl dX3_countingReport_21 rfl rfl, w_icmp_gt (cut := ct [5]) (pc' := 25) (t := 27) rfl dX3_countingReport_22 rfl (by decide) rfl, w_aload_n (cut := ct [5]) (pc' := 26) (i := 3) rfl dX3_countingReport_25 rfl rfl, w_areturn_ref (cut := ct [5]) rfl dX3_countingReport_26 rfl, w_areturn_null (cut := ct [5]) rfl dX3_countingReport_26 rfl, w_aload_n (cut := ct [5]) (pc' := 28) (i := 3) rfl dX3_countingReport_27 rfl rfl, w_getfield (cut := ct [5]) (pc' := 31) rfl dX3_countingReport_28 rfl (q_X3_f39 P), w_astore_n (cut := ct [5]) (pc' := 32) (i := 3) rfl dX3_countingReport_31 rfl rfl, w_astore_nN (cut := ct [5]) (pc' := 32) (i := 3) rfl dX3_countingReport_31 rfl rfl, w_goto (cut := ct [5]) (t := 5) rfl dX3_countingReport_32 (by decide) rfl, w_aconst_null (cut := ct [5]) (pc' := 36) rfl dX3_countingReport_35 rfl, w_areturn_ref (cut := ct [5]) rfl dX3_countingReport_36 rfl, w_areturn_null (cut := ct [5]) rfl dX3_countingReport_36 rfl, rsum, cg_int, cg_ref, cg_null, nby0, strd, mStr, onAL, true_imp_iff, false_imp_iff, not_true_eq_false, not_false_eq_true, Classical.not_not, eq_self, e10, e01, em1, Int32.reduceLT, Int32.reduceLE, onBoat, onGale, onOut, onPort, onRep, onWarn, yn, mI, mS, b0, okA, rcvd, nb0, nb1, ini, List.map_cons, List.map_nil, List.replicate_zero, List.replicate_succ, List.append_nil, ldI, ldA, incK, getK, putK, oldK, castK, inv1, nwO, nwA, nwR, alen, ald, bald, ast, lald, last, rald, rast, goTo, nth, sto, setN, popN, okv, cat1_int, cat1_ref, cat1_null, cat1_rf, va_rf, hup_same, hup_hup, List.length_cons, List.length_nil, List.nil_append, List.cons_append, Option.toList, true_and, and_true, Nat.reduceAdd, Nat.reduceSub, Nat.reduceLT, Nat.reduceLeDiff, Nat.zero_le, Nat.sub_zero, Nat.zero_lt_succ, Nat.lt_add_left_iff_pos, Nat.succ_lt_succ_iff, hr]
          refine ⟨fun h1 => ih _ hea ?_, fun h1 => ⟨fun h2 => ih _ hea ?_, fun h2 => ?_⟩⟩
          · rw [if_neg (fun z => h1 z.1)] at hK; exact hK
          · rw [if_neg (fun z => Int32.not_le.mpr h2 z.2)] at hK; exact hK
          · rw [if_pos ⟨h1, Int32.not_lt.mp h2⟩] at hK; exact hK
    have hk := key rs la hc hT
    refine wp_of_S hJ (ct [5]) 400 _ _ _ _ _ _ ?_
    rcases chn_val hc with rfl | ⟨q, rfl⟩
    all_goals
      simp only [w_aload_n (cut := ct [5]) (pc' := 1) (i := 0) rfl dX3_countingReport_0 rfl rfl, w_getfield (cut := ct [5]) (pc' := 4) rfl dX3_countingReport_1 rfl (q_X3_f27 P), w_astore_n (cut := ct [5]) (pc' := 5) (i := 3) rfl dX3_countingReport_4 rfl rfl, w_astore_nN (cut := ct [5]) (pc' := 5) (i := 3) rfl dX3_countingReport_4 rfl rfl, w_cut (cut := ct [5]) (pc := 5) rfl, w_ifnull_ref (cut := ct [5]) (pc' := 9) rfl dX3_countingReport_6 rfl, w_ifnull_null (cut := ct [5]) (t := 35) rfl dX3_countingReport_6 (by decide) rfl, w_aload_n (cut := ct [5]) (pc' := 10) (i := 3) rfl dX3_countingReport_9 rfl rfl, w_getfield (cut := ct [5]) (pc' := 13) rfl dX3_countingReport_10 rfl (q_X3_f31 P), w_iload_n (cut := ct [5]) (pc' := 14) (i := 1) rfl dX3_countingReport_13 rfl rfl, w_icmp_ne (cut := ct [5]) (pc' := 17) (t := 27) rfl dX3_countingReport_14 rfl (by decide) rfl, w_aload_n (cut := ct [5]) (pc' := 18) (i := 3) rfl dX3_countingReport_17 rfl rfl, w_getfield (cut := ct [5]) (pc' := 21) rfl dX3_countingReport_18 rfl (q_X3_f36 P), w_iload_n (cut := ct [5]) (pc' := 22) (i := 2) rfl dX3_countingReport_21 rfl rfl, w_icmp_gt (cut := ct [5]) (pc' := 25) (t := 27) rfl dX3_countingReport_22 rfl (by decide) rfl, w_aload_n (cut := ct [5]) (pc' := 26) (i := 3) rfl dX3_countingReport_25 rfl rfl, w_areturn_ref (cut := ct [5]) rfl dX3_countingReport_26 rfl, w_areturn_null (cut := ct [5]) rfl dX3_countingReport_26 rfl, w_aload_n (cut := ct [5]) (pc' := 28) (i := 3) rfl dX3_countingReport_27 rfl rfl, w_getfield (cut := ct [5]) (pc' := 31) rfl dX3_countingReport_28 rfl (q_X3_f39 P), w_astore_n (cut := ct [5]) (pc' := 32) (i := 3) rfl dX3_countingReport_31 rfl rfl, w_astore_nN (cut := ct [5]) (pc' := 32) (i := 3) rfl dX3_countingReport_31 rfl rfl, w_goto (cut := ct [5]) (t := 5) rfl dX3_countingReport_32 (by decide) rfl, w_aconst_null (cut := ct [5]) (pc' := 36) rfl dX3_countingReport_35 rfl, w_areturn_ref (cut := ct [5]) rfl dX3_countingReport_36 rfl, w_areturn_null (cut := ct [5]) rfl dX3_countingReport_36 rfl, rsum, cg_int, cg_ref, cg_null, nby0, strd, mStr, onAL, true_imp_iff, false_imp_iff, not_true_eq_false, not_false_eq_true, Classical.not_not, eq_self, e10, e01, em1, Int32.reduceLT, Int32.reduceLE, onBoat, onGale, onOut, onPort, onRep, onWarn, yn, mI, mS, b0, okA, rcvd, nb0, nb1, ini, List.map_cons, List.map_nil, List.replicate_zero, List.replicate_succ, List.append_nil, ldI, ldA, incK, getK, putK, oldK, castK, inv1, nwO, nwA, nwR, alen, ald, bald, ast, lald, last, rald, rast, goTo, nth, sto, setN, popN, okv, cat1_int, cat1_ref, cat1_null, cat1_rf, va_rf, hup_same, hup_hup, List.length_cons, List.length_nil, List.nil_append, List.cons_append, Option.toList, true_and, and_true, Nat.reduceAdd, Nat.reduceSub, Nat.reduceLT, Nat.reduceLeDiff, Nat.zero_le, Nat.sub_zero, Nat.zero_lt_succ, Nat.lt_add_left_iff_pos, Nat.succ_lt_succ_iff, sp_X3_countingReport, hp]
      exact hk
  · exact hT.elim
set_option maxRecDepth 100000 in
theorem con_X3_countingReport {l : Launch} {s0 : State} {D : va_G} {cy : Nat → ClassId} {P : Pm} {a0 : Array Value} (hE : E0 l s0 D cy P a0) : Con l s0 D yX3_countingReport (Cond.code yX3_countingReport cX3_countingReport 4 (some (.object "StormFlags$Report"))) 0 0 (sp_X3_countingReport cy P) := by
  refine con_of (clok_X3 hE _) (by decide) (fun as σ K KX h => okA_cat h.1) (Nat.le_of_ble_eq_true rfl) ?_ ?_ (m_X3_countingReport cy P hE.2.2.2.1)
  · intro p e R s m args below meth c A Q hfr hlo hW B kd j g hg
    cases hg
  · intro p e R s m args below meth c A K KX hfr hlo hW B htab
    exact xok_none htab
def cntW (o : Option (Nat × Int32 × Int32 × Int32 × Int32 × Int32)) : Int32 := match o with
  | some r => r.2.2.2.2.1
  | none => -1
theorem cnt_in {σ : Hp} {w h : Int32} : ∀ {rs : List (Nat × Int32 × Int32 × Int32 × Int32 × Int32)} {v : Value} {r : Nat × Int32 × Int32 × Int32 × Int32 × Int32}, chn σ rs v → cnt w h rs = some r → ∃ ea, σ r.1 = some (oRep r.2.1 r.2.2.1 r.2.2.2.1 r.2.2.2.2.1 r.2.2.2.2.2 ea)
  | r0 :: rs, v, r, hc, h => by
    obtain ⟨-, ea, h1, h2⟩ := hc
    unfold cnt at h
    split at h
    · cases h; exact ⟨ea, h1⟩
    · exact cnt_in h2 h
def iv_X3_windKnown (cy : Nat → ClassId) (P : Pm) : Nat → Nat → Option Sg
  | 0, 42 => some (sp_X3_countingReport cy P)
  | _, _ => none
def sp_X3_windKnown (cy : Nat → ClassId) (P : Pm) : Sg := mI 4 [0, 0] b0 (fun as σ K _ => match as with
  | [.ref p, .int w, .int h] => onPort σ p (fun nu x y co wi la => ∃ rs, chn σ rs la ∧ K (some (.int (cntW (cnt w h rs)))) σ)
  | _ => False)
set_option maxHeartbeats 2000000 in
theorem m_X3_windKnown (cy : Nat → ClassId) (P : Pm) (hP : PmOK P) : MOK (cl_X3 P) cy P.2.1 obj cX3_windKnown (iv_X3_windKnown cy P) (fun _ => none) (fun _ => some none) (some .int) 4 (sp_X3_windKnown cy P) := by
  intro as σ K KX J hlen hT hJ hOld
  obtain ⟨-, -, hT⟩ := hT
  split at hT
  · rename_i p w h
    obtain ⟨nu, x, y, co, wi, la, hp, rs, hc, hT⟩ := onPort_spec hT
    refine wp_of_S hJ (ct []) 400 _ _ _ _ _ _ ?_
    simp only [w_aload_n (cut := ct []) (pc' := 1) (i := 0) rfl dX3_windKnown_0 rfl rfl, w_iload_n (cut := ct []) (pc' := 2) (i := 1) rfl dX3_windKnown_1 rfl rfl, w_iload_n (cut := ct []) (pc' := 3) (i := 2) rfl dX3_windKnown_2 rfl rfl, w_invoke (inv := iv_X3_windKnown cy P) (kd := 0) (f := 42) (g := sp_X3_countingReport cy P) (cut := ct []) rfl dX3_windKnown_3 rfl (by decide) rfl, w_astore_n (cut := ct []) (pc' := 7) (i := 3) rfl dX3_windKnown_6 rfl rfl, w_astore_nN (cut := ct []) (pc' := 7) (i := 3) rfl dX3_windKnown_6 rfl rfl, w_aload_n (cut := ct []) (pc' := 8) (i := 3) rfl dX3_windKnown_7 rfl rfl, w_ifnonnull_null (cut := ct []) (pc' := 11) rfl dX3_windKnown_8 rfl, w_ifnonnull_ref (cut := ct []) (t := 15) rfl dX3_windKnown_8 (by decide) rfl, w_iconst (cut := ct []) (pc' := 12) (v := (-1)) rfl dX3_windKnown_11 rfl rfl, w_goto (cut := ct []) (t := 19) rfl dX3_windKnown_12 (by decide) rfl, w_aload_n (cut := ct []) (pc' := 16) (i := 3) rfl dX3_windKnown_15 rfl rfl, w_getfield (cut := ct []) (pc' := 19) rfl dX3_windKnown_16 rfl (q_X3_f46 P), w_ireturnI (cut := ct []) rfl dX3_windKnown_19 rfl, rsum, cg_int, cg_ref, cg_null, nby0, strd, mStr, onAL, true_imp_iff, false_imp_iff, not_true_eq_false, not_false_eq_true, Classical.not_not, eq_self, e10, e01, em1, Int32.reduceLT, Int32.reduceLE, onBoat, onGale, onOut, onPort, onRep, onWarn, yn, mI, mS, b0, okA, rcvd, nb0, nb1, ini, List.map_cons, List.map_nil, List.replicate_zero, List.replicate_succ, List.append_nil, ldI, ldA, incK, getK, putK, oldK, castK, inv1, nwO, nwA, nwR, alen, ald, bald, ast, lald, last, rald, rast, goTo, nth, sto, setN, popN, okv, cat1_int, cat1_ref, cat1_null, cat1_rf, va_rf, hup_same, hup_hup, List.length_cons, List.length_nil, List.nil_append, List.cons_append, Option.toList, true_and, and_true, Nat.reduceAdd, Nat.reduceSub, Nat.reduceLT, Nat.reduceLeDiff, Nat.zero_le, Nat.sub_zero, Nat.zero_lt_succ, Nat.lt_add_left_iff_pos, Nat.succ_lt_succ_iff, sp_X3_windKnown, sp_X3_countingReport, hp]
    refine ⟨rs, hc, ?_⟩
    cases hr : cnt w h rs with
    | none =>
      rw [hr] at hT
      simp only [w_aload_n (cut := ct []) (pc' := 1) (i := 0) rfl dX3_windKnown_0 rfl rfl, w_iload_n (cut := ct []) (pc' := 2) (i := 1) rfl dX3_windKnown_1 rfl rfl, w_iload_n (cut := ct []) (pc' := 3) (i := 2) rfl dX3_windKnown_2 rfl rfl, w_invoke (inv := iv_X3_windKnown cy P) (kd := 0) (f := 42) (g := sp_X3_countingReport cy P) (cut := ct []) rfl dX3_windKnown_3 rfl (by decide) rfl, w_astore_n (cut := ct []) (pc' := 7) (i := 3) rfl dX3_windKnown_6 rfl rfl, w_astore_nN (cut := ct []) (pc' := 7) (i := 3) rfl dX3_windKnown_6 rfl rfl, w_aload_n (cut := ct []) (pc' := 8) (i := 3) rfl dX3_windKnown_7 rfl rfl, w_ifnonnull_null (cut := ct []) (pc' := 11) rfl dX3_windKnown_8 rfl, w_ifnonnull_ref (cut := ct []) (t := 15) rfl dX3_windKnown_8 (by decide) rfl, w_iconst (cut := ct []) (pc' := 12) (v := (-1)) rfl dX3_windKnown_11 rfl rfl, w_goto (cut := ct []) (t := 19) rfl dX3_windKnown_12 (by decide) rfl, w_aload_n (cut := ct []) (pc' := 16) (i := 3) rfl dX3_windKnown_15 rfl rfl, w_getfield (cut := ct []) (pc' := 19) rfl dX3_windKnown_16 rfl (q_X3_f46 P), w_ireturnI (cut := ct []) rfl dX3_windKnown_19 rfl, rsum, cg_int, cg_ref, cg_null, nby0, strd, mStr, onAL, true_imp_iff, false_imp_iff, not_true_eq_false, not_false_eq_true, Classical.not_not, eq_self, e10, e01, em1, Int32.reduceLT, Int32.reduceLE, onBoat, onGale, onOut, onPort, onRep, onWarn, yn, mI, mS, b0, okA, rcvd, nb0, nb1, ini, List.map_cons, List.map_nil, List.replicate_zero, List.replicate_succ, List.append_nil, ldI, ldA, incK, getK, putK, oldK, castK, inv1, nwO, nwA, nwR, alen, ald, bald, ast, lald, last, rald, rast, goTo, nth, sto, setN, popN, okv, cat1_int, cat1_ref, cat1_null, cat1_rf, va_rf, hup_same, hup_hup, List.length_cons, List.length_nil, List.nil_append, List.cons_append, Option.toList, true_and, and_true, Nat.reduceAdd, Nat.reduceSub, Nat.reduceLT, Nat.reduceLeDiff, Nat.zero_le, Nat.sub_zero, Nat.zero_lt_succ, Nat.lt_add_left_iff_pos, Nat.succ_lt_succ_iff, cntV]
      exact hT
    | some r =>
      obtain ⟨ea, hr2⟩ := cnt_in hc hr
      rw [hr] at hT
      simp only [w_aload_n (cut := ct []) (pc' := 1) (i := 0) rfl dX3_windKnown_0 rfl rfl, w_iload_n (cut := ct []) (pc' := 2) (i := 1) rfl dX3_windKnown_1 rfl rfl, w_iload_n (cut := ct []) (pc' := 3) (i := 2) rfl dX3_windKnown_2 rfl rfl, w_invoke (inv := iv_X3_windKnown cy P) (kd := 0) (f := 42) (g := sp_X3_countingReport cy P) (cut := ct []) rfl dX3_windKnown_3 rfl (by decide) rfl, w_astore_n (cut := ct []) (pc' := 7) (i := 3) rfl dX3_windKnown_6 rfl rfl, w_astore_nN (cut := ct []) (pc' := 7) (i := 3) rfl dX3_windKnown_6 rfl rfl, w_aload_n (cut := ct []) (pc' := 8) (i := 3) rfl dX3_windKnown_7 rfl rfl, w_ifnonnull_null (cut := ct []) (pc' := 11) rfl dX3_windKnown_8 rfl, w_ifnonnull_ref (cut := ct []) (t := 15) rfl dX3_windKnown_8 (by decide) rfl, w_iconst (cut := ct []) (pc' := 12) (v := (-1)) rfl dX3_windKnown_11 rfl rfl, w_goto (cut := ct []) (t := 19) rfl dX3_windKnown_12 (by decide) rfl, w_aload_n (cut := ct []) (pc' := 16) (i := 3) rfl dX3_windKnown_15 rfl rfl, w_getfield (cut := ct []) (pc' := 19) rfl dX3_windKnown_16 rfl (q_X3_f46 P), w_ireturnI (cut := ct []) rfl dX3_windKnown_19 rfl, rsum, cg_int, cg_ref, cg_null, nby0, strd, mStr, onAL, true_imp_iff, false_imp_iff, not_true_eq_false, not_false_eq_true, Classical.not_not, eq_self, e10, e01, em1, Int32.reduceLT, Int32.reduceLE, onBoat, onGale, onOut, onPort, onRep, onWarn, yn, mI, mS, b0, okA, rcvd, nb0, nb1, ini, List.map_cons, List.map_nil, List.replicate_zero, List.replicate_succ, List.append_nil, ldI, ldA, incK, getK, putK, oldK, castK, inv1, nwO, nwA, nwR, alen, ald, bald, ast, lald, last, rald, rast, goTo, nth, sto, setN, popN, okv, cat1_int, cat1_ref, cat1_null, cat1_rf, va_rf, hup_same, hup_hup, List.length_cons, List.length_nil, List.nil_append, List.cons_append, Option.toList, true_and, and_true, Nat.reduceAdd, Nat.reduceSub, Nat.reduceLT, Nat.reduceLeDiff, Nat.zero_le, Nat.sub_zero, Nat.zero_lt_succ, Nat.lt_add_left_iff_pos, Nat.succ_lt_succ_iff, cntV, hr2]
      exact hT
  · exact hT.elim
set_option maxRecDepth 100000 in
theorem con_X3_windKnown {l : Launch} {s0 : State} {D : va_G} {cy : Nat → ClassId} {P : Pm} {a0 : Array Value} (hE : E0 l s0 D cy P a0) : Con l s0 D yX3_windKnown (Cond.code yX3_windKnown cX3_windKnown 4 (some .int)) 1 23 (sp_X3_windKnown cy P) := by
  refine con_of (clok_X3 hE _) (by decide) (fun as σ K KX h => okA_cat h.1) (Nat.le_of_ble_eq_true rfl) ?_ ?_ (m_X3_windKnown cy P hE.2.2.2.1)
  · intro p e R s m args below meth c A Q hfr hlo hW B kd j g hg
    unfold iv_X3_windKnown at hg
    split at hg
    · cases hg; exact inv_V (ci := 4) B (con_X3_countingReport hE) rfl (fun as σ K KX h => rcvd_spec h.2.1) (cw_mk hE hW tw_493 rfl tw_14 ⟨by decide, by decide⟩ rfl) rfl (wd hE hW tw_755 rfl) (wd hE hW tw_491 rfl) (wd hE hW tw_492 rfl) (by rw [hfr]; decide) (by rw [hlo]; decide)
    · cases hg
  · intro p e R s m args below meth c A K KX hfr hlo hW B htab
    exact xok_none htab
