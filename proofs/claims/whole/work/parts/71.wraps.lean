/-! ===== the law's wrappers ===== -/
theorem z0 : Int32.toNatClampNeg 0 = 0 := rfl
theorem vin0 : vp_in 0 1 := by unfold vp_in; decide
def hh_L_port : List (Nat × Nat × Nat × Nat) := [(0, 14, 17, 13), (0, 14, 21, 15)]
def sp_L_port (cy : Nat → ClassId) (P : Pm) : Sg := mS [1, 0, 0, 0, 0, 1] (fun as σ => (sp_X8_port cy P).2.1 as.dropLast σ) (fun as σ K KX => match as with
  | [.ref x, .int a0, .int a1, .int a2, .int a3, .ref o] => wrb cy (sp_X8_port cy P) hh_L_port ocI [.ref x, .int a0, .int a1, .int a2, .int a3] σ o K
  | _ => False)
set_option maxHeartbeats 2000000 in
theorem m_L_port (cy : Nat → ClassId) (P : Pm) : MOKH (cl_L P) cy P.2.1 obj cL_port (some .int) 7 (sp_L_port cy P) 9 (fr (sp_X8_port cy P)) (handOf hh_L_port) := by
  intro as σ K KX J hlen hT hJ hC hOld
  obtain ⟨-, hT⟩ := hT
  split at hT
  · rename_i x a0 a1 a2 a3 o
    obtain ⟨f, σ1, ho, hn, hs, hb, hT⟩ := hT
    refine wp_of_S hJ (ct [9]) 400 _ _ _ _ _ _ ?_
    simp only [w_aload (cut := ct [9]) (pc' := 2) (i := 5) rfl dL_port_0 rfl rfl, w_iconst (cut := ct [9]) (pc' := 3) (v := 0) rfl dL_port_2 rfl rfl, w_aload_n (cut := ct [9]) (pc' := 4) (i := 0) rfl dL_port_3 rfl rfl, w_iload_n (cut := ct [9]) (pc' := 5) (i := 1) rfl dL_port_4 rfl rfl, w_iload_n (cut := ct [9]) (pc' := 6) (i := 2) rfl dL_port_5 rfl rfl, w_iload_n (cut := ct [9]) (pc' := 7) (i := 3) rfl dL_port_6 rfl rfl, w_iload (cut := ct [9]) (pc' := 9) (i := 4) rfl dL_port_7 rfl rfl, w_cut (cut := ct [9]) (pc := 9) rfl, rsum, cg_int, cg_ref, cg_null, nby0, strd, mStr, onAL, true_imp_iff, false_imp_iff, not_true_eq_false, not_false_eq_true, Classical.not_not, eq_self, e10, e01, em1, Int32.reduceLT, Int32.reduceLE, onBoat, onGale, onOut, onPort, onRep, onWarn, yn, mI, mS, b0, okA, rcvd, nb0, nb1, ini, List.map_cons, List.map_nil, List.replicate_zero, List.replicate_succ, List.append_nil, ldI, ldA, incK, getK, putK, oldK, castK, inv1, nwO, nwA, nwR, alen, ald, bald, ast, lald, last, rald, rast, goTo, nth, sto, setN, popN, okv, cat1_int, cat1_ref, cat1_null, cat1_rf, va_rf, hup_same, hup_hup, List.length_cons, List.length_nil, List.nil_append, List.cons_append, Option.toList, true_and, and_true, Nat.reduceAdd, Nat.reduceSub, Nat.reduceLT, Nat.reduceLeDiff, Nat.zero_le, Nat.sub_zero, Nat.zero_lt_succ, Nat.lt_add_left_iff_pos, Nat.succ_lt_succ_iff]
    refine hC [.ref x, .int a0, .int a1, .int a2, .int a3] [.int 0, .ref o] _ σ _ _ rfl (Nat.le_of_ble_eq_true rfl) (Nat.le_refl _) (Nat.le_refl _) ⟨σ1, hs, hb, hT _ _ (fun n τ h hf => ?_) (fun k z τ hz h hf => ?_)⟩
    · have ho9 := mrg_o ho hn hf
      unfold oJ at ho9
      refine wp_of_S hJ (ct []) 400 _ _ _ _ _ _ ?_
      simp only [w_i2l (cut := ct []) (pc' := 13) rfl dL_port_12 rfl, w_lastore (cut := ct []) rfl dL_port_13, w_goto (cut := ct []) (t := 25) rfl dL_port_14 (by decide) rfl, w_astore (cut := ct []) (pc' := 19) (i := 6) rfl dL_port_17 rfl rfl, w_astoreN (cut := ct []) (pc' := 19) (i := 6) rfl dL_port_17 rfl rfl, w_iconst (cut := ct []) (pc' := 20) (v := 1) rfl dL_port_19 rfl rfl, w_ireturnI (cut := ct []) rfl dL_port_20 rfl, w_astore (cut := ct []) (pc' := 23) (i := 6) rfl dL_port_21 rfl rfl, w_astoreN (cut := ct []) (pc' := 23) (i := 6) rfl dL_port_21 rfl rfl, w_iconst (cut := ct []) (pc' := 24) (v := 2) rfl dL_port_23 rfl rfl, w_ireturnI (cut := ct []) rfl dL_port_24 rfl, w_iconst (cut := ct []) (pc' := 26) (v := 0) rfl dL_port_25 rfl rfl, w_ireturnI (cut := ct []) rfl dL_port_26 rfl, rsum, cg_int, cg_ref, cg_null, nby0, strd, mStr, onAL, true_imp_iff, false_imp_iff, not_true_eq_false, not_false_eq_true, Classical.not_not, eq_self, e10, e01, em1, Int32.reduceLT, Int32.reduceLE, onBoat, onGale, onOut, onPort, onRep, onWarn, yn, mI, mS, b0, okA, rcvd, nb0, nb1, ini, List.map_cons, List.map_nil, List.replicate_zero, List.replicate_succ, List.append_nil, ldI, ldA, incK, getK, putK, oldK, castK, inv1, nwO, nwA, nwR, alen, ald, bald, ast, lald, last, rald, rast, goTo, nth, sto, setN, popN, okv, cat1_int, cat1_ref, cat1_null, cat1_rf, va_rf, hup_same, hup_hup, List.length_cons, List.length_nil, List.nil_append, List.cons_append, Option.toList, true_and, and_true, Nat.reduceAdd, Nat.reduceSub, Nat.reduceLT, Nat.reduceLeDiff, Nat.zero_le, Nat.sub_zero, Nat.zero_lt_succ, Nat.lt_add_left_iff_pos, Nat.succ_lt_succ_iff, ho9, z0]
      exact ⟨vin0, h hf _ (updL0 _ _)⟩
    · rcases k with _ | _ | k
      · cases hz
        rw [show handOf hh_L_port (exN 13) = some 17 from by decide +kernel]
        intro q
        refine wp_of_S hJ (ct []) 400 _ _ _ _ _ _ ?_
        simp only [w_astore (cut := ct []) (pc' := 19) (i := 6) rfl dL_port_17 rfl rfl, w_astoreN (cut := ct []) (pc' := 19) (i := 6) rfl dL_port_17 rfl rfl, w_iconst (cut := ct []) (pc' := 20) (v := 1) rfl dL_port_19 rfl rfl, w_ireturnI (cut := ct []) rfl dL_port_20 rfl, w_astore (cut := ct []) (pc' := 23) (i := 6) rfl dL_port_21 rfl rfl, w_astoreN (cut := ct []) (pc' := 23) (i := 6) rfl dL_port_21 rfl rfl, w_iconst (cut := ct []) (pc' := 24) (v := 2) rfl dL_port_23 rfl rfl, rsum, cg_int, cg_ref, cg_null, nby0, strd, mStr, onAL, true_imp_iff, false_imp_iff, not_true_eq_false, not_false_eq_true, Classical.not_not, eq_self, e10, e01, em1, Int32.reduceLT, Int32.reduceLE, onBoat, onGale, onOut, onPort, onRep, onWarn, yn, mI, mS, b0, okA, rcvd, nb0, nb1, ini, List.map_cons, List.map_nil, List.replicate_zero, List.replicate_succ, List.append_nil, ldI, ldA, incK, getK, putK, oldK, castK, inv1, nwO, nwA, nwR, alen, ald, bald, ast, lald, last, rald, rast, goTo, nth, sto, setN, popN, okv, cat1_int, cat1_ref, cat1_null, cat1_rf, va_rf, hup_same, hup_hup, List.length_cons, List.length_nil, List.nil_append, List.cons_append, Option.toList, true_and, and_true, Nat.reduceAdd, Nat.reduceSub, Nat.reduceLT, Nat.reduceLeDiff, Nat.zero_le, Nat.sub_zero, Nat.zero_lt_succ, Nat.lt_add_left_iff_pos, Nat.succ_lt_succ_iff]
        exact h hf
      · cases hz
        rw [show handOf hh_L_port (exN 15) = some 21 from by decide +kernel]
        intro q
        refine wp_of_S hJ (ct []) 400 _ _ _ _ _ _ ?_
        simp only [w_astore (cut := ct []) (pc' := 23) (i := 6) rfl dL_port_21 rfl rfl, w_astoreN (cut := ct []) (pc' := 23) (i := 6) rfl dL_port_21 rfl rfl, w_iconst (cut := ct []) (pc' := 24) (v := 2) rfl dL_port_23 rfl rfl, w_ireturnI (cut := ct []) rfl dL_port_24 rfl, w_iconst (cut := ct []) (pc' := 26) (v := 0) rfl dL_port_25 rfl rfl, w_ireturnI (cut := ct []) rfl dL_port_26 rfl, rsum, cg_int, cg_ref, cg_null, nby0, strd, mStr, onAL, true_imp_iff, false_imp_iff, not_true_eq_false, not_false_eq_true, Classical.not_not, eq_self, e10, e01, em1, Int32.reduceLT, Int32.reduceLE, onBoat, onGale, onOut, onPort, onRep, onWarn, yn, mI, mS, b0, okA, rcvd, nb0, nb1, ini, List.map_cons, List.map_nil, List.replicate_zero, List.replicate_succ, List.append_nil, ldI, ldA, incK, getK, putK, oldK, castK, inv1, nwO, nwA, nwR, alen, ald, bald, ast, lald, last, rald, rast, goTo, nth, sto, setN, popN, okv, cat1_int, cat1_ref, cat1_null, cat1_rf, va_rf, hup_same, hup_hup, List.length_cons, List.length_nil, List.nil_append, List.cons_append, Option.toList, true_and, and_true, Nat.reduceAdd, Nat.reduceSub, Nat.reduceLT, Nat.reduceLeDiff, Nat.zero_le, Nat.sub_zero, Nat.zero_lt_succ, Nat.lt_add_left_iff_pos, Nat.succ_lt_succ_iff]
        exact h hf
      · cases hz
  · exact hT.elim
set_option maxRecDepth 100000 in
theorem con_L_port {l : Launch} {s0 : State} {D : va_G} {cy : Nat → ClassId} {P : Pm} {a0 : Array Value} (hE : E0 l s0 D cy P a0) (hN : NCok s0) : Con l s0 D yL_port (Cond.codeWith yL_port cL_port 7 (some .int) hh_L_port) 8 216 (sp_L_port cy P) := by
  refine con_ofH (kd := 0) (j := 7) (clok_L hE _) (by decide) (fun as σ K KX h => okA_cat h.1) (Nat.le_of_ble_eq_true rfl) dL_port_9 ?_ ?_ (m_L_port cy P)
  · intro p e R s m args below meth c A Q hfr hlo hW B
    exact inv_V (ci := 9) B (con_fr (con_X8_port hE)) rfl (fun as σ K KX h => fr_rcv h) (cw_mk hE hW tw_229 rfl tw_1 ⟨by decide, by decide⟩ rfl) rfl (wd hE hW tw_226 rfl) (wd hE hW tw_227 rfl) (wd hE hW tw_228 rfl) (by rw [hfr]; decide) (by rw [hlo]; decide)
  · intro p e R s m args below meth c A Q hW B htab E h hh9 H locs cells slots lsA r q ce h1 h2 h3 kk
    exact catch_of hE hN hW B htab (by decide) hh9 h1 h2 h3 kk
def hh_L_report : List (Nat × Nat × Nat × Nat) := [(0, 14, 17, 20), (0, 14, 21, 13), (0, 14, 25, 15)]
def sp_L_report (cy : Nat → ClassId) (P : Pm) : Sg := mS [1, 0, 0, 0, 0, 1] (fun as σ => (sp_X8_report cy P).2.1 as.dropLast σ) (fun as σ K KX => match as with
  | [.ref x, .int a0, .int a1, .int a2, .int a3, .ref o] => wrb cy (sp_X8_report cy P) hh_L_report ocI [.ref x, .int a0, .int a1, .int a2, .int a3] σ o K
  | _ => False)
set_option maxHeartbeats 2000000 in
theorem m_L_report (cy : Nat → ClassId) (P : Pm) : MOKH (cl_L P) cy P.2.1 obj cL_report (some .int) 7 (sp_L_report cy P) 9 (fr (sp_X8_report cy P)) (handOf hh_L_report) := by
  intro as σ K KX J hlen hT hJ hC hOld
  obtain ⟨-, hT⟩ := hT
  split at hT
  · rename_i x a0 a1 a2 a3 o
    obtain ⟨f, σ1, ho, hn, hs, hb, hT⟩ := hT
    refine wp_of_S hJ (ct [9]) 400 _ _ _ _ _ _ ?_
    simp only [w_aload (cut := ct [9]) (pc' := 2) (i := 5) rfl dL_report_0 rfl rfl, w_iconst (cut := ct [9]) (pc' := 3) (v := 0) rfl dL_report_2 rfl rfl, w_aload_n (cut := ct [9]) (pc' := 4) (i := 0) rfl dL_report_3 rfl rfl, w_iload_n (cut := ct [9]) (pc' := 5) (i := 1) rfl dL_report_4 rfl rfl, w_iload_n (cut := ct [9]) (pc' := 6) (i := 2) rfl dL_report_5 rfl rfl, w_iload_n (cut := ct [9]) (pc' := 7) (i := 3) rfl dL_report_6 rfl rfl, w_iload (cut := ct [9]) (pc' := 9) (i := 4) rfl dL_report_7 rfl rfl, w_cut (cut := ct [9]) (pc := 9) rfl, rsum, cg_int, cg_ref, cg_null, nby0, strd, mStr, onAL, true_imp_iff, false_imp_iff, not_true_eq_false, not_false_eq_true, Classical.not_not, eq_self, e10, e01, em1, Int32.reduceLT, Int32.reduceLE, onBoat, onGale, onOut, onPort, onRep, onWarn, yn, mI, mS, b0, okA, rcvd, nb0, nb1, ini, List.map_cons, List.map_nil, List.replicate_zero, List.replicate_succ, List.append_nil, ldI, ldA, incK, getK, putK, oldK, castK, inv1, nwO, nwA, nwR, alen, ald, bald, ast, lald, last, rald, rast, goTo, nth, sto, setN, popN, okv, cat1_int, cat1_ref, cat1_null, cat1_rf, va_rf, hup_same, hup_hup, List.length_cons, List.length_nil, List.nil_append, List.cons_append, Option.toList, true_and, and_true, Nat.reduceAdd, Nat.reduceSub, Nat.reduceLT, Nat.reduceLeDiff, Nat.zero_le, Nat.sub_zero, Nat.zero_lt_succ, Nat.lt_add_left_iff_pos, Nat.succ_lt_succ_iff]
    refine hC [.ref x, .int a0, .int a1, .int a2, .int a3] [.int 0, .ref o] _ σ _ _ rfl (Nat.le_of_ble_eq_true rfl) (Nat.le_refl _) (Nat.le_refl _) ⟨σ1, hs, hb, hT _ _ (fun n τ h hf => ?_) (fun k z τ hz h hf => ?_)⟩
    · have ho9 := mrg_o ho hn hf
      unfold oJ at ho9
      refine wp_of_S hJ (ct []) 400 _ _ _ _ _ _ ?_
      simp only [w_i2l (cut := ct []) (pc' := 13) rfl dL_report_12 rfl, w_lastore (cut := ct []) rfl dL_report_13, w_goto (cut := ct []) (t := 29) rfl dL_report_14 (by decide) rfl, w_astore (cut := ct []) (pc' := 19) (i := 6) rfl dL_report_17 rfl rfl, w_astoreN (cut := ct []) (pc' := 19) (i := 6) rfl dL_report_17 rfl rfl, w_iconst (cut := ct []) (pc' := 20) (v := 1) rfl dL_report_19 rfl rfl, w_ireturnI (cut := ct []) rfl dL_report_20 rfl, w_astore (cut := ct []) (pc' := 23) (i := 6) rfl dL_report_21 rfl rfl, w_astoreN (cut := ct []) (pc' := 23) (i := 6) rfl dL_report_21 rfl rfl, w_iconst (cut := ct []) (pc' := 24) (v := 2) rfl dL_report_23 rfl rfl, w_ireturnI (cut := ct []) rfl dL_report_24 rfl, w_astore (cut := ct []) (pc' := 27) (i := 6) rfl dL_report_25 rfl rfl, w_astoreN (cut := ct []) (pc' := 27) (i := 6) rfl dL_report_25 rfl rfl, w_iconst (cut := ct []) (pc' := 28) (v := 3) rfl dL_report_27 rfl rfl, w_ireturnI (cut := ct []) rfl dL_report_28 rfl, w_iconst (cut := ct []) (pc' := 30) (v := 0) rfl dL_report_29 rfl rfl, w_ireturnI (cut := ct []) rfl dL_report_30 rfl, rsum, cg_int, cg_ref, cg_null, nby0, strd, mStr, onAL, true_imp_iff, false_imp_iff, not_true_eq_false, not_false_eq_true, Classical.not_not, eq_self, e10, e01, em1, Int32.reduceLT, Int32.reduceLE, onBoat, onGale, onOut, onPort, onRep, onWarn, yn, mI, mS, b0, okA, rcvd, nb0, nb1, ini, List.map_cons, List.map_nil, List.replicate_zero, List.replicate_succ, List.append_nil, ldI, ldA, incK, getK, putK, oldK, castK, inv1, nwO, nwA, nwR, alen, ald, bald, ast, lald, last, rald, rast, goTo, nth, sto, setN, popN, okv, cat1_int, cat1_ref, cat1_null, cat1_rf, va_rf, hup_same, hup_hup, List.length_cons, List.length_nil, List.nil_append, List.cons_append, Option.toList, true_and, and_true, Nat.reduceAdd, Nat.reduceSub, Nat.reduceLT, Nat.reduceLeDiff, Nat.zero_le, Nat.sub_zero, Nat.zero_lt_succ, Nat.lt_add_left_iff_pos, Nat.succ_lt_succ_iff, ho9, z0]
      exact ⟨vin0, h hf _ (updL0 _ _)⟩
    · rcases k with _ | _ | _ | k
      · cases hz
        rw [show handOf hh_L_report (exN 20) = some 17 from by decide +kernel]
        intro q
        refine wp_of_S hJ (ct []) 400 _ _ _ _ _ _ ?_
        simp only [w_astore (cut := ct []) (pc' := 19) (i := 6) rfl dL_report_17 rfl rfl, w_astoreN (cut := ct []) (pc' := 19) (i := 6) rfl dL_report_17 rfl rfl, w_iconst (cut := ct []) (pc' := 20) (v := 1) rfl dL_report_19 rfl rfl, w_ireturnI (cut := ct []) rfl dL_report_20 rfl, w_astore (cut := ct []) (pc' := 23) (i := 6) rfl dL_report_21 rfl rfl, w_astoreN (cut := ct []) (pc' := 23) (i := 6) rfl dL_report_21 rfl rfl, w_iconst (cut := ct []) (pc' := 24) (v := 2) rfl dL_report_23 rfl rfl, rsum, cg_int, cg_ref, cg_null, nby0, strd, mStr, onAL, true_imp_iff, false_imp_iff, not_true_eq_false, not_false_eq_true, Classical.not_not, eq_self, e10, e01, em1, Int32.reduceLT, Int32.reduceLE, onBoat, onGale, onOut, onPort, onRep, onWarn, yn, mI, mS, b0, okA, rcvd, nb0, nb1, ini, List.map_cons, List.map_nil, List.replicate_zero, List.replicate_succ, List.append_nil, ldI, ldA, incK, getK, putK, oldK, castK, inv1, nwO, nwA, nwR, alen, ald, bald, ast, lald, last, rald, rast, goTo, nth, sto, setN, popN, okv, cat1_int, cat1_ref, cat1_null, cat1_rf, va_rf, hup_same, hup_hup, List.length_cons, List.length_nil, List.nil_append, List.cons_append, Option.toList, true_and, and_true, Nat.reduceAdd, Nat.reduceSub, Nat.reduceLT, Nat.reduceLeDiff, Nat.zero_le, Nat.sub_zero, Nat.zero_lt_succ, Nat.lt_add_left_iff_pos, Nat.succ_lt_succ_iff]
        exact h hf
      · cases hz
        rw [show handOf hh_L_report (exN 13) = some 21 from by decide +kernel]
        intro q
        refine wp_of_S hJ (ct []) 400 _ _ _ _ _ _ ?_
        simp only [w_astore (cut := ct []) (pc' := 23) (i := 6) rfl dL_report_21 rfl rfl, w_astoreN (cut := ct []) (pc' := 23) (i := 6) rfl dL_report_21 rfl rfl, w_iconst (cut := ct []) (pc' := 24) (v := 2) rfl dL_report_23 rfl rfl, w_ireturnI (cut := ct []) rfl dL_report_24 rfl, w_astore (cut := ct []) (pc' := 27) (i := 6) rfl dL_report_25 rfl rfl, w_astoreN (cut := ct []) (pc' := 27) (i := 6) rfl dL_report_25 rfl rfl, w_iconst (cut := ct []) (pc' := 28) (v := 3) rfl dL_report_27 rfl rfl, rsum, cg_int, cg_ref, cg_null, nby0, strd, mStr, onAL, true_imp_iff, false_imp_iff, not_true_eq_false, not_false_eq_true, Classical.not_not, eq_self, e10, e01, em1, Int32.reduceLT, Int32.reduceLE, onBoat, onGale, onOut, onPort, onRep, onWarn, yn, mI, mS, b0, okA, rcvd, nb0, nb1, ini, List.map_cons, List.map_nil, List.replicate_zero, List.replicate_succ, List.append_nil, ldI, ldA, incK, getK, putK, oldK, castK, inv1, nwO, nwA, nwR, alen, ald, bald, ast, lald, last, rald, rast, goTo, nth, sto, setN, popN, okv, cat1_int, cat1_ref, cat1_null, cat1_rf, va_rf, hup_same, hup_hup, List.length_cons, List.length_nil, List.nil_append, List.cons_append, Option.toList, true_and, and_true, Nat.reduceAdd, Nat.reduceSub, Nat.reduceLT, Nat.reduceLeDiff, Nat.zero_le, Nat.sub_zero, Nat.zero_lt_succ, Nat.lt_add_left_iff_pos, Nat.succ_lt_succ_iff]
        exact h hf
      · cases hz
        rw [show handOf hh_L_report (exN 15) = some 25 from by decide +kernel]
        intro q
        refine wp_of_S hJ (ct []) 400 _ _ _ _ _ _ ?_
        simp only [w_astore (cut := ct []) (pc' := 27) (i := 6) rfl dL_report_25 rfl rfl, w_astoreN (cut := ct []) (pc' := 27) (i := 6) rfl dL_report_25 rfl rfl, w_iconst (cut := ct []) (pc' := 28) (v := 3) rfl dL_report_27 rfl rfl, w_ireturnI (cut := ct []) rfl dL_report_28 rfl, w_iconst (cut := ct []) (pc' := 30) (v := 0) rfl dL_report_29 rfl rfl, w_ireturnI (cut := ct []) rfl dL_report_30 rfl, rsum, cg_int, cg_ref, cg_null, nby0, strd, mStr, onAL, true_imp_iff, false_imp_iff, not_true_eq_false, not_false_eq_true, Classical.not_not, eq_self, e10, e01, em1, Int32.reduceLT, Int32.reduceLE, onBoat, onGale, onOut, onPort, onRep, onWarn, yn, mI, mS, b0, okA, rcvd, nb0, nb1, ini, List.map_cons, List.map_nil, List.replicate_zero, List.replicate_succ, List.append_nil, ldI, ldA, incK, getK, putK, oldK, castK, inv1, nwO, nwA, nwR, alen, ald, bald, ast, lald, last, rald, rast, goTo, nth, sto, setN, popN, okv, cat1_int, cat1_ref, cat1_null, cat1_rf, va_rf, hup_same, hup_hup, List.length_cons, List.length_nil, List.nil_append, List.cons_append, Option.toList, true_and, and_true, Nat.reduceAdd, Nat.reduceSub, Nat.reduceLT, Nat.reduceLeDiff, Nat.zero_le, Nat.sub_zero, Nat.zero_lt_succ, Nat.lt_add_left_iff_pos, Nat.succ_lt_succ_iff]
        exact h hf
      · cases hz
  · exact hT.elim
set_option maxRecDepth 100000 in
theorem con_L_report {l : Launch} {s0 : State} {D : va_G} {cy : Nat → ClassId} {P : Pm} {a0 : Array Value} (hE : E0 l s0 D cy P a0) (hN : NCok s0) : Con l s0 D yL_report (Cond.codeWith yL_report cL_report 7 (some .int) hh_L_report) 8 138 (sp_L_report cy P) := by
  refine con_ofH (kd := 0) (j := 17) (clok_L hE _) (by decide) (fun as σ K KX h => okA_cat h.1) (Nat.le_of_ble_eq_true rfl) dL_report_9 ?_ ?_ (m_L_report cy P)
  · intro p e R s m args below meth c A Q hfr hlo hW B
    exact inv_V (ci := 9) B (con_fr (con_X8_report hE)) rfl (fun as σ K KX h => fr_rcv h) (cw_mk hE hW tw_425 rfl tw_1 ⟨by decide, by decide⟩ rfl) rfl (wd hE hW tw_422 rfl) (wd hE hW tw_423 rfl) (wd hE hW tw_424 rfl) (by rw [hfr]; decide) (by rw [hlo]; decide)
  · intro p e R s m args below meth c A Q hW B htab E h hh9 H locs cells slots lsA r q ce h1 h2 h3 kk
    exact catch_of hE hN hW B htab (by decide) hh9 h1 h2 h3 kk
def hh_L_counts : List (Nat × Nat × Nat × Nat) := [(0, 12, 15, 20)]
def sp_L_counts (cy : Nat → ClassId) (P : Pm) : Sg := mS [1, 0, 0, 0, 1] (fun as σ => (sp_X8_counts cy P).2.1 as.dropLast σ) (fun as σ K KX => match as with
  | [.ref x, .int a0, .int a1, .int a2, .ref o] => wrb cy (sp_X8_counts cy P) hh_L_counts ocI [.ref x, .int a0, .int a1, .int a2] σ o K
  | _ => False)
set_option maxHeartbeats 2000000 in
theorem m_L_counts (cy : Nat → ClassId) (P : Pm) : MOKH (cl_L P) cy P.2.1 obj cL_counts (some .int) 6 (sp_L_counts cy P) 7 (fr (sp_X8_counts cy P)) (handOf hh_L_counts) := by
  intro as σ K KX J hlen hT hJ hC hOld
  obtain ⟨-, hT⟩ := hT
  split at hT
  · rename_i x a0 a1 a2 o
    obtain ⟨f, σ1, ho, hn, hs, hb, hT⟩ := hT
    refine wp_of_S hJ (ct [7]) 400 _ _ _ _ _ _ ?_
    simp only [w_aload (cut := ct [7]) (pc' := 2) (i := 4) rfl dL_counts_0 rfl rfl, w_iconst (cut := ct [7]) (pc' := 3) (v := 0) rfl dL_counts_2 rfl rfl, w_aload_n (cut := ct [7]) (pc' := 4) (i := 0) rfl dL_counts_3 rfl rfl, w_iload_n (cut := ct [7]) (pc' := 5) (i := 1) rfl dL_counts_4 rfl rfl, w_iload_n (cut := ct [7]) (pc' := 6) (i := 2) rfl dL_counts_5 rfl rfl, w_iload_n (cut := ct [7]) (pc' := 7) (i := 3) rfl dL_counts_6 rfl rfl, w_cut (cut := ct [7]) (pc := 7) rfl, rsum, cg_int, cg_ref, cg_null, nby0, strd, mStr, onAL, true_imp_iff, false_imp_iff, not_true_eq_false, not_false_eq_true, Classical.not_not, eq_self, e10, e01, em1, Int32.reduceLT, Int32.reduceLE, onBoat, onGale, onOut, onPort, onRep, onWarn, yn, mI, mS, b0, okA, rcvd, nb0, nb1, ini, List.map_cons, List.map_nil, List.replicate_zero, List.replicate_succ, List.append_nil, ldI, ldA, incK, getK, putK, oldK, castK, inv1, nwO, nwA, nwR, alen, ald, bald, ast, lald, last, rald, rast, goTo, nth, sto, setN, popN, okv, cat1_int, cat1_ref, cat1_null, cat1_rf, va_rf, hup_same, hup_hup, List.length_cons, List.length_nil, List.nil_append, List.cons_append, Option.toList, true_and, and_true, Nat.reduceAdd, Nat.reduceSub, Nat.reduceLT, Nat.reduceLeDiff, Nat.zero_le, Nat.sub_zero, Nat.zero_lt_succ, Nat.lt_add_left_iff_pos, Nat.succ_lt_succ_iff]
    refine hC [.ref x, .int a0, .int a1, .int a2] [.int 0, .ref o] _ σ _ _ rfl (Nat.le_of_ble_eq_true rfl) (Nat.le_refl _) (Nat.le_refl _) ⟨σ1, hs, hb, hT _ _ (fun n τ h hf => ?_) (fun k z τ hz h hf => ?_)⟩
    · have ho9 := mrg_o ho hn hf
      unfold oJ at ho9
      refine wp_of_S hJ (ct []) 400 _ _ _ _ _ _ ?_
      simp only [w_i2l (cut := ct []) (pc' := 11) rfl dL_counts_10 rfl, w_lastore (cut := ct []) rfl dL_counts_11, w_goto (cut := ct []) (t := 19) rfl dL_counts_12 (by decide) rfl, w_astore (cut := ct []) (pc' := 17) (i := 5) rfl dL_counts_15 rfl rfl, w_astoreN (cut := ct []) (pc' := 17) (i := 5) rfl dL_counts_15 rfl rfl, w_iconst (cut := ct []) (pc' := 18) (v := 1) rfl dL_counts_17 rfl rfl, w_ireturnI (cut := ct []) rfl dL_counts_18 rfl, w_iconst (cut := ct []) (pc' := 20) (v := 0) rfl dL_counts_19 rfl rfl, w_ireturnI (cut := ct []) rfl dL_counts_20 rfl, rsum, cg_int, cg_ref, cg_null, nby0, strd, mStr, onAL, true_imp_iff, false_imp_iff, not_true_eq_false, not_false_eq_true, Classical.not_not, eq_self, e10, e01, em1, Int32.reduceLT, Int32.reduceLE, onBoat, onGale, onOut, onPort, onRep, onWarn, yn, mI, mS, b0, okA, rcvd, nb0, nb1, ini, List.map_cons, List.map_nil, List.replicate_zero, List.replicate_succ, List.append_nil, ldI, ldA, incK, getK, putK, oldK, castK, inv1, nwO, nwA, nwR, alen, ald, bald, ast, lald, last, rald, rast, goTo, nth, sto, setN, popN, okv, cat1_int, cat1_ref, cat1_null, cat1_rf, va_rf, hup_same, hup_hup, List.length_cons, List.length_nil, List.nil_append, List.cons_append, Option.toList, true_and, and_true, Nat.reduceAdd, Nat.reduceSub, Nat.reduceLT, Nat.reduceLeDiff, Nat.zero_le, Nat.sub_zero, Nat.zero_lt_succ, Nat.lt_add_left_iff_pos, Nat.succ_lt_succ_iff, ho9, z0]
      exact ⟨vin0, h hf _ (updL0 _ _)⟩
    · rcases k with _ | k
      · cases hz
        rw [show handOf hh_L_counts (exN 20) = some 15 from by decide +kernel]
        intro q
        refine wp_of_S hJ (ct []) 400 _ _ _ _ _ _ ?_
        simp only [w_astore (cut := ct []) (pc' := 17) (i := 5) rfl dL_counts_15 rfl rfl, w_astoreN (cut := ct []) (pc' := 17) (i := 5) rfl dL_counts_15 rfl rfl, w_iconst (cut := ct []) (pc' := 18) (v := 1) rfl dL_counts_17 rfl rfl, w_ireturnI (cut := ct []) rfl dL_counts_18 rfl, w_iconst (cut := ct []) (pc' := 20) (v := 0) rfl dL_counts_19 rfl rfl, w_ireturnI (cut := ct []) rfl dL_counts_20 rfl, rsum, cg_int, cg_ref, cg_null, nby0, strd, mStr, onAL, true_imp_iff, false_imp_iff, not_true_eq_false, not_false_eq_true, Classical.not_not, eq_self, e10, e01, em1, Int32.reduceLT, Int32.reduceLE, onBoat, onGale, onOut, onPort, onRep, onWarn, yn, mI, mS, b0, okA, rcvd, nb0, nb1, ini, List.map_cons, List.map_nil, List.replicate_zero, List.replicate_succ, List.append_nil, ldI, ldA, incK, getK, putK, oldK, castK, inv1, nwO, nwA, nwR, alen, ald, bald, ast, lald, last, rald, rast, goTo, nth, sto, setN, popN, okv, cat1_int, cat1_ref, cat1_null, cat1_rf, va_rf, hup_same, hup_hup, List.length_cons, List.length_nil, List.nil_append, List.cons_append, Option.toList, true_and, and_true, Nat.reduceAdd, Nat.reduceSub, Nat.reduceLT, Nat.reduceLeDiff, Nat.zero_le, Nat.sub_zero, Nat.zero_lt_succ, Nat.lt_add_left_iff_pos, Nat.succ_lt_succ_iff]
        exact h hf
      · cases hz
  · exact hT.elim
set_option maxRecDepth 100000 in
theorem con_L_counts {l : Launch} {s0 : State} {D : va_G} {cy : Nat → ClassId} {P : Pm} {a0 : Array Value} (hE : E0 l s0 D cy P a0) (hN : NCok s0) : Con l s0 D yL_counts (Cond.codeWith yL_counts cL_counts 6 (some .int) hh_L_counts) 8 135 (sp_L_counts cy P) := by
  refine con_ofH (kd := 0) (j := 22) (clok_L hE _) (by decide) (fun as σ K KX h => okA_cat h.1) (Nat.le_of_ble_eq_true rfl) dL_counts_7 ?_ ?_ (m_L_counts cy P)
  · intro p e R s m args below meth c A Q hfr hlo hW B
    exact inv_V (ci := 9) B (con_fr (con_X8_counts hE)) rfl (fun as σ K KX h => fr_rcv h) (cw_mk hE hW tw_489 rfl tw_1 ⟨by decide, by decide⟩ rfl) rfl (wd hE hW tw_486 rfl) (wd hE hW tw_487 rfl) (wd hE hW tw_488 rfl) (by rw [hfr]; decide) (by rw [hlo]; decide)
  · intro p e R s m args below meth c A Q hW B htab E h hh9 H locs cells slots lsA r q ce h1 h2 h3 kk
    exact catch_of hE hN hW B htab (by decide) hh9 h1 h2 h3 kk
def hh_L_field : List (Nat × Nat × Nat × Nat) := [(0, 14, 17, 13)]
def sp_L_field (cy : Nat → ClassId) (P : Pm) : Sg := mS [1, 0, 0, 0, 0, 1] (fun as σ => (sp_X8_field cy P).2.1 as.dropLast σ) (fun as σ K KX => match as with
  | [.ref x, .int a0, .int a1, .int a2, .int a3, .ref o] => wrb cy (sp_X8_field cy P) hh_L_field ocI [.ref x, .int a0, .int a1, .int a2, .int a3] σ o K
  | _ => False)
set_option maxHeartbeats 2000000 in
theorem m_L_field (cy : Nat → ClassId) (P : Pm) : MOKH (cl_L P) cy P.2.1 obj cL_field (some .int) 7 (sp_L_field cy P) 9 (fr (sp_X8_field cy P)) (handOf hh_L_field) := by
  intro as σ K KX J hlen hT hJ hC hOld
  obtain ⟨-, hT⟩ := hT
  split at hT
  · rename_i x a0 a1 a2 a3 o
    obtain ⟨f, σ1, ho, hn, hs, hb, hT⟩ := hT
    refine wp_of_S hJ (ct [9]) 400 _ _ _ _ _ _ ?_
    simp only [w_aload (cut := ct [9]) (pc' := 2) (i := 5) rfl dL_field_0 rfl rfl, w_iconst (cut := ct [9]) (pc' := 3) (v := 0) rfl dL_field_2 rfl rfl, w_aload_n (cut := ct [9]) (pc' := 4) (i := 0) rfl dL_field_3 rfl rfl, w_iload_n (cut := ct [9]) (pc' := 5) (i := 1) rfl dL_field_4 rfl rfl, w_iload_n (cut := ct [9]) (pc' := 6) (i := 2) rfl dL_field_5 rfl rfl, w_iload_n (cut := ct [9]) (pc' := 7) (i := 3) rfl dL_field_6 rfl rfl, w_iload (cut := ct [9]) (pc' := 9) (i := 4) rfl dL_field_7 rfl rfl, w_cut (cut := ct [9]) (pc := 9) rfl, rsum, cg_int, cg_ref, cg_null, nby0, strd, mStr, onAL, true_imp_iff, false_imp_iff, not_true_eq_false, not_false_eq_true, Classical.not_not, eq_self, e10, e01, em1, Int32.reduceLT, Int32.reduceLE, onBoat, onGale, onOut, onPort, onRep, onWarn, yn, mI, mS, b0, okA, rcvd, nb0, nb1, ini, List.map_cons, List.map_nil, List.replicate_zero, List.replicate_succ, List.append_nil, ldI, ldA, incK, getK, putK, oldK, castK, inv1, nwO, nwA, nwR, alen, ald, bald, ast, lald, last, rald, rast, goTo, nth, sto, setN, popN, okv, cat1_int, cat1_ref, cat1_null, cat1_rf, va_rf, hup_same, hup_hup, List.length_cons, List.length_nil, List.nil_append, List.cons_append, Option.toList, true_and, and_true, Nat.reduceAdd, Nat.reduceSub, Nat.reduceLT, Nat.reduceLeDiff, Nat.zero_le, Nat.sub_zero, Nat.zero_lt_succ, Nat.lt_add_left_iff_pos, Nat.succ_lt_succ_iff]
    refine hC [.ref x, .int a0, .int a1, .int a2, .int a3] [.int 0, .ref o] _ σ _ _ rfl (Nat.le_of_ble_eq_true rfl) (Nat.le_refl _) (Nat.le_refl _) ⟨σ1, hs, hb, hT _ _ (fun n τ h hf => ?_) (fun k z τ hz h hf => ?_)⟩
    · have ho9 := mrg_o ho hn hf
      unfold oJ at ho9
      refine wp_of_S hJ (ct []) 400 _ _ _ _ _ _ ?_
      simp only [w_i2l (cut := ct []) (pc' := 13) rfl dL_field_12 rfl, w_lastore (cut := ct []) rfl dL_field_13, w_goto (cut := ct []) (t := 21) rfl dL_field_14 (by decide) rfl, w_astore (cut := ct []) (pc' := 19) (i := 6) rfl dL_field_17 rfl rfl, w_astoreN (cut := ct []) (pc' := 19) (i := 6) rfl dL_field_17 rfl rfl, w_iconst (cut := ct []) (pc' := 20) (v := 1) rfl dL_field_19 rfl rfl, w_ireturnI (cut := ct []) rfl dL_field_20 rfl, w_iconst (cut := ct []) (pc' := 22) (v := 0) rfl dL_field_21 rfl rfl, w_ireturnI (cut := ct []) rfl dL_field_22 rfl, rsum, cg_int, cg_ref, cg_null, nby0, strd, mStr, onAL, true_imp_iff, false_imp_iff, not_true_eq_false, not_false_eq_true, Classical.not_not, eq_self, e10, e01, em1, Int32.reduceLT, Int32.reduceLE, onBoat, onGale, onOut, onPort, onRep, onWarn, yn, mI, mS, b0, okA, rcvd, nb0, nb1, ini, List.map_cons, List.map_nil, List.replicate_zero, List.replicate_succ, List.append_nil, ldI, ldA, incK, getK, putK, oldK, castK, inv1, nwO, nwA, nwR, alen, ald, bald, ast, lald, last, rald, rast, goTo, nth, sto, setN, popN, okv, cat1_int, cat1_ref, cat1_null, cat1_rf, va_rf, hup_same, hup_hup, List.length_cons, List.length_nil, List.nil_append, List.cons_append, Option.toList, true_and, and_true, Nat.reduceAdd, Nat.reduceSub, Nat.reduceLT, Nat.reduceLeDiff, Nat.zero_le, Nat.sub_zero, Nat.zero_lt_succ, Nat.lt_add_left_iff_pos, Nat.succ_lt_succ_iff, ho9, z0]
      exact ⟨vin0, h hf _ (updL0 _ _)⟩
    · rcases k with _ | k
      · cases hz
        rw [show handOf hh_L_field (exN 13) = some 17 from by decide +kernel]
        intro q
        refine wp_of_S hJ (ct []) 400 _ _ _ _ _ _ ?_
        simp only [w_astore (cut := ct []) (pc' := 19) (i := 6) rfl dL_field_17 rfl rfl, w_astoreN (cut := ct []) (pc' := 19) (i := 6) rfl dL_field_17 rfl rfl, w_iconst (cut := ct []) (pc' := 20) (v := 1) rfl dL_field_19 rfl rfl, w_ireturnI (cut := ct []) rfl dL_field_20 rfl, w_iconst (cut := ct []) (pc' := 22) (v := 0) rfl dL_field_21 rfl rfl, w_ireturnI (cut := ct []) rfl dL_field_22 rfl, rsum, cg_int, cg_ref, cg_null, nby0, strd, mStr, onAL, true_imp_iff, false_imp_iff, not_true_eq_false, not_false_eq_true, Classical.not_not, eq_self, e10, e01, em1, Int32.reduceLT, Int32.reduceLE, onBoat, onGale, onOut, onPort, onRep, onWarn, yn, mI, mS, b0, okA, rcvd, nb0, nb1, ini, List.map_cons, List.map_nil, List.replicate_zero, List.replicate_succ, List.append_nil, ldI, ldA, incK, getK, putK, oldK, castK, inv1, nwO, nwA, nwR, alen, ald, bald, ast, lald, last, rald, rast, goTo, nth, sto, setN, popN, okv, cat1_int, cat1_ref, cat1_null, cat1_rf, va_rf, hup_same, hup_hup, List.length_cons, List.length_nil, List.nil_append, List.cons_append, Option.toList, true_and, and_true, Nat.reduceAdd, Nat.reduceSub, Nat.reduceLT, Nat.reduceLeDiff, Nat.zero_le, Nat.sub_zero, Nat.zero_lt_succ, Nat.lt_add_left_iff_pos, Nat.succ_lt_succ_iff]
        exact h hf
      · cases hz
  · exact hT.elim
set_option maxRecDepth 100000 in
theorem con_L_field {l : Launch} {s0 : State} {D : va_G} {cy : Nat → ClassId} {P : Pm} {a0 : Array Value} (hE : E0 l s0 D cy P a0) (hN : NCok s0) : Con l s0 D yL_field (Cond.codeWith yL_field cL_field 7 (some .int) hh_L_field) 7 118 (sp_L_field cy P) := by
  refine con_ofH (kd := 0) (j := 26) (clok_L hE _) (by decide) (fun as σ K KX h => okA_cat h.1) (Nat.le_of_ble_eq_true rfl) dL_field_9 ?_ ?_ (m_L_field cy P)
  · intro p e R s m args below meth c A Q hfr hlo hW B
    exact inv_V (ci := 9) B (con_fr (con_X8_field hE)) rfl (fun as σ K KX h => fr_rcv h) (cw_mk hE hW tw_500 rfl tw_1 ⟨by decide, by decide⟩ rfl) rfl (wd hE hW tw_497 rfl) (wd hE hW tw_498 rfl) (wd hE hW tw_499 rfl) (by rw [hfr]; decide) (by rw [hlo]; decide)
  · intro p e R s m args below meth c A Q hW B htab E h hh9 H locs cells slots lsA r q ce h1 h2 h3 kk
    exact catch_of hE hN hW B htab (by decide) hh9 h1 h2 h3 kk
def hh_L_rules : List (Nat × Nat × Nat × Nat) := [(0, 8, 11, 13)]
def sp_L_rules (cy : Nat → ClassId) (P : Pm) : Sg := mS [1, 1] (fun as σ => (sp_X8_rules cy P).2.1 as.dropLast σ) (fun as σ K KX => match as with
  | [.ref x, .ref o] => wrb cy (sp_X8_rules cy P) hh_L_rules ocI [.ref x] σ o K
  | _ => False)
set_option maxHeartbeats 2000000 in
theorem m_L_rules (cy : Nat → ClassId) (P : Pm) : MOKH (cl_L P) cy P.2.1 obj cL_rules (some .int) 3 (sp_L_rules cy P) 3 (fr (sp_X8_rules cy P)) (handOf hh_L_rules) := by
  intro as σ K KX J hlen hT hJ hC hOld
  obtain ⟨-, hT⟩ := hT
  split at hT
  · rename_i x  o
    obtain ⟨f, σ1, ho, hn, hs, hb, hT⟩ := hT
    refine wp_of_S hJ (ct [3]) 400 _ _ _ _ _ _ ?_
    simp only [w_aload_n (cut := ct [3]) (pc' := 1) (i := 1) rfl dL_rules_0 rfl rfl, w_iconst (cut := ct [3]) (pc' := 2) (v := 0) rfl dL_rules_1 rfl rfl, w_aload_n (cut := ct [3]) (pc' := 3) (i := 0) rfl dL_rules_2 rfl rfl, w_cut (cut := ct [3]) (pc := 3) rfl, rsum, cg_int, cg_ref, cg_null, nby0, strd, mStr, onAL, true_imp_iff, false_imp_iff, not_true_eq_false, not_false_eq_true, Classical.not_not, eq_self, e10, e01, em1, Int32.reduceLT, Int32.reduceLE, onBoat, onGale, onOut, onPort, onRep, onWarn, yn, mI, mS, b0, okA, rcvd, nb0, nb1, ini, List.map_cons, List.map_nil, List.replicate_zero, List.replicate_succ, List.append_nil, ldI, ldA, incK, getK, putK, oldK, castK, inv1, nwO, nwA, nwR, alen, ald, bald, ast, lald, last, rald, rast, goTo, nth, sto, setN, popN, okv, cat1_int, cat1_ref, cat1_null, cat1_rf, va_rf, hup_same, hup_hup, List.length_cons, List.length_nil, List.nil_append, List.cons_append, Option.toList, true_and, and_true, Nat.reduceAdd, Nat.reduceSub, Nat.reduceLT, Nat.reduceLeDiff, Nat.zero_le, Nat.sub_zero, Nat.zero_lt_succ, Nat.lt_add_left_iff_pos, Nat.succ_lt_succ_iff]
    refine hC [.ref x] [.int 0, .ref o] _ σ _ _ rfl (Nat.le_of_ble_eq_true rfl) (Nat.le_refl _) (Nat.le_refl _) ⟨σ1, hs, hb, hT _ _ (fun n τ h hf => ?_) (fun k z τ hz h hf => ?_)⟩
    · have ho9 := mrg_o ho hn hf
      unfold oJ at ho9
      refine wp_of_S hJ (ct []) 400 _ _ _ _ _ _ ?_
      simp only [w_i2l (cut := ct []) (pc' := 7) rfl dL_rules_6 rfl, w_lastore (cut := ct []) rfl dL_rules_7, w_goto (cut := ct []) (t := 14) rfl dL_rules_8 (by decide) rfl, w_astore_n (cut := ct []) (pc' := 12) (i := 2) rfl dL_rules_11 rfl rfl, w_astore_nN (cut := ct []) (pc' := 12) (i := 2) rfl dL_rules_11 rfl rfl, w_iconst (cut := ct []) (pc' := 13) (v := 1) rfl dL_rules_12 rfl rfl, w_ireturnI (cut := ct []) rfl dL_rules_13 rfl, w_iconst (cut := ct []) (pc' := 15) (v := 0) rfl dL_rules_14 rfl rfl, w_ireturnI (cut := ct []) rfl dL_rules_15 rfl, rsum, cg_int, cg_ref, cg_null, nby0, strd, mStr, onAL, true_imp_iff, false_imp_iff, not_true_eq_false, not_false_eq_true, Classical.not_not, eq_self, e10, e01, em1, Int32.reduceLT, Int32.reduceLE, onBoat, onGale, onOut, onPort, onRep, onWarn, yn, mI, mS, b0, okA, rcvd, nb0, nb1, ini, List.map_cons, List.map_nil, List.replicate_zero, List.replicate_succ, List.append_nil, ldI, ldA, incK, getK, putK, oldK, castK, inv1, nwO, nwA, nwR, alen, ald, bald, ast, lald, last, rald, rast, goTo, nth, sto, setN, popN, okv, cat1_int, cat1_ref, cat1_null, cat1_rf, va_rf, hup_same, hup_hup, List.length_cons, List.length_nil, List.nil_append, List.cons_append, Option.toList, true_and, and_true, Nat.reduceAdd, Nat.reduceSub, Nat.reduceLT, Nat.reduceLeDiff, Nat.zero_le, Nat.sub_zero, Nat.zero_lt_succ, Nat.lt_add_left_iff_pos, Nat.succ_lt_succ_iff, ho9, z0]
      exact ⟨vin0, h hf _ (updL0 _ _)⟩
    · rcases k with _ | k
      · cases hz
        rw [show handOf hh_L_rules (exN 13) = some 11 from by decide +kernel]
        intro q
        refine wp_of_S hJ (ct []) 400 _ _ _ _ _ _ ?_
        simp only [w_astore_n (cut := ct []) (pc' := 12) (i := 2) rfl dL_rules_11 rfl rfl, w_astore_nN (cut := ct []) (pc' := 12) (i := 2) rfl dL_rules_11 rfl rfl, w_iconst (cut := ct []) (pc' := 13) (v := 1) rfl dL_rules_12 rfl rfl, w_ireturnI (cut := ct []) rfl dL_rules_13 rfl, w_iconst (cut := ct []) (pc' := 15) (v := 0) rfl dL_rules_14 rfl rfl, w_ireturnI (cut := ct []) rfl dL_rules_15 rfl, rsum, cg_int, cg_ref, cg_null, nby0, strd, mStr, onAL, true_imp_iff, false_imp_iff, not_true_eq_false, not_false_eq_true, Classical.not_not, eq_self, e10, e01, em1, Int32.reduceLT, Int32.reduceLE, onBoat, onGale, onOut, onPort, onRep, onWarn, yn, mI, mS, b0, okA, rcvd, nb0, nb1, ini, List.map_cons, List.map_nil, List.replicate_zero, List.replicate_succ, List.append_nil, ldI, ldA, incK, getK, putK, oldK, castK, inv1, nwO, nwA, nwR, alen, ald, bald, ast, lald, last, rald, rast, goTo, nth, sto, setN, popN, okv, cat1_int, cat1_ref, cat1_null, cat1_rf, va_rf, hup_same, hup_hup, List.length_cons, List.length_nil, List.nil_append, List.cons_append, Option.toList, true_and, and_true, Nat.reduceAdd, Nat.reduceSub, Nat.reduceLT, Nat.reduceLeDiff, Nat.zero_le, Nat.sub_zero, Nat.zero_lt_succ, Nat.lt_add_left_iff_pos, Nat.succ_lt_succ_iff]
        exact h hf
      · cases hz
  · exact hT.elim
set_option maxRecDepth 100000 in
theorem con_L_rules {l : Launch} {s0 : State} {D : va_G} {cy : Nat → ClassId} {P : Pm} {a0 : Array Value} (hE : E0 l s0 D cy P a0) (hN : NCok s0) : Con l s0 D yL_rules (Cond.codeWith yL_rules cL_rules 3 (some .int) hh_L_rules) 10 220 (sp_L_rules cy P) := by
  refine con_ofH (kd := 0) (j := 29) (clok_L hE _) (by decide) (fun as σ K KX h => okA_cat h.1) (Nat.le_of_ble_eq_true rfl) dL_rules_3 ?_ ?_ (m_L_rules cy P)
  · intro p e R s m args below meth c A Q hfr hlo hW B
    exact inv_V (ci := 9) B (con_fr (con_X8_rules hE)) rfl (fun as σ K KX h => fr_rcv h) (cw_mk hE hW tw_517 rfl tw_1 ⟨by decide, by decide⟩ rfl) rfl (wd hE hW tw_514 rfl) (wd hE hW tw_515 rfl) (wd hE hW tw_516 rfl) (by rw [hfr]; decide) (by rw [hlo]; decide)
  · intro p e R s m args below meth c A Q hW B htab E h hh9 H locs cells slots lsA r q ce h1 h2 h3 kk
    exact catch_of hE hN hW B htab (by decide) hh9 h1 h2 h3 kk
def hh_L_gale : List (Nat × Nat × Nat × Nat) := [(0, 14, 17, 20), (0, 14, 21, 13), (0, 14, 25, 15)]
def sp_L_gale (cy : Nat → ClassId) (P : Pm) : Sg := mS [1, 0, 0, 0, 0, 1] (fun as σ => (sp_X8_gale cy P).2.1 as.dropLast σ) (fun as σ K KX => match as with
  | [.ref x, .int a0, .int a1, .int a2, .int a3, .ref o] => wrb cy (sp_X8_gale cy P) hh_L_gale ocI [.ref x, .int a0, .int a1, .int a2, .int a3] σ o K
  | _ => False)
set_option maxHeartbeats 2000000 in
theorem m_L_gale (cy : Nat → ClassId) (P : Pm) : MOKH (cl_L P) cy P.2.1 obj cL_gale (some .int) 7 (sp_L_gale cy P) 9 (fr (sp_X8_gale cy P)) (handOf hh_L_gale) := by
  intro as σ K KX J hlen hT hJ hC hOld
  obtain ⟨-, hT⟩ := hT
  split at hT
  · rename_i x a0 a1 a2 a3 o
    obtain ⟨f, σ1, ho, hn, hs, hb, hT⟩ := hT
    refine wp_of_S hJ (ct [9]) 400 _ _ _ _ _ _ ?_
    simp only [w_aload (cut := ct [9]) (pc' := 2) (i := 5) rfl dL_gale_0 rfl rfl, w_iconst (cut := ct [9]) (pc' := 3) (v := 0) rfl dL_gale_2 rfl rfl, w_aload_n (cut := ct [9]) (pc' := 4) (i := 0) rfl dL_gale_3 rfl rfl, w_iload_n (cut := ct [9]) (pc' := 5) (i := 1) rfl dL_gale_4 rfl rfl, w_iload_n (cut := ct [9]) (pc' := 6) (i := 2) rfl dL_gale_5 rfl rfl, w_iload_n (cut := ct [9]) (pc' := 7) (i := 3) rfl dL_gale_6 rfl rfl, w_iload (cut := ct [9]) (pc' := 9) (i := 4) rfl dL_gale_7 rfl rfl, w_cut (cut := ct [9]) (pc := 9) rfl, rsum, cg_int, cg_ref, cg_null, nby0, strd, mStr, onAL, true_imp_iff, false_imp_iff, not_true_eq_false, not_false_eq_true, Classical.not_not, eq_self, e10, e01, em1, Int32.reduceLT, Int32.reduceLE, onBoat, onGale, onOut, onPort, onRep, onWarn, yn, mI, mS, b0, okA, rcvd, nb0, nb1, ini, List.map_cons, List.map_nil, List.replicate_zero, List.replicate_succ, List.append_nil, ldI, ldA, incK, getK, putK, oldK, castK, inv1, nwO, nwA, nwR, alen, ald, bald, ast, lald, last, rald, rast, goTo, nth, sto, setN, popN, okv, cat1_int, cat1_ref, cat1_null, cat1_rf, va_rf, hup_same, hup_hup, List.length_cons, List.length_nil, List.nil_append, List.cons_append, Option.toList, true_and, and_true, Nat.reduceAdd, Nat.reduceSub, Nat.reduceLT, Nat.reduceLeDiff, Nat.zero_le, Nat.sub_zero, Nat.zero_lt_succ, Nat.lt_add_left_iff_pos, Nat.succ_lt_succ_iff]
    refine hC [.ref x, .int a0, .int a1, .int a2, .int a3] [.int 0, .ref o] _ σ _ _ rfl (Nat.le_of_ble_eq_true rfl) (Nat.le_refl _) (Nat.le_refl _) ⟨σ1, hs, hb, hT _ _ (fun n τ h hf => ?_) (fun k z τ hz h hf => ?_)⟩
    · have ho9 := mrg_o ho hn hf
      unfold oJ at ho9
      refine wp_of_S hJ (ct []) 400 _ _ _ _ _ _ ?_
      simp only [w_i2l (cut := ct []) (pc' := 13) rfl dL_gale_12 rfl, w_lastore (cut := ct []) rfl dL_gale_13, w_goto (cut := ct []) (t := 29) rfl dL_gale_14 (by decide) rfl, w_astore (cut := ct []) (pc' := 19) (i := 6) rfl dL_gale_17 rfl rfl, w_astoreN (cut := ct []) (pc' := 19) (i := 6) rfl dL_gale_17 rfl rfl, w_iconst (cut := ct []) (pc' := 20) (v := 1) rfl dL_gale_19 rfl rfl, w_ireturnI (cut := ct []) rfl dL_gale_20 rfl, w_astore (cut := ct []) (pc' := 23) (i := 6) rfl dL_gale_21 rfl rfl, w_astoreN (cut := ct []) (pc' := 23) (i := 6) rfl dL_gale_21 rfl rfl, w_iconst (cut := ct []) (pc' := 24) (v := 2) rfl dL_gale_23 rfl rfl, w_ireturnI (cut := ct []) rfl dL_gale_24 rfl, w_astore (cut := ct []) (pc' := 27) (i := 6) rfl dL_gale_25 rfl rfl, w_astoreN (cut := ct []) (pc' := 27) (i := 6) rfl dL_gale_25 rfl rfl, w_iconst (cut := ct []) (pc' := 28) (v := 3) rfl dL_gale_27 rfl rfl, w_ireturnI (cut := ct []) rfl dL_gale_28 rfl, w_iconst (cut := ct []) (pc' := 30) (v := 0) rfl dL_gale_29 rfl rfl, w_ireturnI (cut := ct []) rfl dL_gale_30 rfl, rsum, cg_int, cg_ref, cg_null, nby0, strd, mStr, onAL, true_imp_iff, false_imp_iff, not_true_eq_false, not_false_eq_true, Classical.not_not, eq_self, e10, e01, em1, Int32.reduceLT, Int32.reduceLE, onBoat, onGale, onOut, onPort, onRep, onWarn, yn, mI, mS, b0, okA, rcvd, nb0, nb1, ini, List.map_cons, List.map_nil, List.replicate_zero, List.replicate_succ, List.append_nil, ldI, ldA, incK, getK, putK, oldK, castK, inv1, nwO, nwA, nwR, alen, ald, bald, ast, lald, last, rald, rast, goTo, nth, sto, setN, popN, okv, cat1_int, cat1_ref, cat1_null, cat1_rf, va_rf, hup_same, hup_hup, List.length_cons, List.length_nil, List.nil_append, List.cons_append, Option.toList, true_and, and_true, Nat.reduceAdd, Nat.reduceSub, Nat.reduceLT, Nat.reduceLeDiff, Nat.zero_le, Nat.sub_zero, Nat.zero_lt_succ, Nat.lt_add_left_iff_pos, Nat.succ_lt_succ_iff, ho9, z0]
      exact ⟨vin0, h hf _ (updL0 _ _)⟩
    · rcases k with _ | _ | _ | k
      · cases hz
        rw [show handOf hh_L_gale (exN 20) = some 17 from by decide +kernel]
        intro q
        refine wp_of_S hJ (ct []) 400 _ _ _ _ _ _ ?_
        simp only [w_astore (cut := ct []) (pc' := 19) (i := 6) rfl dL_gale_17 rfl rfl, w_astoreN (cut := ct []) (pc' := 19) (i := 6) rfl dL_gale_17 rfl rfl, w_iconst (cut := ct []) (pc' := 20) (v := 1) rfl dL_gale_19 rfl rfl, w_ireturnI (cut := ct []) rfl dL_gale_20 rfl, w_astore (cut := ct []) (pc' := 23) (i := 6) rfl dL_gale_21 rfl rfl, w_astoreN (cut := ct []) (pc' := 23) (i := 6) rfl dL_gale_21 rfl rfl, w_iconst (cut := ct []) (pc' := 24) (v := 2) rfl dL_gale_23 rfl rfl, rsum, cg_int, cg_ref, cg_null, nby0, strd, mStr, onAL, true_imp_iff, false_imp_iff, not_true_eq_false, not_false_eq_true, Classical.not_not, eq_self, e10, e01, em1, Int32.reduceLT, Int32.reduceLE, onBoat, onGale, onOut, onPort, onRep, onWarn, yn, mI, mS, b0, okA, rcvd, nb0, nb1, ini, List.map_cons, List.map_nil, List.replicate_zero, List.replicate_succ, List.append_nil, ldI, ldA, incK, getK, putK, oldK, castK, inv1, nwO, nwA, nwR, alen, ald, bald, ast, lald, last, rald, rast, goTo, nth, sto, setN, popN, okv, cat1_int, cat1_ref, cat1_null, cat1_rf, va_rf, hup_same, hup_hup, List.length_cons, List.length_nil, List.nil_append, List.cons_append, Option.toList, true_and, and_true, Nat.reduceAdd, Nat.reduceSub, Nat.reduceLT, Nat.reduceLeDiff, Nat.zero_le, Nat.sub_zero, Nat.zero_lt_succ, Nat.lt_add_left_iff_pos, Nat.succ_lt_succ_iff]
        exact h hf
      · cases hz
        rw [show handOf hh_L_gale (exN 13) = some 21 from by decide +kernel]
        intro q
        refine wp_of_S hJ (ct []) 400 _ _ _ _ _ _ ?_
        simp only [w_astore (cut := ct []) (pc' := 23) (i := 6) rfl dL_gale_21 rfl rfl, w_astoreN (cut := ct []) (pc' := 23) (i := 6) rfl dL_gale_21 rfl rfl, w_iconst (cut := ct []) (pc' := 24) (v := 2) rfl dL_gale_23 rfl rfl, w_ireturnI (cut := ct []) rfl dL_gale_24 rfl, w_astore (cut := ct []) (pc' := 27) (i := 6) rfl dL_gale_25 rfl rfl, w_astoreN (cut := ct []) (pc' := 27) (i := 6) rfl dL_gale_25 rfl rfl, w_iconst (cut := ct []) (pc' := 28) (v := 3) rfl dL_gale_27 rfl rfl, rsum, cg_int, cg_ref, cg_null, nby0, strd, mStr, onAL, true_imp_iff, false_imp_iff, not_true_eq_false, not_false_eq_true, Classical.not_not, eq_self, e10, e01, em1, Int32.reduceLT, Int32.reduceLE, onBoat, onGale, onOut, onPort, onRep, onWarn, yn, mI, mS, b0, okA, rcvd, nb0, nb1, ini, List.map_cons, List.map_nil, List.replicate_zero, List.replicate_succ, List.append_nil, ldI, ldA, incK, getK, putK, oldK, castK, inv1, nwO, nwA, nwR, alen, ald, bald, ast, lald, last, rald, rast, goTo, nth, sto, setN, popN, okv, cat1_int, cat1_ref, cat1_null, cat1_rf, va_rf, hup_same, hup_hup, List.length_cons, List.length_nil, List.nil_append, List.cons_append, Option.toList, true_and, and_true, Nat.reduceAdd, Nat.reduceSub, Nat.reduceLT, Nat.reduceLeDiff, Nat.zero_le, Nat.sub_zero, Nat.zero_lt_succ, Nat.lt_add_left_iff_pos, Nat.succ_lt_succ_iff]
        exact h hf
      · cases hz
        rw [show handOf hh_L_gale (exN 15) = some 25 from by decide +kernel]
        intro q
        refine wp_of_S hJ (ct []) 400 _ _ _ _ _ _ ?_
        simp only [w_astore (cut := ct []) (pc' := 27) (i := 6) rfl dL_gale_25 rfl rfl, w_astoreN (cut := ct []) (pc' := 27) (i := 6) rfl dL_gale_25 rfl rfl, w_iconst (cut := ct []) (pc' := 28) (v := 3) rfl dL_gale_27 rfl rfl, w_ireturnI (cut := ct []) rfl dL_gale_28 rfl, w_iconst (cut := ct []) (pc' := 30) (v := 0) rfl dL_gale_29 rfl rfl, w_ireturnI (cut := ct []) rfl dL_gale_30 rfl, rsum, cg_int, cg_ref, cg_null, nby0, strd, mStr, onAL, true_imp_iff, false_imp_iff, not_true_eq_false, not_false_eq_true, Classical.not_not, eq_self, e10, e01, em1, Int32.reduceLT, Int32.reduceLE, onBoat, onGale, onOut, onPort, onRep, onWarn, yn, mI, mS, b0, okA, rcvd, nb0, nb1, ini, List.map_cons, List.map_nil, List.replicate_zero, List.replicate_succ, List.append_nil, ldI, ldA, incK, getK, putK, oldK, castK, inv1, nwO, nwA, nwR, alen, ald, bald, ast, lald, last, rald, rast, goTo, nth, sto, setN, popN, okv, cat1_int, cat1_ref, cat1_null, cat1_rf, va_rf, hup_same, hup_hup, List.length_cons, List.length_nil, List.nil_append, List.cons_append, Option.toList, true_and, and_true, Nat.reduceAdd, Nat.reduceSub, Nat.reduceLT, Nat.reduceLeDiff, Nat.zero_le, Nat.sub_zero, Nat.zero_lt_succ, Nat.lt_add_left_iff_pos, Nat.succ_lt_succ_iff]
        exact h hf
      · cases hz
  · exact hT.elim
set_option maxRecDepth 100000 in
theorem con_L_gale {l : Launch} {s0 : State} {D : va_G} {cy : Nat → ClassId} {P : Pm} {a0 : Array Value} (hE : E0 l s0 D cy P a0) (hN : NCok s0) : Con l s0 D yL_gale (Cond.codeWith yL_gale cL_gale 7 (some .int) hh_L_gale) 8 217 (sp_L_gale cy P) := by
  refine con_ofH (kd := 0) (j := 33) (clok_L hE _) (by decide) (fun as σ K KX h => okA_cat h.1) (Nat.le_of_ble_eq_true rfl) dL_gale_9 ?_ ?_ (m_L_gale cy P)
  · intro p e R s m args below meth c A Q hfr hlo hW B
    exact inv_V (ci := 9) B (con_fr (con_X8_gale hE)) rfl (fun as σ K KX h => fr_rcv h) (cw_mk hE hW tw_636 rfl tw_1 ⟨by decide, by decide⟩ rfl) rfl (wd hE hW tw_633 rfl) (wd hE hW tw_634 rfl) (wd hE hW tw_635 rfl) (by rw [hfr]; decide) (by rw [hlo]; decide)
  · intro p e R s m args below meth c A Q hW B htab E h hh9 H locs cells slots lsA r q ce h1 h2 h3 kk
    exact catch_of hE hN hW B htab (by decide) hh9 h1 h2 h3 kk
def hh_L_boat : List (Nat × Nat × Nat × Nat) := [(0, 12, 15, 20), (0, 12, 19, 13), (0, 12, 23, 15)]
def sp_L_boat (cy : Nat → ClassId) (P : Pm) : Sg := mS [1, 0, 0, 0, 1] (fun as σ => (sp_X8_boat cy P).2.1 as.dropLast σ) (fun as σ K KX => match as with
  | [.ref x, .int a0, .int a1, .int a2, .ref o] => wrb cy (sp_X8_boat cy P) hh_L_boat ocI [.ref x, .int a0, .int a1, .int a2] σ o K
  | _ => False)
set_option maxHeartbeats 2000000 in
theorem m_L_boat (cy : Nat → ClassId) (P : Pm) : MOKH (cl_L P) cy P.2.1 obj cL_boat (some .int) 6 (sp_L_boat cy P) 7 (fr (sp_X8_boat cy P)) (handOf hh_L_boat) := by
  intro as σ K KX J hlen hT hJ hC hOld
  obtain ⟨-, hT⟩ := hT
  split at hT
  · rename_i x a0 a1 a2 o
    obtain ⟨f, σ1, ho, hn, hs, hb, hT⟩ := hT
    refine wp_of_S hJ (ct [7]) 400 _ _ _ _ _ _ ?_
    simp only [w_aload (cut := ct [7]) (pc' := 2) (i := 4) rfl dL_boat_0 rfl rfl, w_iconst (cut := ct [7]) (pc' := 3) (v := 0) rfl dL_boat_2 rfl rfl, w_aload_n (cut := ct [7]) (pc' := 4) (i := 0) rfl dL_boat_3 rfl rfl, w_iload_n (cut := ct [7]) (pc' := 5) (i := 1) rfl dL_boat_4 rfl rfl, w_iload_n (cut := ct [7]) (pc' := 6) (i := 2) rfl dL_boat_5 rfl rfl, w_iload_n (cut := ct [7]) (pc' := 7) (i := 3) rfl dL_boat_6 rfl rfl, w_cut (cut := ct [7]) (pc := 7) rfl, rsum, cg_int, cg_ref, cg_null, nby0, strd, mStr, onAL, true_imp_iff, false_imp_iff, not_true_eq_false, not_false_eq_true, Classical.not_not, eq_self, e10, e01, em1, Int32.reduceLT, Int32.reduceLE, onBoat, onGale, onOut, onPort, onRep, onWarn, yn, mI, mS, b0, okA, rcvd, nb0, nb1, ini, List.map_cons, List.map_nil, List.replicate_zero, List.replicate_succ, List.append_nil, ldI, ldA, incK, getK, putK, oldK, castK, inv1, nwO, nwA, nwR, alen, ald, bald, ast, lald, last, rald, rast, goTo, nth, sto, setN, popN, okv, cat1_int, cat1_ref, cat1_null, cat1_rf, va_rf, hup_same, hup_hup, List.length_cons, List.length_nil, List.nil_append, List.cons_append, Option.toList, true_and, and_true, Nat.reduceAdd, Nat.reduceSub, Nat.reduceLT, Nat.reduceLeDiff, Nat.zero_le, Nat.sub_zero, Nat.zero_lt_succ, Nat.lt_add_left_iff_pos, Nat.succ_lt_succ_iff]
    refine hC [.ref x, .int a0, .int a1, .int a2] [.int 0, .ref o] _ σ _ _ rfl (Nat.le_of_ble_eq_true rfl) (Nat.le_refl _) (Nat.le_refl _) ⟨σ1, hs, hb, hT _ _ (fun n τ h hf => ?_) (fun k z τ hz h hf => ?_)⟩
    · have ho9 := mrg_o ho hn hf
      unfold oJ at ho9
      refine wp_of_S hJ (ct []) 400 _ _ _ _ _ _ ?_
      simp only [w_i2l (cut := ct []) (pc' := 11) rfl dL_boat_10 rfl, w_lastore (cut := ct []) rfl dL_boat_11, w_goto (cut := ct []) (t := 27) rfl dL_boat_12 (by decide) rfl, w_astore (cut := ct []) (pc' := 17) (i := 5) rfl dL_boat_15 rfl rfl, w_astoreN (cut := ct []) (pc' := 17) (i := 5) rfl dL_boat_15 rfl rfl, w_iconst (cut := ct []) (pc' := 18) (v := 1) rfl dL_boat_17 rfl rfl, w_ireturnI (cut := ct []) rfl dL_boat_18 rfl, w_astore (cut := ct []) (pc' := 21) (i := 5) rfl dL_boat_19 rfl rfl, w_astoreN (cut := ct []) (pc' := 21) (i := 5) rfl dL_boat_19 rfl rfl, w_iconst (cut := ct []) (pc' := 22) (v := 2) rfl dL_boat_21 rfl rfl, w_ireturnI (cut := ct []) rfl dL_boat_22 rfl, w_astore (cut := ct []) (pc' := 25) (i := 5) rfl dL_boat_23 rfl rfl, w_astoreN (cut := ct []) (pc' := 25) (i := 5) rfl dL_boat_23 rfl rfl, w_iconst (cut := ct []) (pc' := 26) (v := 3) rfl dL_boat_25 rfl rfl, w_ireturnI (cut := ct []) rfl dL_boat_26 rfl, w_iconst (cut := ct []) (pc' := 28) (v := 0) rfl dL_boat_27 rfl rfl, w_ireturnI (cut := ct []) rfl dL_boat_28 rfl, rsum, cg_int, cg_ref, cg_null, nby0, strd, mStr, onAL, true_imp_iff, false_imp_iff, not_true_eq_false, not_false_eq_true, Classical.not_not, eq_self, e10, e01, em1, Int32.reduceLT, Int32.reduceLE, onBoat, onGale, onOut, onPort, onRep, onWarn, yn, mI, mS, b0, okA, rcvd, nb0, nb1, ini, List.map_cons, List.map_nil, List.replicate_zero, List.replicate_succ, List.append_nil, ldI, ldA, incK, getK, putK, oldK, castK, inv1, nwO, nwA, nwR, alen, ald, bald, ast, lald, last, rald, rast, goTo, nth, sto, setN, popN, okv, cat1_int, cat1_ref, cat1_null, cat1_rf, va_rf, hup_same, hup_hup, List.length_cons, List.length_nil, List.nil_append, List.cons_append, Option.toList, true_and, and_true, Nat.reduceAdd, Nat.reduceSub, Nat.reduceLT, Nat.reduceLeDiff, Nat.zero_le, Nat.sub_zero, Nat.zero_lt_succ, Nat.lt_add_left_iff_pos, Nat.succ_lt_succ_iff, ho9, z0]
      exact ⟨vin0, h hf _ (updL0 _ _)⟩
    · rcases k with _ | _ | _ | k
      · cases hz
        rw [show handOf hh_L_boat (exN 20) = some 15 from by decide +kernel]
        intro q
        refine wp_of_S hJ (ct []) 400 _ _ _ _ _ _ ?_
        simp only [w_astore (cut := ct []) (pc' := 17) (i := 5) rfl dL_boat_15 rfl rfl, w_astoreN (cut := ct []) (pc' := 17) (i := 5) rfl dL_boat_15 rfl rfl, w_iconst (cut := ct []) (pc' := 18) (v := 1) rfl dL_boat_17 rfl rfl, w_ireturnI (cut := ct []) rfl dL_boat_18 rfl, w_astore (cut := ct []) (pc' := 21) (i := 5) rfl dL_boat_19 rfl rfl, w_astoreN (cut := ct []) (pc' := 21) (i := 5) rfl dL_boat_19 rfl rfl, w_iconst (cut := ct []) (pc' := 22) (v := 2) rfl dL_boat_21 rfl rfl, rsum, cg_int, cg_ref, cg_null, nby0, strd, mStr, onAL, true_imp_iff, false_imp_iff, not_true_eq_false, not_false_eq_true, Classical.not_not, eq_self, e10, e01, em1, Int32.reduceLT, Int32.reduceLE, onBoat, onGale, onOut, onPort, onRep, onWarn, yn, mI, mS, b0, okA, rcvd, nb0, nb1, ini, List.map_cons, List.map_nil, List.replicate_zero, List.replicate_succ, List.append_nil, ldI, ldA, incK, getK, putK, oldK, castK, inv1, nwO, nwA, nwR, alen, ald, bald, ast, lald, last, rald, rast, goTo, nth, sto, setN, popN, okv, cat1_int, cat1_ref, cat1_null, cat1_rf, va_rf, hup_same, hup_hup, List.length_cons, List.length_nil, List.nil_append, List.cons_append, Option.toList, true_and, and_true, Nat.reduceAdd, Nat.reduceSub, Nat.reduceLT, Nat.reduceLeDiff, Nat.zero_le, Nat.sub_zero, Nat.zero_lt_succ, Nat.lt_add_left_iff_pos, Nat.succ_lt_succ_iff]
        exact h hf
      · cases hz
        rw [show handOf hh_L_boat (exN 13) = some 19 from by decide +kernel]
        intro q
        refine wp_of_S hJ (ct []) 400 _ _ _ _ _ _ ?_
        simp only [w_astore (cut := ct []) (pc' := 21) (i := 5) rfl dL_boat_19 rfl rfl, w_astoreN (cut := ct []) (pc' := 21) (i := 5) rfl dL_boat_19 rfl rfl, w_iconst (cut := ct []) (pc' := 22) (v := 2) rfl dL_boat_21 rfl rfl, w_ireturnI (cut := ct []) rfl dL_boat_22 rfl, w_astore (cut := ct []) (pc' := 25) (i := 5) rfl dL_boat_23 rfl rfl, w_astoreN (cut := ct []) (pc' := 25) (i := 5) rfl dL_boat_23 rfl rfl, w_iconst (cut := ct []) (pc' := 26) (v := 3) rfl dL_boat_25 rfl rfl, rsum, cg_int, cg_ref, cg_null, nby0, strd, mStr, onAL, true_imp_iff, false_imp_iff, not_true_eq_false, not_false_eq_true, Classical.not_not, eq_self, e10, e01, em1, Int32.reduceLT, Int32.reduceLE, onBoat, onGale, onOut, onPort, onRep, onWarn, yn, mI, mS, b0, okA, rcvd, nb0, nb1, ini, List.map_cons, List.map_nil, List.replicate_zero, List.replicate_succ, List.append_nil, ldI, ldA, incK, getK, putK, oldK, castK, inv1, nwO, nwA, nwR, alen, ald, bald, ast, lald, last, rald, rast, goTo, nth, sto, setN, popN, okv, cat1_int, cat1_ref, cat1_null, cat1_rf, va_rf, hup_same, hup_hup, List.length_cons, List.length_nil, List.nil_append, List.cons_append, Option.toList, true_and, and_true, Nat.reduceAdd, Nat.reduceSub, Nat.reduceLT, Nat.reduceLeDiff, Nat.zero_le, Nat.sub_zero, Nat.zero_lt_succ, Nat.lt_add_left_iff_pos, Nat.succ_lt_succ_iff]
        exact h hf
      · cases hz
        rw [show handOf hh_L_boat (exN 15) = some 23 from by decide +kernel]
        intro q
        refine wp_of_S hJ (ct []) 400 _ _ _ _ _ _ ?_
        simp only [w_astore (cut := ct []) (pc' := 25) (i := 5) rfl dL_boat_23 rfl rfl, w_astoreN (cut := ct []) (pc' := 25) (i := 5) rfl dL_boat_23 rfl rfl, w_iconst (cut := ct []) (pc' := 26) (v := 3) rfl dL_boat_25 rfl rfl, w_ireturnI (cut := ct []) rfl dL_boat_26 rfl, w_iconst (cut := ct []) (pc' := 28) (v := 0) rfl dL_boat_27 rfl rfl, w_ireturnI (cut := ct []) rfl dL_boat_28 rfl, rsum, cg_int, cg_ref, cg_null, nby0, strd, mStr, onAL, true_imp_iff, false_imp_iff, not_true_eq_false, not_false_eq_true, Classical.not_not, eq_self, e10, e01, em1, Int32.reduceLT, Int32.reduceLE, onBoat, onGale, onOut, onPort, onRep, onWarn, yn, mI, mS, b0, okA, rcvd, nb0, nb1, ini, List.map_cons, List.map_nil, List.replicate_zero, List.replicate_succ, List.append_nil, ldI, ldA, incK, getK, putK, oldK, castK, inv1, nwO, nwA, nwR, alen, ald, bald, ast, lald, last, rald, rast, goTo, nth, sto, setN, popN, okv, cat1_int, cat1_ref, cat1_null, cat1_rf, va_rf, hup_same, hup_hup, List.length_cons, List.length_nil, List.nil_append, List.cons_append, Option.toList, true_and, and_true, Nat.reduceAdd, Nat.reduceSub, Nat.reduceLT, Nat.reduceLeDiff, Nat.zero_le, Nat.sub_zero, Nat.zero_lt_succ, Nat.lt_add_left_iff_pos, Nat.succ_lt_succ_iff]
        exact h hf
      · cases hz
  · exact hT.elim
set_option maxRecDepth 100000 in
theorem con_L_boat {l : Launch} {s0 : State} {D : va_G} {cy : Nat → ClassId} {P : Pm} {a0 : Array Value} (hE : E0 l s0 D cy P a0) (hN : NCok s0) : Con l s0 D yL_boat (Cond.codeWith yL_boat cL_boat 6 (some .int) hh_L_boat) 8 216 (sp_L_boat cy P) := by
  refine con_ofH (kd := 0) (j := 36) (clok_L hE _) (by decide) (fun as σ K KX h => okA_cat h.1) (Nat.le_of_ble_eq_true rfl) dL_boat_7 ?_ ?_ (m_L_boat cy P)
  · intro p e R s m args below meth c A Q hfr hlo hW B
    exact inv_V (ci := 9) B (con_fr (con_X8_boat hE)) rfl (fun as σ K KX h => fr_rcv h) (cw_mk hE hW tw_671 rfl tw_1 ⟨by decide, by decide⟩ rfl) rfl (wd hE hW tw_668 rfl) (wd hE hW tw_669 rfl) (wd hE hW tw_670 rfl) (by rw [hfr]; decide) (by rw [hlo]; decide)
  · intro p e R s m args below meth c A Q hW B htab E h hh9 H locs cells slots lsA r q ce h1 h2 h3 kk
    exact catch_of hE hN hW B htab (by decide) hh9 h1 h2 h3 kk
def hh_L_trip : List (Nat × Nat × Nat × Nat) := [(0, 19, 22, 20), (0, 19, 26, 13)]
def sp_L_trip (cy : Nat → ClassId) (P : Pm) : Sg := mS [1, 0, 0, 0, 1] (fun as σ => (sp_X8_trip cy P).2.1 as.dropLast σ) (fun as σ K KX => match as with
  | [.ref x, .int a0, .int a1, .int a2, .ref o] => wrb cy (sp_X8_trip cy P) hh_L_trip ocB [.ref x, .int a0, .int a1, .int a2] σ o K
  | _ => False)
set_option maxHeartbeats 2000000 in
theorem m_L_trip (cy : Nat → ClassId) (P : Pm) : MOKH (cl_L P) cy P.2.1 obj cL_trip (some .int) 6 (sp_L_trip cy P) 7 (fr (sp_X8_trip cy P)) (handOf hh_L_trip) := by
  intro as σ K KX J hlen hT hJ hC hOld
  obtain ⟨-, hT⟩ := hT
  split at hT
  · rename_i x a0 a1 a2 o
    obtain ⟨f, σ1, ho, hn, hs, hb, hT⟩ := hT
    refine wp_of_S hJ (ct [7]) 400 _ _ _ _ _ _ ?_
    simp only [w_aload (cut := ct [7]) (pc' := 2) (i := 4) rfl dL_trip_0 rfl rfl, w_iconst (cut := ct [7]) (pc' := 3) (v := 0) rfl dL_trip_2 rfl rfl, w_aload_n (cut := ct [7]) (pc' := 4) (i := 0) rfl dL_trip_3 rfl rfl, w_iload_n (cut := ct [7]) (pc' := 5) (i := 1) rfl dL_trip_4 rfl rfl, w_iload_n (cut := ct [7]) (pc' := 6) (i := 2) rfl dL_trip_5 rfl rfl, w_iload_n (cut := ct [7]) (pc' := 7) (i := 3) rfl dL_trip_6 rfl rfl, w_cut (cut := ct [7]) (pc := 7) rfl, rsum, cg_int, cg_ref, cg_null, nby0, strd, mStr, onAL, true_imp_iff, false_imp_iff, not_true_eq_false, not_false_eq_true, Classical.not_not, eq_self, e10, e01, em1, Int32.reduceLT, Int32.reduceLE, onBoat, onGale, onOut, onPort, onRep, onWarn, yn, mI, mS, b0, okA, rcvd, nb0, nb1, ini, List.map_cons, List.map_nil, List.replicate_zero, List.replicate_succ, List.append_nil, ldI, ldA, incK, getK, putK, oldK, castK, inv1, nwO, nwA, nwR, alen, ald, bald, ast, lald, last, rald, rast, goTo, nth, sto, setN, popN, okv, cat1_int, cat1_ref, cat1_null, cat1_rf, va_rf, hup_same, hup_hup, List.length_cons, List.length_nil, List.nil_append, List.cons_append, Option.toList, true_and, and_true, Nat.reduceAdd, Nat.reduceSub, Nat.reduceLT, Nat.reduceLeDiff, Nat.zero_le, Nat.sub_zero, Nat.zero_lt_succ, Nat.lt_add_left_iff_pos, Nat.succ_lt_succ_iff]
    refine hC [.ref x, .int a0, .int a1, .int a2] [.int 0, .ref o] _ σ _ _ rfl (Nat.le_of_ble_eq_true rfl) (Nat.le_refl _) (Nat.le_refl _) ⟨σ1, hs, hb, hT _ _ (fun n τ h hf => ?_) (fun k z τ hz h hf => ?_)⟩
    · have ho9 := mrg_o ho hn hf
      unfold oJ at ho9
      refine wp_of_S hJ (ct []) 400 _ _ _ _ _ _ ?_
      simp only [w_if_eq (cut := ct []) (pc' := 13) (t := 17) rfl dL_trip_10 rfl (by decide) rfl, w_lconst (cut := ct []) (pc' := 14) (v := 1) rfl dL_trip_13 rfl rfl, w_goto (cut := ct []) (t := 18) rfl dL_trip_14 (by decide) rfl, w_lconst (cut := ct []) (pc' := 18) (v := 0) rfl dL_trip_17 rfl rfl, w_lastore (cut := ct []) rfl dL_trip_18, w_goto (cut := ct []) (t := 30) rfl dL_trip_19 (by decide) rfl, w_astore (cut := ct []) (pc' := 24) (i := 5) rfl dL_trip_22 rfl rfl, w_astoreN (cut := ct []) (pc' := 24) (i := 5) rfl dL_trip_22 rfl rfl, w_iconst (cut := ct []) (pc' := 25) (v := 1) rfl dL_trip_24 rfl rfl, w_ireturnI (cut := ct []) rfl dL_trip_25 rfl, w_astore (cut := ct []) (pc' := 28) (i := 5) rfl dL_trip_26 rfl rfl, w_astoreN (cut := ct []) (pc' := 28) (i := 5) rfl dL_trip_26 rfl rfl, w_iconst (cut := ct []) (pc' := 29) (v := 2) rfl dL_trip_28 rfl rfl, w_ireturnI (cut := ct []) rfl dL_trip_29 rfl, w_iconst (cut := ct []) (pc' := 31) (v := 0) rfl dL_trip_30 rfl rfl, w_ireturnI (cut := ct []) rfl dL_trip_31 rfl, rsum, cg_int, cg_ref, cg_null, nby0, strd, mStr, onAL, true_imp_iff, false_imp_iff, not_true_eq_false, not_false_eq_true, Classical.not_not, eq_self, e10, e01, em1, Int32.reduceLT, Int32.reduceLE, onBoat, onGale, onOut, onPort, onRep, onWarn, yn, mI, mS, b0, okA, rcvd, nb0, nb1, ini, List.map_cons, List.map_nil, List.replicate_zero, List.replicate_succ, List.append_nil, ldI, ldA, incK, getK, putK, oldK, castK, inv1, nwO, nwA, nwR, alen, ald, bald, ast, lald, last, rald, rast, goTo, nth, sto, setN, popN, okv, cat1_int, cat1_ref, cat1_null, cat1_rf, va_rf, hup_same, hup_hup, List.length_cons, List.length_nil, List.nil_append, List.cons_append, Option.toList, true_and, and_true, Nat.reduceAdd, Nat.reduceSub, Nat.reduceLT, Nat.reduceLeDiff, Nat.zero_le, Nat.sub_zero, Nat.zero_lt_succ, Nat.lt_add_left_iff_pos, Nat.succ_lt_succ_iff, ho9, z0]
      refine ⟨fun h0 => ⟨vin0, ?_⟩, fun h0 => ⟨vin0, ?_⟩⟩
      · exact h hf _ (by rw [updL0]; simp [ocB, h0])
      · exact h hf _ (by rw [updL0]; simp [ocB, h0])
    · rcases k with _ | _ | k
      · cases hz
        rw [show handOf hh_L_trip (exN 20) = some 22 from by decide +kernel]
        intro q
        refine wp_of_S hJ (ct []) 400 _ _ _ _ _ _ ?_
        simp only [w_astore (cut := ct []) (pc' := 24) (i := 5) rfl dL_trip_22 rfl rfl, w_astoreN (cut := ct []) (pc' := 24) (i := 5) rfl dL_trip_22 rfl rfl, w_iconst (cut := ct []) (pc' := 25) (v := 1) rfl dL_trip_24 rfl rfl, w_ireturnI (cut := ct []) rfl dL_trip_25 rfl, w_astore (cut := ct []) (pc' := 28) (i := 5) rfl dL_trip_26 rfl rfl, w_astoreN (cut := ct []) (pc' := 28) (i := 5) rfl dL_trip_26 rfl rfl, w_iconst (cut := ct []) (pc' := 29) (v := 2) rfl dL_trip_28 rfl rfl, rsum, cg_int, cg_ref, cg_null, nby0, strd, mStr, onAL, true_imp_iff, false_imp_iff, not_true_eq_false, not_false_eq_true, Classical.not_not, eq_self, e10, e01, em1, Int32.reduceLT, Int32.reduceLE, onBoat, onGale, onOut, onPort, onRep, onWarn, yn, mI, mS, b0, okA, rcvd, nb0, nb1, ini, List.map_cons, List.map_nil, List.replicate_zero, List.replicate_succ, List.append_nil, ldI, ldA, incK, getK, putK, oldK, castK, inv1, nwO, nwA, nwR, alen, ald, bald, ast, lald, last, rald, rast, goTo, nth, sto, setN, popN, okv, cat1_int, cat1_ref, cat1_null, cat1_rf, va_rf, hup_same, hup_hup, List.length_cons, List.length_nil, List.nil_append, List.cons_append, Option.toList, true_and, and_true, Nat.reduceAdd, Nat.reduceSub, Nat.reduceLT, Nat.reduceLeDiff, Nat.zero_le, Nat.sub_zero, Nat.zero_lt_succ, Nat.lt_add_left_iff_pos, Nat.succ_lt_succ_iff]
        exact h hf
      · cases hz
        rw [show handOf hh_L_trip (exN 13) = some 26 from by decide +kernel]
        intro q
        refine wp_of_S hJ (ct []) 400 _ _ _ _ _ _ ?_
        simp only [w_astore (cut := ct []) (pc' := 28) (i := 5) rfl dL_trip_26 rfl rfl, w_astoreN (cut := ct []) (pc' := 28) (i := 5) rfl dL_trip_26 rfl rfl, w_iconst (cut := ct []) (pc' := 29) (v := 2) rfl dL_trip_28 rfl rfl, w_ireturnI (cut := ct []) rfl dL_trip_29 rfl, w_iconst (cut := ct []) (pc' := 31) (v := 0) rfl dL_trip_30 rfl rfl, w_ireturnI (cut := ct []) rfl dL_trip_31 rfl, rsum, cg_int, cg_ref, cg_null, nby0, strd, mStr, onAL, true_imp_iff, false_imp_iff, not_true_eq_false, not_false_eq_true, Classical.not_not, eq_self, e10, e01, em1, Int32.reduceLT, Int32.reduceLE, onBoat, onGale, onOut, onPort, onRep, onWarn, yn, mI, mS, b0, okA, rcvd, nb0, nb1, ini, List.map_cons, List.map_nil, List.replicate_zero, List.replicate_succ, List.append_nil, ldI, ldA, incK, getK, putK, oldK, castK, inv1, nwO, nwA, nwR, alen, ald, bald, ast, lald, last, rald, rast, goTo, nth, sto, setN, popN, okv, cat1_int, cat1_ref, cat1_null, cat1_rf, va_rf, hup_same, hup_hup, List.length_cons, List.length_nil, List.nil_append, List.cons_append, Option.toList, true_and, and_true, Nat.reduceAdd, Nat.reduceSub, Nat.reduceLT, Nat.reduceLeDiff, Nat.zero_le, Nat.sub_zero, Nat.zero_lt_succ, Nat.lt_add_left_iff_pos, Nat.succ_lt_succ_iff]
        exact h hf
      · cases hz
  · exact hT.elim
set_option maxRecDepth 100000 in
theorem con_L_trip {l : Launch} {s0 : State} {D : va_G} {cy : Nat → ClassId} {P : Pm} {a0 : Array Value} (hE : E0 l s0 D cy P a0) (hN : NCok s0) : Con l s0 D yL_trip (Cond.codeWith yL_trip cL_trip 6 (some .int) hh_L_trip) 8 135 (sp_L_trip cy P) := by
  refine con_ofH (kd := 0) (j := 39) (clok_L hE _) (by decide) (fun as σ K KX h => okA_cat h.1) (Nat.le_of_ble_eq_true rfl) dL_trip_7 ?_ ?_ (m_L_trip cy P)
  · intro p e R s m args below meth c A Q hfr hlo hW B
    exact inv_V (ci := 9) B (con_fr (con_X8_trip hE)) rfl (fun as σ K KX h => fr_rcv h) (cw_mk hE hW tw_716 rfl tw_1 ⟨by decide, by decide⟩ rfl) rfl (wd hE hW tw_713 rfl) (wd hE hW tw_714 rfl) (wd hE hW tw_715 rfl) (by rw [hfr]; decide) (by rw [hlo]; decide)
  · intro p e R s m args below meth c A Q hW B htab E h hh9 H locs cells slots lsA r q ce h1 h2 h3 kk
    exact catch_of hE hN hW B htab (by decide) hh9 h1 h2 h3 kk
def hh_L_hours : List (Nat × Nat × Nat × Nat) := [(0, 9, 12, 13)]
def sp_L_hours (cy : Nat → ClassId) (P : Pm) : Sg := mS [1, 0, 1] (fun as σ => (sp_X8_hours cy P).2.1 as.dropLast σ) (fun as σ K KX => match as with
  | [.ref x, .int a0, .ref o] => wrb cy (sp_X8_hours cy P) hh_L_hours ocI [.ref x, .int a0] σ o K
  | _ => False)
set_option maxHeartbeats 2000000 in
theorem m_L_hours (cy : Nat → ClassId) (P : Pm) : MOKH (cl_L P) cy P.2.1 obj cL_hours (some .int) 4 (sp_L_hours cy P) 4 (fr (sp_X8_hours cy P)) (handOf hh_L_hours) := by
  intro as σ K KX J hlen hT hJ hC hOld
  obtain ⟨-, hT⟩ := hT
  split at hT
  · rename_i x a0 o
    obtain ⟨f, σ1, ho, hn, hs, hb, hT⟩ := hT
    refine wp_of_S hJ (ct [4]) 400 _ _ _ _ _ _ ?_
    simp only [w_aload_n (cut := ct [4]) (pc' := 1) (i := 2) rfl dL_hours_0 rfl rfl, w_iconst (cut := ct [4]) (pc' := 2) (v := 0) rfl dL_hours_1 rfl rfl, w_aload_n (cut := ct [4]) (pc' := 3) (i := 0) rfl dL_hours_2 rfl rfl, w_iload_n (cut := ct [4]) (pc' := 4) (i := 1) rfl dL_hours_3 rfl rfl, w_cut (cut := ct [4]) (pc := 4) rfl, rsum, cg_int, cg_ref, cg_null, nby0, strd, mStr, onAL, true_imp_iff, false_imp_iff, not_true_eq_false, not_false_eq_true, Classical.not_not, eq_self, e10, e01, em1, Int32.reduceLT, Int32.reduceLE, onBoat, onGale, onOut, onPort, onRep, onWarn, yn, mI, mS, b0, okA, rcvd, nb0, nb1, ini, List.map_cons, List.map_nil, List.replicate_zero, List.replicate_succ, List.append_nil, ldI, ldA, incK, getK, putK, oldK, castK, inv1, nwO, nwA, nwR, alen, ald, bald, ast, lald, last, rald, rast, goTo, nth, sto, setN, popN, okv, cat1_int, cat1_ref, cat1_null, cat1_rf, va_rf, hup_same, hup_hup, List.length_cons, List.length_nil, List.nil_append, List.cons_append, Option.toList, true_and, and_true, Nat.reduceAdd, Nat.reduceSub, Nat.reduceLT, Nat.reduceLeDiff, Nat.zero_le, Nat.sub_zero, Nat.zero_lt_succ, Nat.lt_add_left_iff_pos, Nat.succ_lt_succ_iff]
    refine hC [.ref x, .int a0] [.int 0, .ref o] _ σ _ _ rfl (Nat.le_of_ble_eq_true rfl) (Nat.le_refl _) (Nat.le_refl _) ⟨σ1, hs, hb, hT _ _ (fun n τ h hf => ?_) (fun k z τ hz h hf => ?_)⟩
    · have ho9 := mrg_o ho hn hf
      unfold oJ at ho9
      refine wp_of_S hJ (ct []) 400 _ _ _ _ _ _ ?_
      simp only [w_i2l (cut := ct []) (pc' := 8) rfl dL_hours_7 rfl, w_lastore (cut := ct []) rfl dL_hours_8, w_goto (cut := ct []) (t := 15) rfl dL_hours_9 (by decide) rfl, w_astore_n (cut := ct []) (pc' := 13) (i := 3) rfl dL_hours_12 rfl rfl, w_astore_nN (cut := ct []) (pc' := 13) (i := 3) rfl dL_hours_12 rfl rfl, w_iconst (cut := ct []) (pc' := 14) (v := 1) rfl dL_hours_13 rfl rfl, w_ireturnI (cut := ct []) rfl dL_hours_14 rfl, w_iconst (cut := ct []) (pc' := 16) (v := 0) rfl dL_hours_15 rfl rfl, w_ireturnI (cut := ct []) rfl dL_hours_16 rfl, rsum, cg_int, cg_ref, cg_null, nby0, strd, mStr, onAL, true_imp_iff, false_imp_iff, not_true_eq_false, not_false_eq_true, Classical.not_not, eq_self, e10, e01, em1, Int32.reduceLT, Int32.reduceLE, onBoat, onGale, onOut, onPort, onRep, onWarn, yn, mI, mS, b0, okA, rcvd, nb0, nb1, ini, List.map_cons, List.map_nil, List.replicate_zero, List.replicate_succ, List.append_nil, ldI, ldA, incK, getK, putK, oldK, castK, inv1, nwO, nwA, nwR, alen, ald, bald, ast, lald, last, rald, rast, goTo, nth, sto, setN, popN, okv, cat1_int, cat1_ref, cat1_null, cat1_rf, va_rf, hup_same, hup_hup, List.length_cons, List.length_nil, List.nil_append, List.cons_append, Option.toList, true_and, and_true, Nat.reduceAdd, Nat.reduceSub, Nat.reduceLT, Nat.reduceLeDiff, Nat.zero_le, Nat.sub_zero, Nat.zero_lt_succ, Nat.lt_add_left_iff_pos, Nat.succ_lt_succ_iff, ho9, z0]
      exact ⟨vin0, h hf _ (updL0 _ _)⟩
    · rcases k with _ | k
      · cases hz
        rw [show handOf hh_L_hours (exN 13) = some 12 from by decide +kernel]
        intro q
        refine wp_of_S hJ (ct []) 400 _ _ _ _ _ _ ?_
        simp only [w_astore_n (cut := ct []) (pc' := 13) (i := 3) rfl dL_hours_12 rfl rfl, w_astore_nN (cut := ct []) (pc' := 13) (i := 3) rfl dL_hours_12 rfl rfl, w_iconst (cut := ct []) (pc' := 14) (v := 1) rfl dL_hours_13 rfl rfl, w_ireturnI (cut := ct []) rfl dL_hours_14 rfl, w_iconst (cut := ct []) (pc' := 16) (v := 0) rfl dL_hours_15 rfl rfl, w_ireturnI (cut := ct []) rfl dL_hours_16 rfl, rsum, cg_int, cg_ref, cg_null, nby0, strd, mStr, onAL, true_imp_iff, false_imp_iff, not_true_eq_false, not_false_eq_true, Classical.not_not, eq_self, e10, e01, em1, Int32.reduceLT, Int32.reduceLE, onBoat, onGale, onOut, onPort, onRep, onWarn, yn, mI, mS, b0, okA, rcvd, nb0, nb1, ini, List.map_cons, List.map_nil, List.replicate_zero, List.replicate_succ, List.append_nil, ldI, ldA, incK, getK, putK, oldK, castK, inv1, nwO, nwA, nwR, alen, ald, bald, ast, lald, last, rald, rast, goTo, nth, sto, setN, popN, okv, cat1_int, cat1_ref, cat1_null, cat1_rf, va_rf, hup_same, hup_hup, List.length_cons, List.length_nil, List.nil_append, List.cons_append, Option.toList, true_and, and_true, Nat.reduceAdd, Nat.reduceSub, Nat.reduceLT, Nat.reduceLeDiff, Nat.zero_le, Nat.sub_zero, Nat.zero_lt_succ, Nat.lt_add_left_iff_pos, Nat.succ_lt_succ_iff]
        exact h hf
      · cases hz
  · exact hT.elim
set_option maxRecDepth 100000 in
theorem con_L_hours {l : Launch} {s0 : State} {D : va_G} {cy : Nat → ClassId} {P : Pm} {a0 : Array Value} (hE : E0 l s0 D cy P a0) (hN : NCok s0) : Con l s0 D yL_hours (Cond.codeWith yL_hours cL_hours 4 (some .int) hh_L_hours) 11 278 (sp_L_hours cy P) := by
  refine con_ofH (kd := 0) (j := 43) (clok_L hE _) (by decide) (fun as σ K KX h => okA_cat h.1) (Nat.le_of_ble_eq_true rfl) dL_hours_4 ?_ ?_ (m_L_hours cy P)
  · intro p e R s m args below meth c A Q hfr hlo hW B
    exact inv_V (ci := 9) B (con_fr (con_X8_hours hE)) rfl (fun as σ K KX h => fr_rcv h) (cw_mk hE hW tw_733 rfl tw_1 ⟨by decide, by decide⟩ rfl) rfl (wd hE hW tw_730 rfl) (wd hE hW tw_731 rfl) (wd hE hW tw_732 rfl) (by rw [hfr]; decide) (by rw [hlo]; decide)
  · intro p e R s m args below meth c A Q hW B htab E h hh9 H locs cells slots lsA r q ce h1 h2 h3 kk
    exact catch_of hE hN hW B htab (by decide) hh9 h1 h2 h3 kk
def hh_L_flies : List (Nat × Nat × Nat × Nat) := [(0, 10, 13, 20)]
def sp_L_flies (cy : Nat → ClassId) (P : Pm) : Sg := mS [1, 0, 0, 1] (fun as σ => (sp_X8_flies cy P).2.1 as.dropLast σ) (fun as σ K KX => match as with
  | [.ref x, .int a0, .int a1, .ref o] => wrb cy (sp_X8_flies cy P) hh_L_flies ocI [.ref x, .int a0, .int a1] σ o K
  | _ => False)
set_option maxHeartbeats 2000000 in
theorem m_L_flies (cy : Nat → ClassId) (P : Pm) : MOKH (cl_L P) cy P.2.1 obj cL_flies (some .int) 5 (sp_L_flies cy P) 5 (fr (sp_X8_flies cy P)) (handOf hh_L_flies) := by
  intro as σ K KX J hlen hT hJ hC hOld
  obtain ⟨-, hT⟩ := hT
  split at hT
  · rename_i x a0 a1 o
    obtain ⟨f, σ1, ho, hn, hs, hb, hT⟩ := hT
    refine wp_of_S hJ (ct [5]) 400 _ _ _ _ _ _ ?_
    simp only [w_aload_n (cut := ct [5]) (pc' := 1) (i := 3) rfl dL_flies_0 rfl rfl, w_iconst (cut := ct [5]) (pc' := 2) (v := 0) rfl dL_flies_1 rfl rfl, w_aload_n (cut := ct [5]) (pc' := 3) (i := 0) rfl dL_flies_2 rfl rfl, w_iload_n (cut := ct [5]) (pc' := 4) (i := 1) rfl dL_flies_3 rfl rfl, w_iload_n (cut := ct [5]) (pc' := 5) (i := 2) rfl dL_flies_4 rfl rfl, w_cut (cut := ct [5]) (pc := 5) rfl, rsum, cg_int, cg_ref, cg_null, nby0, strd, mStr, onAL, true_imp_iff, false_imp_iff, not_true_eq_false, not_false_eq_true, Classical.not_not, eq_self, e10, e01, em1, Int32.reduceLT, Int32.reduceLE, onBoat, onGale, onOut, onPort, onRep, onWarn, yn, mI, mS, b0, okA, rcvd, nb0, nb1, ini, List.map_cons, List.map_nil, List.replicate_zero, List.replicate_succ, List.append_nil, ldI, ldA, incK, getK, putK, oldK, castK, inv1, nwO, nwA, nwR, alen, ald, bald, ast, lald, last, rald, rast, goTo, nth, sto, setN, popN, okv, cat1_int, cat1_ref, cat1_null, cat1_rf, va_rf, hup_same, hup_hup, List.length_cons, List.length_nil, List.nil_append, List.cons_append, Option.toList, true_and, and_true, Nat.reduceAdd, Nat.reduceSub, Nat.reduceLT, Nat.reduceLeDiff, Nat.zero_le, Nat.sub_zero, Nat.zero_lt_succ, Nat.lt_add_left_iff_pos, Nat.succ_lt_succ_iff]
    refine hC [.ref x, .int a0, .int a1] [.int 0, .ref o] _ σ _ _ rfl (Nat.le_of_ble_eq_true rfl) (Nat.le_refl _) (Nat.le_refl _) ⟨σ1, hs, hb, hT _ _ (fun n τ h hf => ?_) (fun k z τ hz h hf => ?_)⟩
    · have ho9 := mrg_o ho hn hf
      unfold oJ at ho9
      refine wp_of_S hJ (ct []) 400 _ _ _ _ _ _ ?_
      simp only [w_i2l (cut := ct []) (pc' := 9) rfl dL_flies_8 rfl, w_lastore (cut := ct []) rfl dL_flies_9, w_goto (cut := ct []) (t := 17) rfl dL_flies_10 (by decide) rfl, w_astore (cut := ct []) (pc' := 15) (i := 4) rfl dL_flies_13 rfl rfl, w_astoreN (cut := ct []) (pc' := 15) (i := 4) rfl dL_flies_13 rfl rfl, w_iconst (cut := ct []) (pc' := 16) (v := 1) rfl dL_flies_15 rfl rfl, w_ireturnI (cut := ct []) rfl dL_flies_16 rfl, w_iconst (cut := ct []) (pc' := 18) (v := 0) rfl dL_flies_17 rfl rfl, w_ireturnI (cut := ct []) rfl dL_flies_18 rfl, rsum, cg_int, cg_ref, cg_null, nby0, strd, mStr, onAL, true_imp_iff, false_imp_iff, not_true_eq_false, not_false_eq_true, Classical.not_not, eq_self, e10, e01, em1, Int32.reduceLT, Int32.reduceLE, onBoat, onGale, onOut, onPort, onRep, onWarn, yn, mI, mS, b0, okA, rcvd, nb0, nb1, ini, List.map_cons, List.map_nil, List.replicate_zero, List.replicate_succ, List.append_nil, ldI, ldA, incK, getK, putK, oldK, castK, inv1, nwO, nwA, nwR, alen, ald, bald, ast, lald, last, rald, rast, goTo, nth, sto, setN, popN, okv, cat1_int, cat1_ref, cat1_null, cat1_rf, va_rf, hup_same, hup_hup, List.length_cons, List.length_nil, List.nil_append, List.cons_append, Option.toList, true_and, and_true, Nat.reduceAdd, Nat.reduceSub, Nat.reduceLT, Nat.reduceLeDiff, Nat.zero_le, Nat.sub_zero, Nat.zero_lt_succ, Nat.lt_add_left_iff_pos, Nat.succ_lt_succ_iff, ho9, z0]
      exact ⟨vin0, h hf _ (updL0 _ _)⟩
    · rcases k with _ | k
      · cases hz
        rw [show handOf hh_L_flies (exN 20) = some 13 from by decide +kernel]
        intro q
        refine wp_of_S hJ (ct []) 400 _ _ _ _ _ _ ?_
        simp only [w_astore (cut := ct []) (pc' := 15) (i := 4) rfl dL_flies_13 rfl rfl, w_astoreN (cut := ct []) (pc' := 15) (i := 4) rfl dL_flies_13 rfl rfl, w_iconst (cut := ct []) (pc' := 16) (v := 1) rfl dL_flies_15 rfl rfl, w_ireturnI (cut := ct []) rfl dL_flies_16 rfl, w_iconst (cut := ct []) (pc' := 18) (v := 0) rfl dL_flies_17 rfl rfl, w_ireturnI (cut := ct []) rfl dL_flies_18 rfl, rsum, cg_int, cg_ref, cg_null, nby0, strd, mStr, onAL, true_imp_iff, false_imp_iff, not_true_eq_false, not_false_eq_true, Classical.not_not, eq_self, e10, e01, em1, Int32.reduceLT, Int32.reduceLE, onBoat, onGale, onOut, onPort, onRep, onWarn, yn, mI, mS, b0, okA, rcvd, nb0, nb1, ini, List.map_cons, List.map_nil, List.replicate_zero, List.replicate_succ, List.append_nil, ldI, ldA, incK, getK, putK, oldK, castK, inv1, nwO, nwA, nwR, alen, ald, bald, ast, lald, last, rald, rast, goTo, nth, sto, setN, popN, okv, cat1_int, cat1_ref, cat1_null, cat1_rf, va_rf, hup_same, hup_hup, List.length_cons, List.length_nil, List.nil_append, List.cons_append, Option.toList, true_and, and_true, Nat.reduceAdd, Nat.reduceSub, Nat.reduceLT, Nat.reduceLeDiff, Nat.zero_le, Nat.sub_zero, Nat.zero_lt_succ, Nat.lt_add_left_iff_pos, Nat.succ_lt_succ_iff]
        exact h hf
      · cases hz
  · exact hT.elim
set_option maxRecDepth 100000 in
theorem con_L_flies {l : Launch} {s0 : State} {D : va_G} {cy : Nat → ClassId} {P : Pm} {a0 : Array Value} (hE : E0 l s0 D cy P a0) (hN : NCok s0) : Con l s0 D yL_flies (Cond.codeWith yL_flies cL_flies 5 (some .int) hh_L_flies) 8 133 (sp_L_flies cy P) := by
  refine con_ofH (kd := 0) (j := 47) (clok_L hE _) (by decide) (fun as σ K KX h => okA_cat h.1) (Nat.le_of_ble_eq_true rfl) dL_flies_5 ?_ ?_ (m_L_flies cy P)
  · intro p e R s m args below meth c A Q hfr hlo hW B
    exact inv_V (ci := 9) B (con_fr (con_X8_flies hE)) rfl (fun as σ K KX h => fr_rcv h) (cw_mk hE hW tw_858 rfl tw_1 ⟨by decide, by decide⟩ rfl) rfl (wd hE hW tw_855 rfl) (wd hE hW tw_856 rfl) (wd hE hW tw_857 rfl) (by rw [hfr]; decide) (by rw [hlo]; decide)
  · intro p e R s m args below meth c A Q hW B htab E h hh9 H locs cells slots lsA r q ce h1 h2 h3 kk
    exact catch_of hE hN hW B htab (by decide) hh9 h1 h2 h3 kk
def hh_L_warning : List (Nat × Nat × Nat × Nat) := [(0, 10, 13, 20), (0, 10, 17, 54)]
def sp_L_warning (cy : Nat → ClassId) (P : Pm) : Sg := mS [1, 0, 0, 1] (fun as σ => (sp_X8_warning cy P).2.1 as.dropLast σ) (fun as σ K KX => match as with
  | [.ref x, .int a0, .int a1, .ref o] => wrb cy (sp_X8_warning cy P) hh_L_warning ocI [.ref x, .int a0, .int a1] σ o K
  | _ => False)
set_option maxHeartbeats 2000000 in
theorem m_L_warning (cy : Nat → ClassId) (P : Pm) : MOKH (cl_L P) cy P.2.1 obj cL_warning (some .int) 5 (sp_L_warning cy P) 5 (fr (sp_X8_warning cy P)) (handOf hh_L_warning) := by
  intro as σ K KX J hlen hT hJ hC hOld
  obtain ⟨-, hT⟩ := hT
  split at hT
  · rename_i x a0 a1 o
    obtain ⟨f, σ1, ho, hn, hs, hb, hT⟩ := hT
    refine wp_of_S hJ (ct [5]) 400 _ _ _ _ _ _ ?_
    simp only [w_aload_n (cut := ct [5]) (pc' := 1) (i := 3) rfl dL_warning_0 rfl rfl, w_iconst (cut := ct [5]) (pc' := 2) (v := 0) rfl dL_warning_1 rfl rfl, w_aload_n (cut := ct [5]) (pc' := 3) (i := 0) rfl dL_warning_2 rfl rfl, w_iload_n (cut := ct [5]) (pc' := 4) (i := 1) rfl dL_warning_3 rfl rfl, w_iload_n (cut := ct [5]) (pc' := 5) (i := 2) rfl dL_warning_4 rfl rfl, w_cut (cut := ct [5]) (pc := 5) rfl, rsum, cg_int, cg_ref, cg_null, nby0, strd, mStr, onAL, true_imp_iff, false_imp_iff, not_true_eq_false, not_false_eq_true, Classical.not_not, eq_self, e10, e01, em1, Int32.reduceLT, Int32.reduceLE, onBoat, onGale, onOut, onPort, onRep, onWarn, yn, mI, mS, b0, okA, rcvd, nb0, nb1, ini, List.map_cons, List.map_nil, List.replicate_zero, List.replicate_succ, List.append_nil, ldI, ldA, incK, getK, putK, oldK, castK, inv1, nwO, nwA, nwR, alen, ald, bald, ast, lald, last, rald, rast, goTo, nth, sto, setN, popN, okv, cat1_int, cat1_ref, cat1_null, cat1_rf, va_rf, hup_same, hup_hup, List.length_cons, List.length_nil, List.nil_append, List.cons_append, Option.toList, true_and, and_true, Nat.reduceAdd, Nat.reduceSub, Nat.reduceLT, Nat.reduceLeDiff, Nat.zero_le, Nat.sub_zero, Nat.zero_lt_succ, Nat.lt_add_left_iff_pos, Nat.succ_lt_succ_iff]
    refine hC [.ref x, .int a0, .int a1] [.int 0, .ref o] _ σ _ _ rfl (Nat.le_of_ble_eq_true rfl) (Nat.le_refl _) (Nat.le_refl _) ⟨σ1, hs, hb, hT _ _ (fun n τ h hf => ?_) (fun k z τ hz h hf => ?_)⟩
    · have ho9 := mrg_o ho hn hf
      unfold oJ at ho9
      refine wp_of_S hJ (ct []) 400 _ _ _ _ _ _ ?_
      simp only [w_i2l (cut := ct []) (pc' := 9) rfl dL_warning_8 rfl, w_lastore (cut := ct []) rfl dL_warning_9, w_goto (cut := ct []) (t := 21) rfl dL_warning_10 (by decide) rfl, w_astore (cut := ct []) (pc' := 15) (i := 4) rfl dL_warning_13 rfl rfl, w_astoreN (cut := ct []) (pc' := 15) (i := 4) rfl dL_warning_13 rfl rfl, w_iconst (cut := ct []) (pc' := 16) (v := 1) rfl dL_warning_15 rfl rfl, w_ireturnI (cut := ct []) rfl dL_warning_16 rfl, w_astore (cut := ct []) (pc' := 19) (i := 4) rfl dL_warning_17 rfl rfl, w_astoreN (cut := ct []) (pc' := 19) (i := 4) rfl dL_warning_17 rfl rfl, w_iconst (cut := ct []) (pc' := 20) (v := 2) rfl dL_warning_19 rfl rfl, w_ireturnI (cut := ct []) rfl dL_warning_20 rfl, w_iconst (cut := ct []) (pc' := 22) (v := 0) rfl dL_warning_21 rfl rfl, w_ireturnI (cut := ct []) rfl dL_warning_22 rfl, rsum, cg_int, cg_ref, cg_null, nby0, strd, mStr, onAL, true_imp_iff, false_imp_iff, not_true_eq_false, not_false_eq_true, Classical.not_not, eq_self, e10, e01, em1, Int32.reduceLT, Int32.reduceLE, onBoat, onGale, onOut, onPort, onRep, onWarn, yn, mI, mS, b0, okA, rcvd, nb0, nb1, ini, List.map_cons, List.map_nil, List.replicate_zero, List.replicate_succ, List.append_nil, ldI, ldA, incK, getK, putK, oldK, castK, inv1, nwO, nwA, nwR, alen, ald, bald, ast, lald, last, rald, rast, goTo, nth, sto, setN, popN, okv, cat1_int, cat1_ref, cat1_null, cat1_rf, va_rf, hup_same, hup_hup, List.length_cons, List.length_nil, List.nil_append, List.cons_append, Option.toList, true_and, and_true, Nat.reduceAdd, Nat.reduceSub, Nat.reduceLT, Nat.reduceLeDiff, Nat.zero_le, Nat.sub_zero, Nat.zero_lt_succ, Nat.lt_add_left_iff_pos, Nat.succ_lt_succ_iff, ho9, z0]
      exact ⟨vin0, h hf _ (updL0 _ _)⟩
    · rcases k with _ | _ | k
      · cases hz
        rw [show handOf hh_L_warning (exN 20) = some 13 from by decide +kernel]
        intro q
        refine wp_of_S hJ (ct []) 400 _ _ _ _ _ _ ?_
        simp only [w_astore (cut := ct []) (pc' := 15) (i := 4) rfl dL_warning_13 rfl rfl, w_astoreN (cut := ct []) (pc' := 15) (i := 4) rfl dL_warning_13 rfl rfl, w_iconst (cut := ct []) (pc' := 16) (v := 1) rfl dL_warning_15 rfl rfl, w_ireturnI (cut := ct []) rfl dL_warning_16 rfl, w_astore (cut := ct []) (pc' := 19) (i := 4) rfl dL_warning_17 rfl rfl, w_astoreN (cut := ct []) (pc' := 19) (i := 4) rfl dL_warning_17 rfl rfl, w_iconst (cut := ct []) (pc' := 20) (v := 2) rfl dL_warning_19 rfl rfl, rsum, cg_int, cg_ref, cg_null, nby0, strd, mStr, onAL, true_imp_iff, false_imp_iff, not_true_eq_false, not_false_eq_true, Classical.not_not, eq_self, e10, e01, em1, Int32.reduceLT, Int32.reduceLE, onBoat, onGale, onOut, onPort, onRep, onWarn, yn, mI, mS, b0, okA, rcvd, nb0, nb1, ini, List.map_cons, List.map_nil, List.replicate_zero, List.replicate_succ, List.append_nil, ldI, ldA, incK, getK, putK, oldK, castK, inv1, nwO, nwA, nwR, alen, ald, bald, ast, lald, last, rald, rast, goTo, nth, sto, setN, popN, okv, cat1_int, cat1_ref, cat1_null, cat1_rf, va_rf, hup_same, hup_hup, List.length_cons, List.length_nil, List.nil_append, List.cons_append, Option.toList, true_and, and_true, Nat.reduceAdd, Nat.reduceSub, Nat.reduceLT, Nat.reduceLeDiff, Nat.zero_le, Nat.sub_zero, Nat.zero_lt_succ, Nat.lt_add_left_iff_pos, Nat.succ_lt_succ_iff]
        exact h hf
      · cases hz
        rw [show handOf hh_L_warning (exN 54) = some 17 from by decide +kernel]
        intro q
        refine wp_of_S hJ (ct []) 400 _ _ _ _ _ _ ?_
        simp only [w_astore (cut := ct []) (pc' := 19) (i := 4) rfl dL_warning_17 rfl rfl, w_astoreN (cut := ct []) (pc' := 19) (i := 4) rfl dL_warning_17 rfl rfl, w_iconst (cut := ct []) (pc' := 20) (v := 2) rfl dL_warning_19 rfl rfl, w_ireturnI (cut := ct []) rfl dL_warning_20 rfl, w_iconst (cut := ct []) (pc' := 22) (v := 0) rfl dL_warning_21 rfl rfl, w_ireturnI (cut := ct []) rfl dL_warning_22 rfl, rsum, cg_int, cg_ref, cg_null, nby0, strd, mStr, onAL, true_imp_iff, false_imp_iff, not_true_eq_false, not_false_eq_true, Classical.not_not, eq_self, e10, e01, em1, Int32.reduceLT, Int32.reduceLE, onBoat, onGale, onOut, onPort, onRep, onWarn, yn, mI, mS, b0, okA, rcvd, nb0, nb1, ini, List.map_cons, List.map_nil, List.replicate_zero, List.replicate_succ, List.append_nil, ldI, ldA, incK, getK, putK, oldK, castK, inv1, nwO, nwA, nwR, alen, ald, bald, ast, lald, last, rald, rast, goTo, nth, sto, setN, popN, okv, cat1_int, cat1_ref, cat1_null, cat1_rf, va_rf, hup_same, hup_hup, List.length_cons, List.length_nil, List.nil_append, List.cons_append, Option.toList, true_and, and_true, Nat.reduceAdd, Nat.reduceSub, Nat.reduceLT, Nat.reduceLeDiff, Nat.zero_le, Nat.sub_zero, Nat.zero_lt_succ, Nat.lt_add_left_iff_pos, Nat.succ_lt_succ_iff]
        exact h hf
      · cases hz
  · exact hT.elim
set_option maxRecDepth 100000 in
theorem con_L_warning {l : Launch} {s0 : State} {D : va_G} {cy : Nat → ClassId} {P : Pm} {a0 : Array Value} (hE : E0 l s0 D cy P a0) (hN : NCok s0) : Con l s0 D yL_warning (Cond.codeWith yL_warning cL_warning 5 (some .int) hh_L_warning) 7 113 (sp_L_warning cy P) := by
  refine con_ofH (kd := 0) (j := 51) (clok_L hE _) (by decide) (fun as σ K KX h => okA_cat h.1) (Nat.le_of_ble_eq_true rfl) dL_warning_5 ?_ ?_ (m_L_warning cy P)
  · intro p e R s m args below meth c A Q hfr hlo hW B
    exact inv_V (ci := 9) B (con_fr (con_X8_warning hE)) rfl (fun as σ K KX h => fr_rcv h) (cw_mk hE hW tw_866 rfl tw_1 ⟨by decide, by decide⟩ rfl) rfl (wd hE hW tw_863 rfl) (wd hE hW tw_864 rfl) (wd hE hW tw_865 rfl) (by rw [hfr]; decide) (by rw [hlo]; decide)
  · intro p e R s m args below meth c A Q hW B htab E h hh9 H locs cells slots lsA r q ce h1 h2 h3 kk
    exact catch_of hE hN hW B htab (by decide) hh9 h1 h2 h3 kk
def hh_L_look : List (Nat × Nat × Nat × Nat) := [(0, 10, 13, 20), (0, 10, 17, 54)]
def sp_L_look (cy : Nat → ClassId) (P : Pm) : Sg := mS [1, 0, 0, 1] (fun as σ => (sp_X8_look cy P).2.1 as.dropLast σ) (fun as σ K KX => match as with
  | [.ref x, .int a0, .int a1, .ref o] => wrb cy (sp_X8_look cy P) hh_L_look ocI [.ref x, .int a0, .int a1] σ o K
  | _ => False)
set_option maxHeartbeats 2000000 in
theorem m_L_look (cy : Nat → ClassId) (P : Pm) : MOKH (cl_L P) cy P.2.1 obj cL_look (some .int) 5 (sp_L_look cy P) 5 (fr (sp_X8_look cy P)) (handOf hh_L_look) := by
  intro as σ K KX J hlen hT hJ hC hOld
  obtain ⟨-, hT⟩ := hT
  split at hT
  · rename_i x a0 a1 o
    obtain ⟨f, σ1, ho, hn, hs, hb, hT⟩ := hT
    refine wp_of_S hJ (ct [5]) 400 _ _ _ _ _ _ ?_
    simp only [w_aload_n (cut := ct [5]) (pc' := 1) (i := 3) rfl dL_look_0 rfl rfl, w_iconst (cut := ct [5]) (pc' := 2) (v := 0) rfl dL_look_1 rfl rfl, w_aload_n (cut := ct [5]) (pc' := 3) (i := 0) rfl dL_look_2 rfl rfl, w_iload_n (cut := ct [5]) (pc' := 4) (i := 1) rfl dL_look_3 rfl rfl, w_iload_n (cut := ct [5]) (pc' := 5) (i := 2) rfl dL_look_4 rfl rfl, w_cut (cut := ct [5]) (pc := 5) rfl, rsum, cg_int, cg_ref, cg_null, nby0, strd, mStr, onAL, true_imp_iff, false_imp_iff, not_true_eq_false, not_false_eq_true, Classical.not_not, eq_self, e10, e01, em1, Int32.reduceLT, Int32.reduceLE, onBoat, onGale, onOut, onPort, onRep, onWarn, yn, mI, mS, b0, okA, rcvd, nb0, nb1, ini, List.map_cons, List.map_nil, List.replicate_zero, List.replicate_succ, List.append_nil, ldI, ldA, incK, getK, putK, oldK, castK, inv1, nwO, nwA, nwR, alen, ald, bald, ast, lald, last, rald, rast, goTo, nth, sto, setN, popN, okv, cat1_int, cat1_ref, cat1_null, cat1_rf, va_rf, hup_same, hup_hup, List.length_cons, List.length_nil, List.nil_append, List.cons_append, Option.toList, true_and, and_true, Nat.reduceAdd, Nat.reduceSub, Nat.reduceLT, Nat.reduceLeDiff, Nat.zero_le, Nat.sub_zero, Nat.zero_lt_succ, Nat.lt_add_left_iff_pos, Nat.succ_lt_succ_iff]
    refine hC [.ref x, .int a0, .int a1] [.int 0, .ref o] _ σ _ _ rfl (Nat.le_of_ble_eq_true rfl) (Nat.le_refl _) (Nat.le_refl _) ⟨σ1, hs, hb, hT _ _ (fun n τ h hf => ?_) (fun k z τ hz h hf => ?_)⟩
    · have ho9 := mrg_o ho hn hf
      unfold oJ at ho9
      refine wp_of_S hJ (ct []) 400 _ _ _ _ _ _ ?_
      simp only [w_i2l (cut := ct []) (pc' := 9) rfl dL_look_8 rfl, w_lastore (cut := ct []) rfl dL_look_9, w_goto (cut := ct []) (t := 21) rfl dL_look_10 (by decide) rfl, w_astore (cut := ct []) (pc' := 15) (i := 4) rfl dL_look_13 rfl rfl, w_astoreN (cut := ct []) (pc' := 15) (i := 4) rfl dL_look_13 rfl rfl, w_iconst (cut := ct []) (pc' := 16) (v := 1) rfl dL_look_15 rfl rfl, w_ireturnI (cut := ct []) rfl dL_look_16 rfl, w_astore (cut := ct []) (pc' := 19) (i := 4) rfl dL_look_17 rfl rfl, w_astoreN (cut := ct []) (pc' := 19) (i := 4) rfl dL_look_17 rfl rfl, w_iconst (cut := ct []) (pc' := 20) (v := 2) rfl dL_look_19 rfl rfl, w_ireturnI (cut := ct []) rfl dL_look_20 rfl, w_iconst (cut := ct []) (pc' := 22) (v := 0) rfl dL_look_21 rfl rfl, w_ireturnI (cut := ct []) rfl dL_look_22 rfl, rsum, cg_int, cg_ref, cg_null, nby0, strd, mStr, onAL, true_imp_iff, false_imp_iff, not_true_eq_false, not_false_eq_true, Classical.not_not, eq_self, e10, e01, em1, Int32.reduceLT, Int32.reduceLE, onBoat, onGale, onOut, onPort, onRep, onWarn, yn, mI, mS, b0, okA, rcvd, nb0, nb1, ini, List.map_cons, List.map_nil, List.replicate_zero, List.replicate_succ, List.append_nil, ldI, ldA, incK, getK, putK, oldK, castK, inv1, nwO, nwA, nwR, alen, ald, bald, ast, lald, last, rald, rast, goTo, nth, sto, setN, popN, okv, cat1_int, cat1_ref, cat1_null, cat1_rf, va_rf, hup_same, hup_hup, List.length_cons, List.length_nil, List.nil_append, List.cons_append, Option.toList, true_and, and_true, Nat.reduceAdd, Nat.reduceSub, Nat.reduceLT, Nat.reduceLeDiff, Nat.zero_le, Nat.sub_zero, Nat.zero_lt_succ, Nat.lt_add_left_iff_pos, Nat.succ_lt_succ_iff, ho9, z0]
      exact ⟨vin0, h hf _ (updL0 _ _)⟩
    · rcases k with _ | _ | k
      · cases hz
        rw [show handOf hh_L_look (exN 20) = some 13 from by decide +kernel]
        intro q
        refine wp_of_S hJ (ct []) 400 _ _ _ _ _ _ ?_
        simp only [w_astore (cut := ct []) (pc' := 15) (i := 4) rfl dL_look_13 rfl rfl, w_astoreN (cut := ct []) (pc' := 15) (i := 4) rfl dL_look_13 rfl rfl, w_iconst (cut := ct []) (pc' := 16) (v := 1) rfl dL_look_15 rfl rfl, w_ireturnI (cut := ct []) rfl dL_look_16 rfl, w_astore (cut := ct []) (pc' := 19) (i := 4) rfl dL_look_17 rfl rfl, w_astoreN (cut := ct []) (pc' := 19) (i := 4) rfl dL_look_17 rfl rfl, w_iconst (cut := ct []) (pc' := 20) (v := 2) rfl dL_look_19 rfl rfl, rsum, cg_int, cg_ref, cg_null, nby0, strd, mStr, onAL, true_imp_iff, false_imp_iff, not_true_eq_false, not_false_eq_true, Classical.not_not, eq_self, e10, e01, em1, Int32.reduceLT, Int32.reduceLE, onBoat, onGale, onOut, onPort, onRep, onWarn, yn, mI, mS, b0, okA, rcvd, nb0, nb1, ini, List.map_cons, List.map_nil, List.replicate_zero, List.replicate_succ, List.append_nil, ldI, ldA, incK, getK, putK, oldK, castK, inv1, nwO, nwA, nwR, alen, ald, bald, ast, lald, last, rald, rast, goTo, nth, sto, setN, popN, okv, cat1_int, cat1_ref, cat1_null, cat1_rf, va_rf, hup_same, hup_hup, List.length_cons, List.length_nil, List.nil_append, List.cons_append, Option.toList, true_and, and_true, Nat.reduceAdd, Nat.reduceSub, Nat.reduceLT, Nat.reduceLeDiff, Nat.zero_le, Nat.sub_zero, Nat.zero_lt_succ, Nat.lt_add_left_iff_pos, Nat.succ_lt_succ_iff]
        exact h hf
      · cases hz
        rw [show handOf hh_L_look (exN 54) = some 17 from by decide +kernel]
        intro q
        refine wp_of_S hJ (ct []) 400 _ _ _ _ _ _ ?_
        simp only [w_astore (cut := ct []) (pc' := 19) (i := 4) rfl dL_look_17 rfl rfl, w_astoreN (cut := ct []) (pc' := 19) (i := 4) rfl dL_look_17 rfl rfl, w_iconst (cut := ct []) (pc' := 20) (v := 2) rfl dL_look_19 rfl rfl, w_ireturnI (cut := ct []) rfl dL_look_20 rfl, w_iconst (cut := ct []) (pc' := 22) (v := 0) rfl dL_look_21 rfl rfl, w_ireturnI (cut := ct []) rfl dL_look_22 rfl, rsum, cg_int, cg_ref, cg_null, nby0, strd, mStr, onAL, true_imp_iff, false_imp_iff, not_true_eq_false, not_false_eq_true, Classical.not_not, eq_self, e10, e01, em1, Int32.reduceLT, Int32.reduceLE, onBoat, onGale, onOut, onPort, onRep, onWarn, yn, mI, mS, b0, okA, rcvd, nb0, nb1, ini, List.map_cons, List.map_nil, List.replicate_zero, List.replicate_succ, List.append_nil, ldI, ldA, incK, getK, putK, oldK, castK, inv1, nwO, nwA, nwR, alen, ald, bald, ast, lald, last, rald, rast, goTo, nth, sto, setN, popN, okv, cat1_int, cat1_ref, cat1_null, cat1_rf, va_rf, hup_same, hup_hup, List.length_cons, List.length_nil, List.nil_append, List.cons_append, Option.toList, true_and, and_true, Nat.reduceAdd, Nat.reduceSub, Nat.reduceLT, Nat.reduceLeDiff, Nat.zero_le, Nat.sub_zero, Nat.zero_lt_succ, Nat.lt_add_left_iff_pos, Nat.succ_lt_succ_iff]
        exact h hf
      · cases hz
  · exact hT.elim
set_option maxRecDepth 100000 in
theorem con_L_look {l : Launch} {s0 : State} {D : va_G} {cy : Nat → ClassId} {P : Pm} {a0 : Array Value} (hE : E0 l s0 D cy P a0) (hN : NCok s0) : Con l s0 D yL_look (Cond.codeWith yL_look cL_look 5 (some .int) hh_L_look) 8 134 (sp_L_look cy P) := by
  refine con_ofH (kd := 0) (j := 56) (clok_L hE _) (by decide) (fun as σ K KX h => okA_cat h.1) (Nat.le_of_ble_eq_true rfl) dL_look_5 ?_ ?_ (m_L_look cy P)
  · intro p e R s m args below meth c A Q hfr hlo hW B
    exact inv_V (ci := 9) B (con_fr (con_X8_look hE)) rfl (fun as σ K KX h => fr_rcv h) (cw_mk hE hW tw_890 rfl tw_1 ⟨by decide, by decide⟩ rfl) rfl (wd hE hW tw_887 rfl) (wd hE hW tw_888 rfl) (wd hE hW tw_889 rfl) (by rw [hfr]; decide) (by rw [hlo]; decide)
  · intro p e R s m args below meth c A Q hW B htab E h hh9 H locs cells slots lsA r q ce h1 h2 h3 kk
    exact catch_of hE hN hW B htab (by decide) hh9 h1 h2 h3 kk
def hh_L_score : List (Nat × Nat × Nat × Nat) := [(0, 10, 13, 20), (0, 10, 17, 54)]
def sp_L_score (cy : Nat → ClassId) (P : Pm) : Sg := mS [1, 0, 0, 1] (fun as σ => (sp_X8_score cy P).2.1 as.dropLast σ) (fun as σ K KX => match as with
  | [.ref x, .int a0, .int a1, .ref o] => wrb cy (sp_X8_score cy P) hh_L_score ocI [.ref x, .int a0, .int a1] σ o K
  | _ => False)
set_option maxHeartbeats 2000000 in
theorem m_L_score (cy : Nat → ClassId) (P : Pm) : MOKH (cl_L P) cy P.2.1 obj cL_score (some .int) 5 (sp_L_score cy P) 5 (fr (sp_X8_score cy P)) (handOf hh_L_score) := by
  intro as σ K KX J hlen hT hJ hC hOld
  obtain ⟨-, hT⟩ := hT
  split at hT
  · rename_i x a0 a1 o
    obtain ⟨f, σ1, ho, hn, hs, hb, hT⟩ := hT
    refine wp_of_S hJ (ct [5]) 400 _ _ _ _ _ _ ?_
    simp only [w_aload_n (cut := ct [5]) (pc' := 1) (i := 3) rfl dL_score_0 rfl rfl, w_iconst (cut := ct [5]) (pc' := 2) (v := 0) rfl dL_score_1 rfl rfl, w_aload_n (cut := ct [5]) (pc' := 3) (i := 0) rfl dL_score_2 rfl rfl, w_iload_n (cut := ct [5]) (pc' := 4) (i := 1) rfl dL_score_3 rfl rfl, w_iload_n (cut := ct [5]) (pc' := 5) (i := 2) rfl dL_score_4 rfl rfl, w_cut (cut := ct [5]) (pc := 5) rfl, rsum, cg_int, cg_ref, cg_null, nby0, strd, mStr, onAL, true_imp_iff, false_imp_iff, not_true_eq_false, not_false_eq_true, Classical.not_not, eq_self, e10, e01, em1, Int32.reduceLT, Int32.reduceLE, onBoat, onGale, onOut, onPort, onRep, onWarn, yn, mI, mS, b0, okA, rcvd, nb0, nb1, ini, List.map_cons, List.map_nil, List.replicate_zero, List.replicate_succ, List.append_nil, ldI, ldA, incK, getK, putK, oldK, castK, inv1, nwO, nwA, nwR, alen, ald, bald, ast, lald, last, rald, rast, goTo, nth, sto, setN, popN, okv, cat1_int, cat1_ref, cat1_null, cat1_rf, va_rf, hup_same, hup_hup, List.length_cons, List.length_nil, List.nil_append, List.cons_append, Option.toList, true_and, and_true, Nat.reduceAdd, Nat.reduceSub, Nat.reduceLT, Nat.reduceLeDiff, Nat.zero_le, Nat.sub_zero, Nat.zero_lt_succ, Nat.lt_add_left_iff_pos, Nat.succ_lt_succ_iff]
    refine hC [.ref x, .int a0, .int a1] [.int 0, .ref o] _ σ _ _ rfl (Nat.le_of_ble_eq_true rfl) (Nat.le_refl _) (Nat.le_refl _) ⟨σ1, hs, hb, hT _ _ (fun n τ h hf => ?_) (fun k z τ hz h hf => ?_)⟩
    · have ho9 := mrg_o ho hn hf
      unfold oJ at ho9
      refine wp_of_S hJ (ct []) 400 _ _ _ _ _ _ ?_
      simp only [w_i2l (cut := ct []) (pc' := 9) rfl dL_score_8 rfl, w_lastore (cut := ct []) rfl dL_score_9, w_goto (cut := ct []) (t := 21) rfl dL_score_10 (by decide) rfl, w_astore (cut := ct []) (pc' := 15) (i := 4) rfl dL_score_13 rfl rfl, w_astoreN (cut := ct []) (pc' := 15) (i := 4) rfl dL_score_13 rfl rfl, w_iconst (cut := ct []) (pc' := 16) (v := 1) rfl dL_score_15 rfl rfl, w_ireturnI (cut := ct []) rfl dL_score_16 rfl, w_astore (cut := ct []) (pc' := 19) (i := 4) rfl dL_score_17 rfl rfl, w_astoreN (cut := ct []) (pc' := 19) (i := 4) rfl dL_score_17 rfl rfl, w_iconst (cut := ct []) (pc' := 20) (v := 2) rfl dL_score_19 rfl rfl, w_ireturnI (cut := ct []) rfl dL_score_20 rfl, w_iconst (cut := ct []) (pc' := 22) (v := 0) rfl dL_score_21 rfl rfl, w_ireturnI (cut := ct []) rfl dL_score_22 rfl, rsum, cg_int, cg_ref, cg_null, nby0, strd, mStr, onAL, true_imp_iff, false_imp_iff, not_true_eq_false, not_false_eq_true, Classical.not_not, eq_self, e10, e01, em1, Int32.reduceLT, Int32.reduceLE, onBoat, onGale, onOut, onPort, onRep, onWarn, yn, mI, mS, b0, okA, rcvd, nb0, nb1, ini, List.map_cons, List.map_nil, List.replicate_zero, List.replicate_succ, List.append_nil, ldI, ldA, incK, getK, putK, oldK, castK, inv1, nwO, nwA, nwR, alen, ald, bald, ast, lald, last, rald, rast, goTo, nth, sto, setN, popN, okv, cat1_int, cat1_ref, cat1_null, cat1_rf, va_rf, hup_same, hup_hup, List.length_cons, List.length_nil, List.nil_append, List.cons_append, Option.toList, true_and, and_true, Nat.reduceAdd, Nat.reduceSub, Nat.reduceLT, Nat.reduceLeDiff, Nat.zero_le, Nat.sub_zero, Nat.zero_lt_succ, Nat.lt_add_left_iff_pos, Nat.succ_lt_succ_iff, ho9, z0]
      exact ⟨vin0, h hf _ (updL0 _ _)⟩
    · rcases k with _ | _ | k
      · cases hz
        rw [show handOf hh_L_score (exN 20) = some 13 from by decide +kernel]
        intro q
        refine wp_of_S hJ (ct []) 400 _ _ _ _ _ _ ?_
        simp only [w_astore (cut := ct []) (pc' := 15) (i := 4) rfl dL_score_13 rfl rfl, w_astoreN (cut := ct []) (pc' := 15) (i := 4) rfl dL_score_13 rfl rfl, w_iconst (cut := ct []) (pc' := 16) (v := 1) rfl dL_score_15 rfl rfl, w_ireturnI (cut := ct []) rfl dL_score_16 rfl, w_astore (cut := ct []) (pc' := 19) (i := 4) rfl dL_score_17 rfl rfl, w_astoreN (cut := ct []) (pc' := 19) (i := 4) rfl dL_score_17 rfl rfl, w_iconst (cut := ct []) (pc' := 20) (v := 2) rfl dL_score_19 rfl rfl, rsum, cg_int, cg_ref, cg_null, nby0, strd, mStr, onAL, true_imp_iff, false_imp_iff, not_true_eq_false, not_false_eq_true, Classical.not_not, eq_self, e10, e01, em1, Int32.reduceLT, Int32.reduceLE, onBoat, onGale, onOut, onPort, onRep, onWarn, yn, mI, mS, b0, okA, rcvd, nb0, nb1, ini, List.map_cons, List.map_nil, List.replicate_zero, List.replicate_succ, List.append_nil, ldI, ldA, incK, getK, putK, oldK, castK, inv1, nwO, nwA, nwR, alen, ald, bald, ast, lald, last, rald, rast, goTo, nth, sto, setN, popN, okv, cat1_int, cat1_ref, cat1_null, cat1_rf, va_rf, hup_same, hup_hup, List.length_cons, List.length_nil, List.nil_append, List.cons_append, Option.toList, true_and, and_true, Nat.reduceAdd, Nat.reduceSub, Nat.reduceLT, Nat.reduceLeDiff, Nat.zero_le, Nat.sub_zero, Nat.zero_lt_succ, Nat.lt_add_left_iff_pos, Nat.succ_lt_succ_iff]
        exact h hf
      · cases hz
        rw [show handOf hh_L_score (exN 54) = some 17 from by decide +kernel]
        intro q
        refine wp_of_S hJ (ct []) 400 _ _ _ _ _ _ ?_
        simp only [w_astore (cut := ct []) (pc' := 19) (i := 4) rfl dL_score_17 rfl rfl, w_astoreN (cut := ct []) (pc' := 19) (i := 4) rfl dL_score_17 rfl rfl, w_iconst (cut := ct []) (pc' := 20) (v := 2) rfl dL_score_19 rfl rfl, w_ireturnI (cut := ct []) rfl dL_score_20 rfl, w_iconst (cut := ct []) (pc' := 22) (v := 0) rfl dL_score_21 rfl rfl, w_ireturnI (cut := ct []) rfl dL_score_22 rfl, rsum, cg_int, cg_ref, cg_null, nby0, strd, mStr, onAL, true_imp_iff, false_imp_iff, not_true_eq_false, not_false_eq_true, Classical.not_not, eq_self, e10, e01, em1, Int32.reduceLT, Int32.reduceLE, onBoat, onGale, onOut, onPort, onRep, onWarn, yn, mI, mS, b0, okA, rcvd, nb0, nb1, ini, List.map_cons, List.map_nil, List.replicate_zero, List.replicate_succ, List.append_nil, ldI, ldA, incK, getK, putK, oldK, castK, inv1, nwO, nwA, nwR, alen, ald, bald, ast, lald, last, rald, rast, goTo, nth, sto, setN, popN, okv, cat1_int, cat1_ref, cat1_null, cat1_rf, va_rf, hup_same, hup_hup, List.length_cons, List.length_nil, List.nil_append, List.cons_append, Option.toList, true_and, and_true, Nat.reduceAdd, Nat.reduceSub, Nat.reduceLT, Nat.reduceLeDiff, Nat.zero_le, Nat.sub_zero, Nat.zero_lt_succ, Nat.lt_add_left_iff_pos, Nat.succ_lt_succ_iff]
        exact h hf
      · cases hz
  · exact hT.elim
set_option maxRecDepth 100000 in
theorem con_L_score {l : Launch} {s0 : State} {D : va_G} {cy : Nat → ClassId} {P : Pm} {a0 : Array Value} (hE : E0 l s0 D cy P a0) (hN : NCok s0) : Con l s0 D yL_score (Cond.codeWith yL_score cL_score 5 (some .int) hh_L_score) 8 137 (sp_L_score cy P) := by
  refine con_ofH (kd := 0) (j := 59) (clok_L hE _) (by decide) (fun as σ K KX h => okA_cat h.1) (Nat.le_of_ble_eq_true rfl) dL_score_5 ?_ ?_ (m_L_score cy P)
  · intro p e R s m args below meth c A Q hfr hlo hW B
    exact inv_V (ci := 9) B (con_fr (con_X8_score hE)) rfl (fun as σ K KX h => fr_rcv h) (cw_mk hE hW tw_898 rfl tw_1 ⟨by decide, by decide⟩ rfl) rfl (wd hE hW tw_895 rfl) (wd hE hW tw_896 rfl) (wd hE hW tw_897 rfl) (by rw [hfr]; decide) (by rw [hlo]; decide)
  · intro p e R s m args below meth c A Q hW B htab E h hh9 H locs cells slots lsA r q ce h1 h2 h3 kk
    exact catch_of hE hN hW B htab (by decide) hh9 h1 h2 h3 kk
