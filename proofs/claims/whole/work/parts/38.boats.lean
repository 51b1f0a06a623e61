/-! ===== StormFlags: a boat's hour, an hour, hours ===== -/
def fearsB (bo f : Int32) : Bool := (!decide (f &&& 2 = 0) && decide (bo ≤ 1)) || (!decide (f &&& 1 = 0) && decide (bo = 0))
theorem fearsB_iff {bo f : Int32} : fearsB bo f = true ↔ fearsC bo f := by
  unfold fearsB fearsC
  simp
/-- a boat that is due comes home -/
def homeM (now : Int32) (i : Nat) (M : Ms) : Ms := if M 35 (8 * i + 3) = 2 ∧ M 35 (8 * i + 4) + M 35 (8 * i + 5) ≤ now then setR M 35 (upd (M 35) (8 * i + 3) 0) else M
/-- a boat that is to sail now sails or stays -/
def sailM (nw : Nat) (now : Int32) (k i : Nat) (M : Ms) : Ms := if M 35 (8 * i + 3) = 1 ∧ M 35 (8 * i + 4) = now then (if fearsB (M 35 (8 * i + 1)) (flies M k now nw) = true then setR M 35 (upd (upd (M 35) (8 * i + 3) 0) (8 * i + 7) (M 35 (8 * i + 7) + 1)) else setR M 35 (upd (upd (M 35) (8 * i + 3) 2) (8 * i + 6) (M 35 (8 * i + 6) + 1))) else M
/-- a boat at sea in too strong a gale is lost -/
def downM (ng : Nat) (now : Int32) (k i : Nat) (M : Ms) : Ms := if M 35 (8 * i + 3) = 2 ∧ strongB M k (M 35 (8 * i + 2)) now ng = true then setR M 35 (upd (upd (M 35) (8 * i + 3) 3) (8 * i + 4) now) else M
abbrev prt (M : Ms) (i : Nat) : Nat := (M 35 (8 * i)).toNatClampNeg
def goM (S : Sx) (i : Nat) : Sx := (S.1, downM (S.1 34) (nI (S.1 1)) (prt S.2 i) i (sailM (S.1 26) (nI (S.1 1)) (prt S.2 i) i (homeM (nI (S.1 1)) i S.2)))
theorem homeM_at {now : Int32} {i : Nat} {M : Ms} : homeM now i M 35 (8 * i) = M 35 (8 * i) := by
  unfold homeM
  split
  · rw [setR_same, pk_un (by omega)]
  · rfl
theorem sailM_at {nw : Nat} {now : Int32} {k i : Nat} {M : Ms} : sailM nw now k i M 35 (8 * i) = M 35 (8 * i) := by
  unfold sailM
  split
  · split
    · rw [setR_same, pk_un (by omega), pk_un (by omega)]
    · rw [setR_same, pk_un (by omega), pk_un (by omega)]
  · rfl
def iv_X8_passHourOf (cy : Nat → ClassId) (P : Pm) : Nat → Nat → Option Sg
  | 0, 305 => some (sp_X0_comeHomeIfDue cy P)
  | 0, 308 => some (sp_X0_isToSailAt cy P)
  | 0, 185 => some (sp_X8_flagsSeen cy P)
  | 0, 315 => some (sp_X0_sailOrStay cy P)
  | 0, 318 => some (sp_X8_isGaleTooStrong cy P)
  | 0, 322 => some (sp_X0_goDown cy P)
  | _, _ => none
def sp_X8_passHourOf (cy : Nat → ClassId) (P : Pm) : Sg := mI 9 [1] b0 (fun as σ K _ => match as with
  | [.ref x, .ref b] => ∃ N M co gb gl wi t tb pl f lp ep pA rA lw ew wA lg eg gA lb eb bA o b1 a1 F C Kd Nm b2 a2 s2 F2 C2 K2 N2 i, σ x = some (oSF t lp lw lg lb o b1 b2 (M 23 0) (nI (N 12)) (nI (N 1))) ∧ CXr cy P σ N M co gb gl wi t tb pl f lp ep pA rA lw ew wA lg eg gA lb eb bA o b1 a1 F C Kd Nm b2 a2 s2 F2 C2 K2 N2 ∧ i < N 36 ∧ N 6 ≤ 12 ∧ b = bA i ∧ (∀ σ', CX cy P σ' x N (goM (N, M) i).2 → K none σ')
  | _ => False)
set_option maxRecDepth 8000 in
set_option maxHeartbeats 8000000 in
theorem m_X8_passHourOf (cy : Nat → ClassId) (P : Pm) (hP : PmOK P) : MOK (cl_X8 P) cy P.2.1 obj cX8_passHourOf (iv_X8_passHourOf cy P) (fun _ => none) (fun _ => some none) (none) 2 (sp_X8_passHourOf cy P) := by
  intro as σ K KX J hlen hT hJ hOld
  obtain ⟨-, -, hT⟩ := hT
  split at hT
  · rename_i x b
    obtain ⟨N, M, co, gb, gl, wi, t, tb, pl, f, lp, ep, pA, rA, lw, ew, wA, lg, eg, gA, lb, eb, bA, o, b1, a1, F, C, Kd, Nm, b2, a2, s2, F2, C2, K2, N2, i, hx, hC, hi, hN6, rfl, hK⟩ := hT
    have bt9 : ∀ {M1 : Ms} {σ1 : Hp}, CXr cy P σ1 N M1 co gb gl wi t tb pl f lp ep pA rA lw ew wA lg eg gA lb eb bA o b1 a1 F C Kd Nm b2 a2 s2 F2 C2 K2 N2 → M1 35 (8 * i) = M 35 (8 * i) → ∃ la, prt M i < N 6 ∧ M1 35 (8 * i) = nI (prt M i) ∧ σ1 (bA i) = some (oBt M1 (pA (prt M i)) i) ∧ σ1 (pA (prt M i)) = some (oPt M1 (prt M i) la) := by
      intro M1 σ1 h1 h2
      obtain ⟨k, hk, hk2, hb⟩ := h1.2.2.2.2.2.1.2.1 i hi
      have hkk : k = prt M i := by
        unfold prt
        rw [← h2, hk2, nI_clamp (by omega)]
      subst hkk
      obtain ⟨la, hp, -⟩ := h1.2.2.1.2 (prt M i) hk
      exact ⟨la, hk, hk2, hb, hp⟩
    have st3 : ∀ (σ1 : Hp) (M1 : Ms), M1 23 0 = M 23 0 → M1 35 (8 * i) = M 35 (8 * i) → σ1 x = some (oSF t lp lw lg lb o b1 b2 (M1 23 0) (nI (N 12)) (nI (N 1))) → CXr cy P σ1 N M1 co gb gl wi t tb pl f lp ep pA rA lw ew wA lg eg gA lb eb bA o b1 a1 F C Kd Nm b2 a2 s2 F2 C2 K2 N2 → (∀ σ', CX cy P σ' x N (downM (N 34) (nI (N 1)) (prt M i) i M1) → K none σ') → J 35 [some (.ref x), some (.ref (bA i))] [] σ1 0 0 := by
      intro σ1 M1 h23 h35 hx1 hC1 hK1
      obtain ⟨la, hkn, hkv, hb, hp⟩ := bt9 hC1 h35
      have hG := hC1.2.2.2.2.1
      unfold downM at hK1
      refine wp_of_S hJ (ct []) 400 _ _ _ _ _ _ ?_
      simp only [w_aload_n (cut := ct []) (pc' := 1) (i := 1) rfl dX8_passHourOf_0 rfl rfl, w_aload_n (cut := ct []) (pc' := 2) (i := 0) rfl dX8_passHourOf_1 rfl rfl, w_getfield (cut := ct []) (pc' := 5) rfl dX8_passHourOf_2 rfl (q_X8_f56 P), w_invoke (inv := iv_X8_passHourOf cy P) (kd := 0) (f := 305) (g := sp_X0_comeHomeIfDue cy P) (cut := ct []) rfl dX8_passHourOf_5 rfl (by decide) rfl, w_aload_n (cut := ct []) (pc' := 9) (i := 1) rfl dX8_passHourOf_8 rfl rfl, w_aload_n (cut := ct []) (pc' := 10) (i := 0) rfl dX8_passHourOf_9 rfl rfl, w_getfield (cut := ct []) (pc' := 13) rfl dX8_passHourOf_10 rfl (q_X8_f56 P), w_invoke (inv := iv_X8_passHourOf cy P) (kd := 0) (f := 308) (g := sp_X0_isToSailAt cy P) (cut := ct []) rfl dX8_passHourOf_13 rfl (by decide) rfl, w_if_eq (cut := ct []) (pc' := 19) (t := 35) rfl dX8_passHourOf_16 rfl (by decide) rfl, w_aload_n (cut := ct []) (pc' := 20) (i := 1) rfl dX8_passHourOf_19 rfl rfl, w_aload_n (cut := ct []) (pc' := 21) (i := 0) rfl dX8_passHourOf_20 rfl rfl, w_aload_n (cut := ct []) (pc' := 22) (i := 1) rfl dX8_passHourOf_21 rfl rfl, w_getfield (cut := ct []) (pc' := 25) rfl dX8_passHourOf_22 rfl (q_X8_f311 P), w_aload_n (cut := ct []) (pc' := 26) (i := 0) rfl dX8_passHourOf_25 rfl rfl, w_getfield (cut := ct []) (pc' := 29) rfl dX8_passHourOf_26 rfl (q_X8_f56 P), w_invoke (inv := iv_X8_passHourOf cy P) (kd := 0) (f := 185) (g := sp_X8_flagsSeen cy P) (cut := ct []) rfl dX8_passHourOf_29 rfl (by decide) rfl, w_invoke (inv := iv_X8_passHourOf cy P) (kd := 0) (f := 315) (g := sp_X0_sailOrStay cy P) (cut := ct []) rfl dX8_passHourOf_32 rfl (by decide) rfl, w_aload_n (cut := ct []) (pc' := 36) (i := 1) rfl dX8_passHourOf_35 rfl rfl, w_getfield (cut := ct []) (pc' := 39) rfl dX8_passHourOf_36 rfl (q_X8_f217 P), w_iconst (cut := ct []) (pc' := 40) (v := 2) rfl dX8_passHourOf_39 rfl rfl, w_icmp_ne (cut := ct []) (pc' := 43) (t := 59) rfl dX8_passHourOf_40 rfl (by decide) rfl, w_aload_n (cut := ct []) (pc' := 44) (i := 0) rfl dX8_passHourOf_43 rfl rfl, w_aload_n (cut := ct []) (pc' := 45) (i := 1) rfl dX8_passHourOf_44 rfl rfl, w_invoke (inv := iv_X8_passHourOf cy P) (kd := 0) (f := 318) (g := sp_X8_isGaleTooStrong cy P) (cut := ct []) rfl dX8_passHourOf_45 rfl (by decide) rfl, w_if_eq (cut := ct []) (pc' := 51) (t := 59) rfl dX8_passHourOf_48 rfl (by decide) rfl, w_aload_n (cut := ct []) (pc' := 52) (i := 1) rfl dX8_passHourOf_51 rfl rfl, w_aload_n (cut := ct []) (pc' := 53) (i := 0) rfl dX8_passHourOf_52 rfl rfl, w_getfield (cut := ct []) (pc' := 56) rfl dX8_passHourOf_53 rfl (q_X8_f56 P), w_invoke (inv := iv_X8_passHourOf cy P) (kd := 0) (f := 322) (g := sp_X0_goDown cy P) (cut := ct []) rfl dX8_passHourOf_56 rfl (by decide) rfl, w_return (cut := ct []) rfl dX8_passHourOf_59 rfl, rsum, cg_int, cg_ref, cg_null, nby0, strd, mStr, onAL, true_imp_iff, false_imp_iff, not_true_eq_false, not_false_eq_true, Classical.not_not, eq_self, e10, e01, em1, Int32.reduceLT, Int32.reduceLE, onBoat, onGale, onOut, onPort, onRep, onWarn, yn, mI, mS, b0, okA, rcvd, nb0, nb1, ini, List.map_cons, List.map_nil, List.replicate_zero, List.replicate_succ, List.append_nil, ldI, ldA, incK, getK, putK, oldK, castK, inv1, nwO, nwA, nwR, alen, ald, bald, ast, lald, last, rald, rast, goTo, nth, sto, setN, popN, okv, cat1_int, cat1_ref, cat1_null, cat1_rf, va_rf, hup_same, hup_hup, List.length_cons, List.length_nil, List.nil_append, List.cons_append, Option.toList, true_and, and_true, Nat.reduceAdd, Nat.reduceSub, Nat.reduceLT, Nat.reduceLeDiff, Nat.zero_le, Nat.sub_zero, Nat.zero_lt_succ, Nat.lt_add_left_iff_pos, Nat.succ_lt_succ_iff, hx1, hb, sp_X8_isGaleTooStrong, sp_X0_goDown]
      refine ⟨fun h => ?_, fun h => ⟨t, lp, lw, lg, lb, o, b1, b2, _, _, _, eg, _, gA, M1, prt M i, la, _, _, _, _, _, _, _, _, rfl, hG, hp, rfl, fun hs => ?_, fun hs => ?_⟩⟩
      · rw [if_neg (fun z => h z.1)] at hK1
        exact hK1 σ1 ⟨_, _, _, _, t, tb, pl, f, lp, ep, pA, rA, lw, ew, wA, lg, eg, gA, lb, eb, bA, o, b1, a1, F, C, Kd, Nm, b2, a2, s2, F2, C2, K2, N2, hx1, hC1⟩
      · rw [if_pos ⟨h, hs⟩] at hK1
        have hC2 := CXr_boat (g := upd (upd (M1 35) (8 * i + 3) 3) (8 * i + 4) (nI (N 1))) hC1 hi hkn (by rw [pk_un (by omega), pk_un (by omega)]; exact hkv) (fun j hj => by rw [pk_un (by omega), pk_un (by omega)])
        have e9 : oBt (setR M1 35 (upd (upd (M1 35) (8 * i + 3) 3) (8 * i + 4) (nI (N 1)))) (pA (prt M i)) i = oBoat (pA (prt M i)) (M1 35 (8 * i + 1)) (M1 35 (8 * i + 2)) 3 (nI (N 1)) (M1 35 (8 * i + 5)) (M1 35 (8 * i + 6)) (M1 35 (8 * i + 7)) := by
          simp [oBt, hrC, setR, upd]
        rw [e9] at hC2
        exact hK1 _ ⟨_, _, _, _, t, tb, pl, f, lp, ep, pA, rA, lw, ew, wA, lg, eg, gA, lb, eb, bA, o, b1, a1, F, C, Kd, Nm, b2, a2, s2, F2, C2, K2, N2, by rw [hup_ne _ _ (kne hx1 hb (by intro z; cases z))]; exact hx1, hC2⟩
      · rw [if_neg (fun z => hs z.2)] at hK1
        exact hK1 σ1 ⟨_, _, _, _, t, tb, pl, f, lp, ep, pA, rA, lw, ew, wA, lg, eg, gA, lb, eb, bA, o, b1, a1, F, C, Kd, Nm, b2, a2, s2, F2, C2, K2, N2, hx1, hC1⟩
    have st2 : ∀ (σ1 : Hp) (M1 : Ms), M1 23 0 = M 23 0 → M1 35 (8 * i) = M 35 (8 * i) → σ1 x = some (oSF t lp lw lg lb o b1 b2 (M1 23 0) (nI (N 12)) (nI (N 1))) → CXr cy P σ1 N M1 co gb gl wi t tb pl f lp ep pA rA lw ew wA lg eg gA lb eb bA o b1 a1 F C Kd Nm b2 a2 s2 F2 C2 K2 N2 → (∀ σ', CX cy P σ' x N (downM (N 34) (nI (N 1)) (prt M i) i (sailM (N 26) (nI (N 1)) (prt M i) i M1)) → K none σ') → J 8 [some (.ref x), some (.ref (bA i))] [] σ1 0 0 := by
      intro σ1 M1 h23 h35 hx1 hC1 hK1
      obtain ⟨la, hkn, hkv, hb, hp⟩ := bt9 hC1 h35
      have hW := hC1.2.2.2.1
      unfold sailM at hK1
      refine wp_of_S hJ (ct [35]) 400 _ _ _ _ _ _ ?_
      simp only [w_aload_n (cut := ct [35]) (pc' := 1) (i := 1) rfl dX8_passHourOf_0 rfl rfl, w_aload_n (cut := ct [35]) (pc' := 2) (i := 0) rfl dX8_passHourOf_1 rfl rfl, w_getfield (cut := ct [35]) (pc' := 5) rfl dX8_passHourOf_2 rfl (q_X8_f56 P), w_invoke (inv := iv_X8_passHourOf cy P) (kd := 0) (f := 305) (g := sp_X0_comeHomeIfDue cy P) (cut := ct [35]) rfl dX8_passHourOf_5 rfl (by decide) rfl, w_aload_n (cut := ct [35]) (pc' := 9) (i := 1) rfl dX8_passHourOf_8 rfl rfl, w_aload_n (cut := ct [35]) (pc' := 10) (i := 0) rfl dX8_passHourOf_9 rfl rfl, w_getfield (cut := ct [35]) (pc' := 13) rfl dX8_passHourOf_10 rfl (q_X8_f56 P), w_invoke (inv := iv_X8_passHourOf cy P) (kd := 0) (f := 308) (g := sp_X0_isToSailAt cy P) (cut := ct [35]) rfl dX8_passHourOf_13 rfl (by decide) rfl, w_if_eq (cut := ct [35]) (pc' := 19) (t := 35) rfl dX8_passHourOf_16 rfl (by decide) rfl, w_aload_n (cut := ct [35]) (pc' := 20) (i := 1) rfl dX8_passHourOf_19 rfl rfl, w_aload_n (cut := ct [35]) (pc' := 21) (i := 0) rfl dX8_passHourOf_20 rfl rfl, w_aload_n (cut := ct [35]) (pc' := 22) (i := 1) rfl dX8_passHourOf_21 rfl rfl, w_getfield (cut := ct [35]) (pc' := 25) rfl dX8_passHourOf_22 rfl (q_X8_f311 P), w_aload_n (cut := ct [35]) (pc' := 26) (i := 0) rfl dX8_passHourOf_25 rfl rfl, w_getfield (cut := ct [35]) (pc' := 29) rfl dX8_passHourOf_26 rfl (q_X8_f56 P), w_invoke (inv := iv_X8_passHourOf cy P) (kd := 0) (f := 185) (g := sp_X8_flagsSeen cy P) (cut := ct [35]) rfl dX8_passHourOf_29 rfl (by decide) rfl, w_invoke (inv := iv_X8_passHourOf cy P) (kd := 0) (f := 315) (g := sp_X0_sailOrStay cy P) (cut := ct [35]) rfl dX8_passHourOf_32 rfl (by decide) rfl, w_cut (cut := ct [35]) (pc := 35) rfl, w_getfield (cut := ct [35]) (pc' := 39) rfl dX8_passHourOf_36 rfl (q_X8_f217 P), w_iconst (cut := ct [35]) (pc' := 40) (v := 2) rfl dX8_passHourOf_39 rfl rfl, w_icmp_ne (cut := ct [35]) (pc' := 43) (t := 59) rfl dX8_passHourOf_40 rfl (by decide) rfl, w_aload_n (cut := ct [35]) (pc' := 44) (i := 0) rfl dX8_passHourOf_43 rfl rfl, w_aload_n (cut := ct [35]) (pc' := 45) (i := 1) rfl dX8_passHourOf_44 rfl rfl, w_invoke (inv := iv_X8_passHourOf cy P) (kd := 0) (f := 318) (g := sp_X8_isGaleTooStrong cy P) (cut := ct [35]) rfl dX8_passHourOf_45 rfl (by decide) rfl, w_if_eq (cut := ct [35]) (pc' := 51) (t := 59) rfl dX8_passHourOf_48 rfl (by decide) rfl, w_aload_n (cut := ct [35]) (pc' := 52) (i := 1) rfl dX8_passHourOf_51 rfl rfl, w_aload_n (cut := ct [35]) (pc' := 53) (i := 0) rfl dX8_passHourOf_52 rfl rfl, w_getfield (cut := ct [35]) (pc' := 56) rfl dX8_passHourOf_53 rfl (q_X8_f56 P), w_invoke (inv := iv_X8_passHourOf cy P) (kd := 0) (f := 322) (g := sp_X0_goDown cy P) (cut := ct [35]) rfl dX8_passHourOf_56 rfl (by decide) rfl, w_return (cut := ct [35]) rfl dX8_passHourOf_59 rfl, rsum, cg_int, cg_ref, cg_null, nby0, strd, mStr, onAL, true_imp_iff, false_imp_iff, not_true_eq_false, not_false_eq_true, Classical.not_not, eq_self, e10, e01, em1, Int32.reduceLT, Int32.reduceLE, onBoat, onGale, onOut, onPort, onRep, onWarn, yn, mI, mS, b0, okA, rcvd, nb0, nb1, ini, List.map_cons, List.map_nil, List.replicate_zero, List.replicate_succ, List.append_nil, ldI, ldA, incK, getK, putK, oldK, castK, inv1, nwO, nwA, nwR, alen, ald, bald, ast, lald, last, rald, rast, goTo, nth, sto, setN, popN, okv, cat1_int, cat1_ref, cat1_null, cat1_rf, va_rf, hup_same, hup_hup, List.length_cons, List.length_nil, List.nil_append, List.cons_append, Option.toList, true_and, and_true, Nat.reduceAdd, Nat.reduceSub, Nat.reduceLT, Nat.reduceLeDiff, Nat.zero_le, Nat.sub_zero, Nat.zero_lt_succ, Nat.lt_add_left_iff_pos, Nat.succ_lt_succ_iff, hx1, hb, sp_X0_isToSailAt, sp_X8_flagsSeen]
      refine ⟨fun h => ?_, fun h => ?_⟩
      · refine ⟨t, lp, lw, lg, lb, o, b1, b2, _, _, _, ew, _, wA, M1, prt M i, la, rfl, hW, hp, ?_⟩
        have hs1 : M1 35 (8 * i + 3) = 1 := h.1
        have hs2 : M1 35 (8 * i + 4) = nI (N 1) := by
          have := h.2
          unfold hrC at this
          rw [hs1, if_neg (by decide), if_neg (by decide)] at this
          exact this
        rw [if_pos ⟨hs1, hs2⟩] at hK1
        simp only [w_aload_n (cut := ct [35]) (pc' := 1) (i := 1) rfl dX8_passHourOf_0 rfl rfl, w_aload_n (cut := ct [35]) (pc' := 2) (i := 0) rfl dX8_passHourOf_1 rfl rfl, w_getfield (cut := ct [35]) (pc' := 5) rfl dX8_passHourOf_2 rfl (q_X8_f56 P), w_invoke (inv := iv_X8_passHourOf cy P) (kd := 0) (f := 305) (g := sp_X0_comeHomeIfDue cy P) (cut := ct [35]) rfl dX8_passHourOf_5 rfl (by decide) rfl, w_aload_n (cut := ct [35]) (pc' := 9) (i := 1) rfl dX8_passHourOf_8 rfl rfl, w_aload_n (cut := ct [35]) (pc' := 10) (i := 0) rfl dX8_passHourOf_9 rfl rfl, w_getfield (cut := ct [35]) (pc' := 13) rfl dX8_passHourOf_10 rfl (q_X8_f56 P), w_invoke (inv := iv_X8_passHourOf cy P) (kd := 0) (f := 308) (g := sp_X0_isToSailAt cy P) (cut := ct [35]) rfl dX8_passHourOf_13 rfl (by decide) rfl, w_if_eq (cut := ct [35]) (pc' := 19) (t := 35) rfl dX8_passHourOf_16 rfl (by decide) rfl, w_aload_n (cut := ct [35]) (pc' := 20) (i := 1) rfl dX8_passHourOf_19 rfl rfl, w_aload_n (cut := ct [35]) (pc' := 21) (i := 0) rfl dX8_passHourOf_20 rfl rfl, w_aload_n (cut := ct [35]) (pc' := 22) (i := 1) rfl dX8_passHourOf_21 rfl rfl, w_getfield (cut := ct [35]) (pc' := 25) rfl dX8_passHourOf_22 rfl (q_X8_f311 P), w_aload_n (cut := ct [35]) (pc' := 26) (i := 0) rfl dX8_passHourOf_25 rfl rfl, w_getfield (cut := ct [35]) (pc' := 29) rfl dX8_passHourOf_26 rfl (q_X8_f56 P), w_invoke (inv := iv_X8_passHourOf cy P) (kd := 0) (f := 185) (g := sp_X8_flagsSeen cy P) (cut := ct [35]) rfl dX8_passHourOf_29 rfl (by decide) rfl, w_invoke (inv := iv_X8_passHourOf cy P) (kd := 0) (f := 315) (g := sp_X0_sailOrStay cy P) (cut := ct [35]) rfl dX8_passHourOf_32 rfl (by decide) rfl, w_cut (cut := ct [35]) (pc := 35) rfl, w_getfield (cut := ct [35]) (pc' := 39) rfl dX8_passHourOf_36 rfl (q_X8_f217 P), w_iconst (cut := ct [35]) (pc' := 40) (v := 2) rfl dX8_passHourOf_39 rfl rfl, w_icmp_ne (cut := ct [35]) (pc' := 43) (t := 59) rfl dX8_passHourOf_40 rfl (by decide) rfl, w_aload_n (cut := ct [35]) (pc' := 44) (i := 0) rfl dX8_passHourOf_43 rfl rfl, w_aload_n (cut := ct [35]) (pc' := 45) (i := 1) rfl dX8_passHourOf_44 rfl rfl, w_invoke (inv := iv_X8_passHourOf cy P) (kd := 0) (f := 318) (g := sp_X8_isGaleTooStrong cy P) (cut := ct [35]) rfl dX8_passHourOf_45 rfl (by decide) rfl, w_if_eq (cut := ct [35]) (pc' := 51) (t := 59) rfl dX8_passHourOf_48 rfl (by decide) rfl, w_aload_n (cut := ct [35]) (pc' := 52) (i := 1) rfl dX8_passHourOf_51 rfl rfl, w_aload_n (cut := ct [35]) (pc' := 53) (i := 0) rfl dX8_passHourOf_52 rfl rfl, w_getfield (cut := ct [35]) (pc' := 56) rfl dX8_passHourOf_53 rfl (q_X8_f56 P), w_invoke (inv := iv_X8_passHourOf cy P) (kd := 0) (f := 322) (g := sp_X0_goDown cy P) (cut := ct [35]) rfl dX8_passHourOf_56 rfl (by decide) rfl, w_return (cut := ct [35]) rfl dX8_passHourOf_59 rfl, rsum, cg_int, cg_ref, cg_null, nby0, strd, mStr, onAL, true_imp_iff, false_imp_iff, not_true_eq_false, not_false_eq_true, Classical.not_not, eq_self, e10, e01, em1, Int32.reduceLT, Int32.reduceLE, onBoat, onGale, onOut, onPort, onRep, onWarn, yn, mI, mS, b0, okA, rcvd, nb0, nb1, ini, List.map_cons, List.map_nil, List.replicate_zero, List.replicate_succ, List.append_nil, ldI, ldA, incK, getK, putK, oldK, castK, inv1, nwO, nwA, nwR, alen, ald, bald, ast, lald, last, rald, rast, goTo, nth, sto, setN, popN, okv, cat1_int, cat1_ref, cat1_null, cat1_rf, va_rf, hup_same, hup_hup, List.length_cons, List.length_nil, List.nil_append, List.cons_append, Option.toList, true_and, and_true, Nat.reduceAdd, Nat.reduceSub, Nat.reduceLT, Nat.reduceLeDiff, Nat.zero_le, Nat.sub_zero, Nat.zero_lt_succ, Nat.lt_add_left_iff_pos, Nat.succ_lt_succ_iff, hb, sp_X0_sailOrStay]
        refine ⟨fun hf => ?_, fun hf => ?_⟩
        · rw [if_pos (fearsB_iff.mpr hf)] at hK1
          have hC2 := CXr_boat (g := upd (upd (M1 35) (8 * i + 3) 0) (8 * i + 7) (M1 35 (8 * i + 7) + 1)) hC1 hi hkn (by rw [pk_un (by omega), pk_un (by omega)]; exact hkv) (fun j hj => by rw [pk_un (by omega), pk_un (by omega)])
          have e9 : oBt (setR M1 35 (upd (upd (M1 35) (8 * i + 3) 0) (8 * i + 7) (M1 35 (8 * i + 7) + 1))) (pA (prt M i)) i = oBoat (pA (prt M i)) (M1 35 (8 * i + 1)) (M1 35 (8 * i + 2)) 0 (-1) (M1 35 (8 * i + 5)) (M1 35 (8 * i + 6)) (M1 35 (8 * i + 7) + 1) := by
            simp [oBt, hrC, setR, upd]
          rw [e9] at hC2
          exact st3 _ (setR M1 35 (upd (upd (M1 35) (8 * i + 3) 0) (8 * i + 7) (M1 35 (8 * i + 7) + 1))) h23 (by rw [setR_same, pk_un (by omega), pk_un (by omega)]; exact h35) (by rw [hup_ne _ _ (kne hx1 hb (by intro z; cases z))]; exact hx1) hC2 hK1
        · rw [if_neg (fun z => hf (fearsB_iff.mp z))] at hK1
          have hC2 := CXr_boat (g := upd (upd (M1 35) (8 * i + 3) 2) (8 * i + 6) (M1 35 (8 * i + 6) + 1)) hC1 hi hkn (by rw [pk_un (by omega), pk_un (by omega)]; exact hkv) (fun j hj => by rw [pk_un (by omega), pk_un (by omega)])
          have e9 : oBt (setR M1 35 (upd (upd (M1 35) (8 * i + 3) 2) (8 * i + 6) (M1 35 (8 * i + 6) + 1))) (pA (prt M i)) i = oBoat (pA (prt M i)) (M1 35 (8 * i + 1)) (M1 35 (8 * i + 2)) 2 (hrC M1 i + M1 35 (8 * i + 5)) (M1 35 (8 * i + 5)) (M1 35 (8 * i + 6) + 1) (M1 35 (8 * i + 7)) := by
            have : hrC M1 i = M1 35 (8 * i + 4) := h.2.trans hs2.symm
            rw [this]
            simp [oBt, hrC, setR, upd]
          rw [e9] at hC2
          exact st3 _ (setR M1 35 (upd (upd (M1 35) (8 * i + 3) 2) (8 * i + 6) (M1 35 (8 * i + 6) + 1))) h23 (by rw [setR_same, pk_un (by omega), pk_un (by omega)]; exact h35) (by rw [hup_ne _ _ (kne hx1 hb (by intro z; cases z))]; exact hx1) hC2 hK1
      · rw [if_neg (fun z => h ⟨z.1, by unfold hrC; rw [z.1, if_neg (by decide), if_neg (by decide)]; exact z.2⟩)] at hK1
        exact st3 σ1 M1 h23 h35 hx1 hC1 hK1
    obtain ⟨la, hkn, hkv, hb, hp⟩ := bt9 hC rfl
    unfold goM homeM at hK
    dsimp only at hK
    refine wp_of_S hJ (ct [8]) 400 _ _ _ _ _ _ ?_
    simp only [w_aload_n (cut := ct [8]) (pc' := 1) (i := 1) rfl dX8_passHourOf_0 rfl rfl, w_aload_n (cut := ct [8]) (pc' := 2) (i := 0) rfl dX8_passHourOf_1 rfl rfl, w_getfield (cut := ct [8]) (pc' := 5) rfl dX8_passHourOf_2 rfl (q_X8_f56 P), w_invoke (inv := iv_X8_passHourOf cy P) (kd := 0) (f := 305) (g := sp_X0_comeHomeIfDue cy P) (cut := ct [8]) rfl dX8_passHourOf_5 rfl (by decide) rfl, w_cut (cut := ct [8]) (pc := 8) rfl, w_aload_n (cut := ct [8]) (pc' := 10) (i := 0) rfl dX8_passHourOf_9 rfl rfl, w_getfield (cut := ct [8]) (pc' := 13) rfl dX8_passHourOf_10 rfl (q_X8_f56 P), w_invoke (inv := iv_X8_passHourOf cy P) (kd := 0) (f := 308) (g := sp_X0_isToSailAt cy P) (cut := ct [8]) rfl dX8_passHourOf_13 rfl (by decide) rfl, w_if_eq (cut := ct [8]) (pc' := 19) (t := 35) rfl dX8_passHourOf_16 rfl (by decide) rfl, w_aload_n (cut := ct [8]) (pc' := 20) (i := 1) rfl dX8_passHourOf_19 rfl rfl, w_aload_n (cut := ct [8]) (pc' := 21) (i := 0) rfl dX8_passHourOf_20 rfl rfl, w_aload_n (cut := ct [8]) (pc' := 22) (i := 1) rfl dX8_passHourOf_21 rfl rfl, w_getfield (cut := ct [8]) (pc' := 25) rfl dX8_passHourOf_22 rfl (q_X8_f311 P), w_aload_n (cut := ct [8]) (pc' := 26) (i := 0) rfl dX8_passHourOf_25 rfl rfl, w_getfield (cut := ct [8]) (pc' := 29) rfl dX8_passHourOf_26 rfl (q_X8_f56 P), w_invoke (inv := iv_X8_passHourOf cy P) (kd := 0) (f := 185) (g := sp_X8_flagsSeen cy P) (cut := ct [8]) rfl dX8_passHourOf_29 rfl (by decide) rfl, w_invoke (inv := iv_X8_passHourOf cy P) (kd := 0) (f := 315) (g := sp_X0_sailOrStay cy P) (cut := ct [8]) rfl dX8_passHourOf_32 rfl (by decide) rfl, w_aload_n (cut := ct [8]) (pc' := 36) (i := 1) rfl dX8_passHourOf_35 rfl rfl, w_getfield (cut := ct [8]) (pc' := 39) rfl dX8_passHourOf_36 rfl (q_X8_f217 P), w_iconst (cut := ct [8]) (pc' := 40) (v := 2) rfl dX8_passHourOf_39 rfl rfl, w_icmp_ne (cut := ct [8]) (pc' := 43) (t := 59) rfl dX8_passHourOf_40 rfl (by decide) rfl, w_aload_n (cut := ct [8]) (pc' := 44) (i := 0) rfl dX8_passHourOf_43 rfl rfl, w_aload_n (cut := ct [8]) (pc' := 45) (i := 1) rfl dX8_passHourOf_44 rfl rfl, w_invoke (inv := iv_X8_passHourOf cy P) (kd := 0) (f := 318) (g := sp_X8_isGaleTooStrong cy P) (cut := ct [8]) rfl dX8_passHourOf_45 rfl (by decide) rfl, w_if_eq (cut := ct [8]) (pc' := 51) (t := 59) rfl dX8_passHourOf_48 rfl (by decide) rfl, w_aload_n (cut := ct [8]) (pc' := 52) (i := 1) rfl dX8_passHourOf_51 rfl rfl, w_aload_n (cut := ct [8]) (pc' := 53) (i := 0) rfl dX8_passHourOf_52 rfl rfl, w_getfield (cut := ct [8]) (pc' := 56) rfl dX8_passHourOf_53 rfl (q_X8_f56 P), w_invoke (inv := iv_X8_passHourOf cy P) (kd := 0) (f := 322) (g := sp_X0_goDown cy P) (cut := ct [8]) rfl dX8_passHourOf_56 rfl (by decide) rfl, w_return (cut := ct [8]) rfl dX8_passHourOf_59 rfl, rsum, cg_int, cg_ref, cg_null, nby0, strd, mStr, onAL, true_imp_iff, false_imp_iff, not_true_eq_false, not_false_eq_true, Classical.not_not, eq_self, e10, e01, em1, Int32.reduceLT, Int32.reduceLE, onBoat, onGale, onOut, onPort, onRep, onWarn, yn, mI, mS, b0, okA, rcvd, nb0, nb1, ini, List.map_cons, List.map_nil, List.replicate_zero, List.replicate_succ, List.append_nil, ldI, ldA, incK, getK, putK, oldK, castK, inv1, nwO, nwA, nwR, alen, ald, bald, ast, lald, last, rald, rast, goTo, nth, sto, setN, popN, okv, cat1_int, cat1_ref, cat1_null, cat1_rf, va_rf, hup_same, hup_hup, List.length_cons, List.length_nil, List.nil_append, List.cons_append, Option.toList, true_and, and_true, Nat.reduceAdd, Nat.reduceSub, Nat.reduceLT, Nat.reduceLeDiff, Nat.zero_le, Nat.sub_zero, Nat.zero_lt_succ, Nat.lt_add_left_iff_pos, Nat.succ_lt_succ_iff, sp_X8_passHourOf, hx, hb, sp_X0_comeHomeIfDue]
    refine ⟨fun h => ?_, fun h => ?_⟩
    · have hs1 : M 35 (8 * i + 3) = 2 := h.1
      have hs2 : M 35 (8 * i + 4) + M 35 (8 * i + 5) ≤ nI (N 1) := by
        have := h.2
        unfold hrC at this
        rw [hs1, if_neg (by decide), if_pos rfl] at this
        exact this
      rw [if_pos ⟨hs1, hs2⟩] at hK
      have hC2 := CXr_boat (g := upd (M 35) (8 * i + 3) 0) hC hi hkn (by rw [pk_un (by omega)]; exact hkv) (fun j hj => by rw [pk_un (by omega)])
      have e9 : oBt (setR M 35 (upd (M 35) (8 * i + 3) 0)) (pA (prt M i)) i = oBoat (pA (prt M i)) (M 35 (8 * i + 1)) (M 35 (8 * i + 2)) 0 (-1) (M 35 (8 * i + 5)) (M 35 (8 * i + 6)) (M 35 (8 * i + 7)) := by
        simp [oBt, hrC, setR, upd]
      rw [e9] at hC2
      exact st2 _ (setR M 35 (upd (M 35) (8 * i + 3) 0)) rfl (by rw [setR_same, pk_un (by omega)]) (by rw [hup_ne _ _ (kne hx hb (by intro z; cases z))]; exact hx) hC2 hK
    · rw [if_neg (fun z => h ⟨z.1, by unfold hrC; rw [z.1, if_neg (by decide), if_pos rfl]; exact z.2⟩)] at hK
      exact st2 σ M rfl rfl hx hC hK
  · exact hT.elim
set_option maxRecDepth 100000 in
theorem con_X8_passHourOf {l : Launch} {s0 : State} {D : va_G} {cy : Nat → ClassId} {P : Pm} {a0 : Array Value} (hE : E0 l s0 D cy P a0) : Con l s0 D yX8_passHourOf (Cond.code yX8_passHourOf cX8_passHourOf 2 none) 4 89 (sp_X8_passHourOf cy P) := by
  refine con_of (clok_X8 hE _) (by decide) (fun as σ K KX h => okA_cat h.1) (Nat.le_of_ble_eq_true rfl) ?_ ?_ (m_X8_passHourOf cy P hE.2.2.2.1)
  · intro p e R s m args below meth c A Q hfr hlo hW B kd j g hg
    unfold iv_X8_passHourOf at hg
    split at hg
    · cases hg; exact inv_V (ci := 1) B (con_X0_comeHomeIfDue hE) rfl (fun as σ K KX h => rcvd_spec h.2.1) (cw_mk hE hW tw_806 rfl tw_27 ⟨by decide, by decide⟩ rfl) rfl (wd hE hW tw_803 rfl) (wd hE hW tw_804 rfl) (wd hE hW tw_805 rfl) (by rw [hfr]; decide) (by rw [hlo]; decide)
    · cases hg; exact inv_V (ci := 1) B (con_X0_isToSailAt hE) rfl (fun as σ K KX h => rcvd_spec h.2.1) (cw_mk hE hW tw_814 rfl tw_27 ⟨by decide, by decide⟩ rfl) rfl (wd hE hW tw_811 rfl) (wd hE hW tw_812 rfl) (wd hE hW tw_813 rfl) (by rw [hfr]; decide) (by rw [hlo]; decide)
    · cases hg; exact inv_V (ci := 9) B (con_X8_flagsSeen hE) rfl (fun as σ K KX h => rcvd_spec h.2.1) (cw_mk hE hW tw_818 rfl tw_1 ⟨by decide, by decide⟩ rfl) rfl (wd hE hW tw_815 rfl) (wd hE hW tw_817 rfl) (wd hE hW (List.mem_of_getElem? (i := 22) (by decide +kernel)) rfl) (by rw [hfr]; decide) (by rw [hlo]; decide)
    · cases hg; exact inv_V (ci := 1) B (con_X0_sailOrStay hE) rfl (fun as σ K KX h => rcvd_spec h.2.1) (cw_mk hE hW tw_835 rfl tw_27 ⟨by decide, by decide⟩ rfl) rfl (wd hE hW tw_832 rfl) (wd hE hW tw_833 rfl) (wd hE hW tw_834 rfl) (by rw [hfr]; decide) (by rw [hlo]; decide)
    · cases hg; exact inv_V (ci := 9) B (con_X8_isGaleTooStrong hE) rfl (fun as σ K KX h => rcvd_spec h.2.1) (cw_mk hE hW tw_843 rfl tw_1 ⟨by decide, by decide⟩ rfl) rfl (wd hE hW tw_840 rfl) (wd hE hW tw_842 rfl) (wd hE hW (List.mem_of_getElem? (i := 24) (by decide +kernel)) rfl) (by rw [hfr]; decide) (by rw [hlo]; decide)
    · cases hg; exact inv_V (ci := 1) B (con_X0_goDown hE) rfl (fun as σ K KX h => rcvd_spec h.2.1) (cw_mk hE hW tw_851 rfl tw_27 ⟨by decide, by decide⟩ rfl) rfl (wd hE hW tw_848 rfl) (wd hE hW tw_849 rfl) (wd hE hW tw_850 rfl) (by rw [hfr]; decide) (by rw [hlo]; decide)
    · cases hg
  · intro p e R s m args below meth c A K KX hfr hlo hW B htab
    exact xok_none htab
