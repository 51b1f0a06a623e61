/-! ===== StormFlags: an hour, hours ===== -/
def NB (N : Nat → Nat) : Prop := N 1 ≤ 2000 ∧ N 6 ≤ 12 ∧ N 12 ≤ 300 ∧ N 17 ≤ 8 ∧ N 19 ≤ 400 ∧ N 26 ≤ 200 ∧ N 34 ≤ 30 ∧ N 36 ≤ 12
def tickM (S : Sx) : Sx := (cu S.1 1 (S.1 1 + 1), S.2)
def offiM (S : Sx) : Sx := if 2 < nI (S.1 1) ∧ nI (S.1 1) - nI (S.1 1) / 8 * 8 = 2 then offM ((nI (S.1 1) - 2) / 8) S 4 else S
def boatsM (S : Sx) : Nat → Sx
  | 0 => S
  | i + 1 => goM (boatsM S i) i
def hourM (S : Sx) : Sx := boatsM (offiM (tickM S)) (S.1 36)
def hrsM : Nat → Sx → Sx
  | 0, S => S
  | n + 1, S => if S.1 1 < 2000 then hrsM n (hourM S) else S
theorem boatsM_1 {S : Sx} : ∀ i, (boatsM S i).1 = S.1
  | 0 => rfl
  | i + 1 => boatsM_1 i
theorem goM_23 {S : Sx} {i s : Nat} (h : s ≠ 35) : (goM S i).2 s = S.2 s := by
  have e1 : ∀ (M : Ms), homeM (nI (S.1 1)) i M s = M s := fun M => by
    unfold homeM; split
    · exact setR_ne h
    · rfl
  have e2 : ∀ (M : Ms), sailM (S.1 26) (nI (S.1 1)) (prt S.2 i) i M s = M s := fun M => by
    unfold sailM; split
    · split
      · exact setR_ne h
      · exact setR_ne h
    · rfl
  have e3 : ∀ (M : Ms), downM (S.1 34) (nI (S.1 1)) (prt S.2 i) i M s = M s := fun M => by
    unfold downM; split
    · exact setR_ne h
    · rfl
  unfold goM
  dsimp only
  rw [e3, e2, e1]
theorem offiM_n {S : Sx} : (∀ s, s ≠ 26 → (offiM S).1 s = S.1 s) ∧ (∀ s, s ≠ 25 → (offiM S).2 s = S.2 s) ∧ (S.1 26 ≤ 200 → (offiM S).1 26 ≤ 200) := by
  unfold offiM
  split
  · exact offM_n 4
  · exact ⟨fun _ _ => rfl, fun _ _ => rfl, fun h => h⟩
theorem hourM_1 {S : Sx} : (hourM S).1 = (offiM (tickM S)).1 := boatsM_1 _
theorem tick_ne {S : Sx} {s : Nat} (h : s ≠ 1) : (tickM S).1 s = S.1 s := cu_ne h
theorem tick_1 {S : Sx} : (tickM S).1 1 = S.1 1 + 1 := by
  show cu S.1 1 (S.1 1 + 1) 1 = S.1 1 + 1
  rw [cu_same]
theorem NB_offi {S : Sx} (h : NB S.1) : NB (offiM S).1 := by
  obtain ⟨a1, a2, a3⟩ := offiM_n (S := S)
  unfold NB at h ⊢
  rw [a1 1 (by decide), a1 6 (by decide), a1 12 (by decide), a1 17 (by decide), a1 19 (by decide), a1 34 (by decide), a1 36 (by decide)]
  exact ⟨h.1, h.2.1, h.2.2.1, h.2.2.2.1, h.2.2.2.2.1, a3 h.2.2.2.2.2.1, h.2.2.2.2.2.2⟩
theorem NB_tick {S : Sx} (h : NB S.1) (h2 : S.1 1 < 2000) : NB (tickM S).1 := by
  unfold NB at h ⊢
  rw [tick_1, tick_ne (by decide), tick_ne (by decide), tick_ne (by decide), tick_ne (by decide), tick_ne (by decide), tick_ne (by decide), tick_ne (by decide)]
  exact ⟨by omega, h.2⟩
theorem NB_hour {S : Sx} (h : NB S.1) (h2 : S.1 1 < 2000) : NB (hourM S).1 ∧ (hourM S).1 1 = S.1 1 + 1 := by
  rw [hourM_1]
  exact ⟨NB_offi (NB_tick h h2), by rw [offiM_n.1 1 (by decide), tick_1]⟩
theorem NB_hrs : ∀ {n : Nat} {S : Sx}, NB S.1 → NB (hrsM n S).1
  | 0, S, h => h
  | n + 1, S, h => by
    unfold hrsM
    split
    · rename_i h2
      exact NB_hrs (NB_hour h h2).1
    · exact h
def offc (h : Nat) : Nat := (h + 6) / 8
def nowOf (σ : Hp) (x : Nat) : Nat := match σ x with
  | some (.inr (9, [_, _, _, _, _, _, _, _, _, _, .int n])) => n.toNatClampNeg
  | _ => 0
def bHour : List Value → Hp → Nat × Nat := fun as σ => match as with
  | .ref x :: _ => (64 * (offc (nowOf σ x + 1) - offc (nowOf σ x)), 7968 * (offc (nowOf σ x + 1) - offc (nowOf σ x)))
  | _ => (0, 0)
theorem off_hour {n : Nat} (hn : n ≤ 2000) (h : 2 < nI n ∧ nI n - nI n / 8 * 8 = 2) : 1 ≤ offc n - offc (n - 1) := by
  obtain ⟨h1, h2⟩ := h
  rw [show (8 : Int32) = nI 8 from rfl, pk_rem (by omega) (by decide) (by decide), show (2 : Int32) = nI 2 from rfl, nI_eq (by omega) (by decide)] at h2
  rw [show (2 : Int32) = nI 2 from rfl, nI_ltI (by decide) (by omega)] at h1
  unfold offc
  omega
theorem CX_tick {cy : Nat → ClassId} {P : Pm} {σ : Hp} {N : Nat → Nat} {M : Ms} {co gb gl wi : Int32} {v : Nat} {t : Nat} {tb : Nat} {pl : Int32} {f : Nat → Int32} {lp : Nat} {ep : Nat} {pA : Nat → Nat} {rA : Nat → Nat} {lw : Nat} {ew : Nat} {wA : Nat → Nat} {lg : Nat} {eg : Nat} {gA : Nat → Nat} {lb : Nat} {eb : Nat} {bA : Nat → Nat} {o : Nat} {b1 : Nat} {a1 : BA} {F : Nat → Int32} {C : Nat → Int32} {Kd : Nat → Nat → Int32} {Nm : Nat → Nat → Int32} {b2 : Nat} {a2 : BA} {s2 : Nat} {F2 : Nat → Int32} {C2 : Nat → Int32} {K2 : Nat → Nat → Int32} {N2 : Nat → Nat → Int32} (h : CXr cy P σ N M co gb gl wi t tb pl f lp ep pA rA lw ew wA lg eg gA lb eb bA o b1 a1 F C Kd Nm b2 a2 s2 F2 C2 K2 N2) : CXr cy P σ (cu N 1 v) M co gb gl wi t tb pl f lp ep pA rA lw ew wA lg eg gA lb eb bA o b1 a1 F C Kd Nm b2 a2 s2 F2 C2 K2 N2 := h
def iv_X8_passHour (cy : Nat → ClassId) (P : Pm) : Nat → Nat → Option Sg
  | 0, 257 => some (sp_X8_isOfficeHour cy P)
  | 0, 261 => some (sp_X8_doOfficeWork cy P)
  | 0, 89 => some (sp_Jx4a65c_size_8abf5 cy P)
  | 0, 194 => some (sp_Jx4a65c_get_915e3 cy P)
  | 0, 264 => some (sp_X8_passHourOf cy P)
  | _, _ => none
def sp_X8_passHour (cy : Nat → ClassId) (P : Pm) : Sg := mI 9 [] bHour (fun as σ K _ => match as with
  | [.ref x] => ∃ N M, CX cy P σ x N M ∧ NB N ∧ N 1 < 2000 ∧ ∀ σ', CX cy P σ' x (hourM (N, M)).1 (hourM (N, M)).2 → K none σ'
  | _ => False)
set_option maxRecDepth 8000 in
set_option maxHeartbeats 8000000 in
theorem m_X8_passHour (cy : Nat → ClassId) (P : Pm) (hP : PmOK P) : MOK (cl_X8 P) cy P.2.1 obj cX8_passHour (iv_X8_passHour cy P) (fun _ => none) (fun _ => some none) (none) 2 (sp_X8_passHour cy P) := by
  intro as σ K KX J hlen hT hJ hOld
  obtain ⟨-, -, hT⟩ := hT
  split at hT
  · rename_i x
    obtain ⟨N, M, hC, hN, hN1, hK⟩ := hT
    have hNS := NB_tick (S := (N, M)) hN hN1
    have key : ∀ (m i : Nat) (σ1 : Hp) (rc rs : Nat), N 36 - i = m → i ≤ N 36 → CX cy P σ1 x (boatsM (offiM (tickM (N, M))) i).1 (boatsM (offiM (tickM (N, M))) i).2 → J 23 [some (.ref x), some (.int (nI i))] [] σ1 rc rs := by
      intro m
      have hNo := NB_offi hNS
      have h36 : (offiM (tickM (N, M))).1 36 = N 36 := by rw [offiM_n.1 36 (by decide), tick_ne (by decide)]
      unfold hourM at hK
      generalize offiM (tickM (N, M)) = S at hNo h36 hK ⊢
      induction m with
      | zero =>
        intro i σ1 rc rs hm hi hC1
        have hi2 : i = N 36 := by omega
        obtain ⟨co, gb, gl, wi, t, tb, pl, f, lp, ep, pA, rA, lw, ew, wA, lg, eg, gA, lb, eb, bA, o, b1, a1, F, C, Kd, Nm, b2, a2, s2, F2, C2, K2, N2, hx, hC2⟩ := id hC1
        obtain ⟨hT, hf, hP, hW, hG, hB, ho, h1, hR, h2, hD, hL⟩ := id hC2
        obtain ⟨mc, hq⟩ := AL_n hB.1
        rw [boatsM_1, h36, ← hi2] at hq
        refine hJ (ct [23]) 400 _ _ _ _ _ _ ((s_iload_n (pc' := 24) (i := 1) dX8_passHour_23 rfl rfl).mpr ?_)
        simp only [w_aload_n (cut := ct [23]) (pc' := 1) (i := 0) rfl dX8_passHour_0 rfl rfl, w_dup (cut := ct [23]) (pc' := 2) rfl dX8_passHour_1 rfl, w_getfield (cut := ct [23]) (pc' := 5) rfl dX8_passHour_2 rfl (q_X8_f56 P), w_iconst (cut := ct [23]) (pc' := 6) (v := 1) rfl dX8_passHour_5 rfl rfl, w_iadd (cut := ct [23]) (pc' := 7) rfl dX8_passHour_6 rfl, w_putfield (cut := ct [23]) (pc' := 10) rfl dX8_passHour_7 rfl (q_X8_f56 P), w_aload_n (cut := ct [23]) (pc' := 11) (i := 0) rfl dX8_passHour_10 rfl rfl, w_invoke (inv := iv_X8_passHour cy P) (kd := 0) (f := 257) (g := sp_X8_isOfficeHour cy P) (cut := ct [23]) rfl dX8_passHour_11 rfl (by decide) rfl, w_if_eq (cut := ct [23]) (pc' := 17) (t := 21) rfl dX8_passHour_14 rfl (by decide) rfl, w_aload_n (cut := ct [23]) (pc' := 18) (i := 0) rfl dX8_passHour_17 rfl rfl, w_invoke (inv := iv_X8_passHour cy P) (kd := 0) (f := 261) (g := sp_X8_doOfficeWork cy P) (cut := ct [23]) rfl dX8_passHour_18 rfl (by decide) rfl, w_iconst (cut := ct [23]) (pc' := 22) (v := 0) rfl dX8_passHour_21 rfl rfl, w_istore_n (cut := ct [23]) (pc' := 23) (i := 1) rfl dX8_passHour_22 rfl rfl, w_cut (cut := ct [23]) (pc := 23) rfl, w_aload_n (cut := ct [23]) (pc' := 25) (i := 0) rfl dX8_passHour_24 rfl rfl, w_getfield (cut := ct [23]) (pc' := 28) rfl dX8_passHour_25 rfl (q_X8_f29 P), w_invoke (inv := iv_X8_passHour cy P) (kd := 0) (f := 89) (g := sp_Jx4a65c_size_8abf5 cy P) (cut := ct [23]) rfl dX8_passHour_28 rfl (by decide) rfl, w_icmp_ge (cut := ct [23]) (pc' := 34) (t := 55) rfl dX8_passHour_31 rfl (by decide) rfl, w_aload_n (cut := ct [23]) (pc' := 35) (i := 0) rfl dX8_passHour_34 rfl rfl, w_aload_n (cut := ct [23]) (pc' := 36) (i := 0) rfl dX8_passHour_35 rfl rfl, w_getfield (cut := ct [23]) (pc' := 39) rfl dX8_passHour_36 rfl (q_X8_f29 P), w_iload_n (cut := ct [23]) (pc' := 40) (i := 1) rfl dX8_passHour_39 rfl rfl, w_invoke (inv := iv_X8_passHour cy P) (kd := 0) (f := 194) (g := sp_Jx4a65c_get_915e3 cy P) (cut := ct [23]) rfl dX8_passHour_40 rfl (by decide) rfl, w_checkcast (CL := cl_X8 P) (cut := ct [23]) (pc' := 46) rfl dX8_passHour_43 rfl, q_X8_c166 P, w_invoke (inv := iv_X8_passHour cy P) (kd := 0) (f := 264) (g := sp_X8_passHourOf cy P) (cut := ct [23]) rfl dX8_passHour_46 rfl (by decide) rfl, w_iinc (cut := ct [23]) (pc' := 52) (d := 1) rfl dX8_passHour_49 rfl rfl, w_goto (cut := ct [23]) (t := 23) rfl dX8_passHour_52 (by decide) rfl, w_return (cut := ct [23]) rfl dX8_passHour_55 rfl, rsum, cg_int, cg_ref, cg_null, nby0, strd, mStr, onAL, true_imp_iff, false_imp_iff, not_true_eq_false, not_false_eq_true, Classical.not_not, eq_self, e10, e01, em1, Int32.reduceLT, Int32.reduceLE, onBoat, onGale, onOut, onPort, onRep, onWarn, yn, mI, mS, b0, okA, rcvd, nb0, nb1, ini, List.map_cons, List.map_nil, List.replicate_zero, List.replicate_succ, List.append_nil, ldI, ldA, incK, getK, putK, oldK, castK, inv1, nwO, nwA, nwR, alen, ald, bald, ast, lald, last, rald, rast, goTo, nth, sto, setN, popN, okv, cat1_int, cat1_ref, cat1_null, cat1_rf, va_rf, hup_same, hup_hup, List.length_cons, List.length_nil, List.nil_append, List.cons_append, Option.toList, true_and, and_true, Nat.reduceAdd, Nat.reduceSub, Nat.reduceLT, Nat.reduceLeDiff, Nat.zero_le, Nat.sub_zero, Nat.zero_lt_succ, Nat.lt_add_left_iff_pos, Nat.succ_lt_succ_iff, sp_Jx4a65c_size_8abf5, hx, hq, nI_self]
        exact hK σ1 (by show CX cy P σ1 x (boatsM S (N 36)).1 (boatsM S (N 36)).2; rw [← hi2]; exact hC1)
      | succ m ih =>
        intro i σ1 rc rs hm hi hC1
        have ih2 := fun σ1 => ih (i + 1) σ1
        rw [boatsM] at ih2
        have e1 := boatsM_1 (S := S) i
        generalize boatsM S i = S2 at hC1 ih2 e1
        obtain ⟨co, gb, gl, wi, t, tb, pl, f, lp, ep, pA, rA, lw, ew, wA, lg, eg, gA, lb, eb, bA, o, b1, a1, F, C, Kd, Nm, b2, a2, s2, F2, C2, K2, N2, hx, hC2⟩ := id hC1
        obtain ⟨hT, hf, hP, hW, hG, hB, ho, h1, hR, h2, hD, hL⟩ := id hC2
        have h36b : S2.1 36 = N 36 := by rw [e1, h36]
        obtain ⟨mc, f9, hq, hel, hf9, g0, g1, g2, g3, g4⟩ := AL_at hB.1 (i := i) (by omega)
        obtain ⟨k, hk, hk2, hb⟩ := hB.2.1 i (by omega)
        have hnx : nI i + 1 = nI (i + 1) := nI_1 i
        refine hJ (ct [23]) 400 _ _ _ _ _ _ ((s_iload_n (pc' := 24) (i := 1) dX8_passHour_23 rfl rfl).mpr ?_)
        simp only [w_aload_n (cut := ct [23]) (pc' := 1) (i := 0) rfl dX8_passHour_0 rfl rfl, w_dup (cut := ct [23]) (pc' := 2) rfl dX8_passHour_1 rfl, w_getfield (cut := ct [23]) (pc' := 5) rfl dX8_passHour_2 rfl (q_X8_f56 P), w_iconst (cut := ct [23]) (pc' := 6) (v := 1) rfl dX8_passHour_5 rfl rfl, w_iadd (cut := ct [23]) (pc' := 7) rfl dX8_passHour_6 rfl, w_putfield (cut := ct [23]) (pc' := 10) rfl dX8_passHour_7 rfl (q_X8_f56 P), w_aload_n (cut := ct [23]) (pc' := 11) (i := 0) rfl dX8_passHour_10 rfl rfl, w_invoke (inv := iv_X8_passHour cy P) (kd := 0) (f := 257) (g := sp_X8_isOfficeHour cy P) (cut := ct [23]) rfl dX8_passHour_11 rfl (by decide) rfl, w_if_eq (cut := ct [23]) (pc' := 17) (t := 21) rfl dX8_passHour_14 rfl (by decide) rfl, w_aload_n (cut := ct [23]) (pc' := 18) (i := 0) rfl dX8_passHour_17 rfl rfl, w_invoke (inv := iv_X8_passHour cy P) (kd := 0) (f := 261) (g := sp_X8_doOfficeWork cy P) (cut := ct [23]) rfl dX8_passHour_18 rfl (by decide) rfl, w_iconst (cut := ct [23]) (pc' := 22) (v := 0) rfl dX8_passHour_21 rfl rfl, w_istore_n (cut := ct [23]) (pc' := 23) (i := 1) rfl dX8_passHour_22 rfl rfl, w_cut (cut := ct [23]) (pc := 23) rfl, w_aload_n (cut := ct [23]) (pc' := 25) (i := 0) rfl dX8_passHour_24 rfl rfl, w_getfield (cut := ct [23]) (pc' := 28) rfl dX8_passHour_25 rfl (q_X8_f29 P), w_invoke (inv := iv_X8_passHour cy P) (kd := 0) (f := 89) (g := sp_Jx4a65c_size_8abf5 cy P) (cut := ct [23]) rfl dX8_passHour_28 rfl (by decide) rfl, w_icmp_ge (cut := ct [23]) (pc' := 34) (t := 55) rfl dX8_passHour_31 rfl (by decide) rfl, w_aload_n (cut := ct [23]) (pc' := 35) (i := 0) rfl dX8_passHour_34 rfl rfl, w_aload_n (cut := ct [23]) (pc' := 36) (i := 0) rfl dX8_passHour_35 rfl rfl, w_getfield (cut := ct [23]) (pc' := 39) rfl dX8_passHour_36 rfl (q_X8_f29 P), w_iload_n (cut := ct [23]) (pc' := 40) (i := 1) rfl dX8_passHour_39 rfl rfl, w_invoke (inv := iv_X8_passHour cy P) (kd := 0) (f := 194) (g := sp_Jx4a65c_get_915e3 cy P) (cut := ct [23]) rfl dX8_passHour_40 rfl (by decide) rfl, w_checkcast (CL := cl_X8 P) (cut := ct [23]) (pc' := 46) rfl dX8_passHour_43 rfl, q_X8_c166 P, w_invoke (inv := iv_X8_passHour cy P) (kd := 0) (f := 264) (g := sp_X8_passHourOf cy P) (cut := ct [23]) rfl dX8_passHour_46 rfl (by decide) rfl, w_iinc (cut := ct [23]) (pc' := 52) (d := 1) rfl dX8_passHour_49 rfl rfl, w_goto (cut := ct [23]) (t := 23) rfl dX8_passHour_52 (by decide) rfl, w_return (cut := ct [23]) rfl dX8_passHour_55 rfl, rsum, cg_int, cg_ref, cg_null, nby0, strd, mStr, onAL, true_imp_iff, false_imp_iff, not_true_eq_false, not_false_eq_true, Classical.not_not, eq_self, e10, e01, em1, Int32.reduceLT, Int32.reduceLE, onBoat, onGale, onOut, onPort, onRep, onWarn, yn, mI, mS, b0, okA, rcvd, nb0, nb1, ini, List.map_cons, List.map_nil, List.replicate_zero, List.replicate_succ, List.append_nil, ldI, ldA, incK, getK, putK, oldK, castK, inv1, nwO, nwA, nwR, alen, ald, bald, ast, lald, last, rald, rast, goTo, nth, sto, setN, popN, okv, cat1_int, cat1_ref, cat1_null, cat1_rf, va_rf, hup_same, hup_hup, List.length_cons, List.length_nil, List.nil_append, List.cons_append, Option.toList, true_and, and_true, Nat.reduceAdd, Nat.reduceSub, Nat.reduceLT, Nat.reduceLeDiff, Nat.zero_le, Nat.sub_zero, Nat.zero_lt_succ, Nat.lt_add_left_iff_pos, Nat.succ_lt_succ_iff, sp_Jx4a65c_size_8abf5, sp_Jx4a65c_get_915e3, elAt, hx, hq, hel, hf9, g0, g1, g2, g3, g4, hnx, hb, sp_X8_passHourOf]
        refine ⟨S2.1, S2.2, co, gb, gl, wi, t, tb, pl, f, lp, ep, pA, rA, lw, ew, wA, lg, eg, gA, lb, eb, bA, o, b1, a1, F, C, Kd, Nm, b2, a2, s2, F2, C2, K2, N2, i, rfl, hC2, by omega, by rw [e1]; exact hNo.2.1, rfl, fun σ' hC3 => ih2 σ' _ _ (by omega) (by omega) hC3⟩
    obtain ⟨co, gb, gl, wi, t, tb, pl, f, lp, ep, pA, rA, lw, ew, wA, lg, eg, gA, lb, eb, bA, o, b1, a1, F, C, Kd, Nm, b2, a2, s2, F2, C2, K2, N2, hx, hC2⟩ := id hC
    have hbH : bHour [.ref x] σ = (64 * (offc (N 1 + 1) - offc (N 1)), 7968 * (offc (N 1 + 1) - offc (N 1))) := by
      simp only [bHour, nowOf, hx, nI_clamp (show N 1 < 2 ^ 31 by omega)]
    have hC3 := CX_tick (v := N 1 + 1) (CXr_x (e' := oSF t lp lw lg lb o b1 b2 (M 23 0) (nI (N 12)) (nI (N 1 + 1))) hC2 hx)
    have hx3 := hup_same σ x (oSF t lp lw lg lb o b1 b2 (M 23 0) (nI (N 12)) (nI (N 1 + 1)))
    have hnx : nI (N 1) + 1 = nI (N 1 + 1) := nI_1 _
    have hCX3 : CX cy P (hup σ x (oSF t lp lw lg lb o b1 b2 (M 23 0) (nI (N 12)) (nI (N 1 + 1)))) x (tickM (N, M)).1 (tickM (N, M)).2 := ⟨co, gb, gl, wi, t, tb, pl, f, lp, ep, pA, rA, lw, ew, wA, lg, eg, gA, lb, eb, bA, o, b1, a1, F, C, Kd, Nm, b2, a2, s2, F2, C2, K2, N2, hx3, hC3⟩
    refine wp_of_S hJ (ct [10]) 400 _ _ _ _ _ _ ?_
    simp only [w_aload_n (cut := ct [10]) (pc' := 1) (i := 0) rfl dX8_passHour_0 rfl rfl, w_dup (cut := ct [10]) (pc' := 2) rfl dX8_passHour_1 rfl, w_getfield (cut := ct [10]) (pc' := 5) rfl dX8_passHour_2 rfl (q_X8_f56 P), w_iconst (cut := ct [10]) (pc' := 6) (v := 1) rfl dX8_passHour_5 rfl rfl, w_iadd (cut := ct [10]) (pc' := 7) rfl dX8_passHour_6 rfl, w_putfield (cut := ct [10]) (pc' := 10) rfl dX8_passHour_7 rfl (q_X8_f56 P), w_cut (cut := ct [10]) (pc := 10) rfl, w_invoke (inv := iv_X8_passHour cy P) (kd := 0) (f := 257) (g := sp_X8_isOfficeHour cy P) (cut := ct [10]) rfl dX8_passHour_11 rfl (by decide) rfl, w_if_eq (cut := ct [10]) (pc' := 17) (t := 21) rfl dX8_passHour_14 rfl (by decide) rfl, w_aload_n (cut := ct [10]) (pc' := 18) (i := 0) rfl dX8_passHour_17 rfl rfl, w_invoke (inv := iv_X8_passHour cy P) (kd := 0) (f := 261) (g := sp_X8_doOfficeWork cy P) (cut := ct [10]) rfl dX8_passHour_18 rfl (by decide) rfl, w_iconst (cut := ct [10]) (pc' := 22) (v := 0) rfl dX8_passHour_21 rfl rfl, w_istore_n (cut := ct [10]) (pc' := 23) (i := 1) rfl dX8_passHour_22 rfl rfl, w_iload_n (cut := ct [10]) (pc' := 24) (i := 1) rfl dX8_passHour_23 rfl rfl, w_aload_n (cut := ct [10]) (pc' := 25) (i := 0) rfl dX8_passHour_24 rfl rfl, w_getfield (cut := ct [10]) (pc' := 28) rfl dX8_passHour_25 rfl (q_X8_f29 P), w_invoke (inv := iv_X8_passHour cy P) (kd := 0) (f := 89) (g := sp_Jx4a65c_size_8abf5 cy P) (cut := ct [10]) rfl dX8_passHour_28 rfl (by decide) rfl, w_icmp_ge (cut := ct [10]) (pc' := 34) (t := 55) rfl dX8_passHour_31 rfl (by decide) rfl, w_aload_n (cut := ct [10]) (pc' := 35) (i := 0) rfl dX8_passHour_34 rfl rfl, w_aload_n (cut := ct [10]) (pc' := 36) (i := 0) rfl dX8_passHour_35 rfl rfl, w_getfield (cut := ct [10]) (pc' := 39) rfl dX8_passHour_36 rfl (q_X8_f29 P), w_iload_n (cut := ct [10]) (pc' := 40) (i := 1) rfl dX8_passHour_39 rfl rfl, w_invoke (inv := iv_X8_passHour cy P) (kd := 0) (f := 194) (g := sp_Jx4a65c_get_915e3 cy P) (cut := ct [10]) rfl dX8_passHour_40 rfl (by decide) rfl, w_checkcast (CL := cl_X8 P) (cut := ct [10]) (pc' := 46) rfl dX8_passHour_43 rfl, q_X8_c166 P, w_invoke (inv := iv_X8_passHour cy P) (kd := 0) (f := 264) (g := sp_X8_passHourOf cy P) (cut := ct [10]) rfl dX8_passHour_46 rfl (by decide) rfl, w_iinc (cut := ct [10]) (pc' := 52) (d := 1) rfl dX8_passHour_49 rfl rfl, w_goto (cut := ct [10]) (t := 23) rfl dX8_passHour_52 (by decide) rfl, w_return (cut := ct [10]) rfl dX8_passHour_55 rfl, rsum, cg_int, cg_ref, cg_null, nby0, strd, mStr, onAL, true_imp_iff, false_imp_iff, not_true_eq_false, not_false_eq_true, Classical.not_not, eq_self, e10, e01, em1, Int32.reduceLT, Int32.reduceLE, onBoat, onGale, onOut, onPort, onRep, onWarn, yn, mI, mS, b0, okA, rcvd, nb0, nb1, ini, List.map_cons, List.map_nil, List.replicate_zero, List.replicate_succ, List.append_nil, ldI, ldA, incK, getK, putK, oldK, castK, inv1, nwO, nwA, nwR, alen, ald, bald, ast, lald, last, rald, rast, goTo, nth, sto, setN, popN, okv, cat1_int, cat1_ref, cat1_null, cat1_rf, va_rf, hup_same, hup_hup, List.length_cons, List.length_nil, List.nil_append, List.cons_append, Option.toList, true_and, and_true, Nat.reduceAdd, Nat.reduceSub, Nat.reduceLT, Nat.reduceLeDiff, Nat.zero_le, Nat.sub_zero, Nat.zero_lt_succ, Nat.lt_add_left_iff_pos, Nat.succ_lt_succ_iff, sp_X8_passHour, hx, hnx, hbH]
    generalize hup σ x (oSF t lp lw lg lb o b1 b2 (M 23 0) (nI (N 12)) (nI (N 1 + 1))) = σ3 at hC3 hx3 hCX3 ⊢
    refine wp_of_S hJ (ct [23]) 400 _ _ _ _ _ _ ?_
    simp only [w_aload_n (cut := ct [23]) (pc' := 1) (i := 0) rfl dX8_passHour_0 rfl rfl, w_dup (cut := ct [23]) (pc' := 2) rfl dX8_passHour_1 rfl, w_getfield (cut := ct [23]) (pc' := 5) rfl dX8_passHour_2 rfl (q_X8_f56 P), w_iconst (cut := ct [23]) (pc' := 6) (v := 1) rfl dX8_passHour_5 rfl rfl, w_iadd (cut := ct [23]) (pc' := 7) rfl dX8_passHour_6 rfl, w_putfield (cut := ct [23]) (pc' := 10) rfl dX8_passHour_7 rfl (q_X8_f56 P), w_aload_n (cut := ct [23]) (pc' := 11) (i := 0) rfl dX8_passHour_10 rfl rfl, w_invoke (inv := iv_X8_passHour cy P) (kd := 0) (f := 257) (g := sp_X8_isOfficeHour cy P) (cut := ct [23]) rfl dX8_passHour_11 rfl (by decide) rfl, w_if_eq (cut := ct [23]) (pc' := 17) (t := 21) rfl dX8_passHour_14 rfl (by decide) rfl, w_aload_n (cut := ct [23]) (pc' := 18) (i := 0) rfl dX8_passHour_17 rfl rfl, w_invoke (inv := iv_X8_passHour cy P) (kd := 0) (f := 261) (g := sp_X8_doOfficeWork cy P) (cut := ct [23]) rfl dX8_passHour_18 rfl (by decide) rfl, w_iconst (cut := ct [23]) (pc' := 22) (v := 0) rfl dX8_passHour_21 rfl rfl, w_istore_n (cut := ct [23]) (pc' := 23) (i := 1) rfl dX8_passHour_22 rfl rfl, w_cut (cut := ct [23]) (pc := 23) rfl, w_aload_n (cut := ct [23]) (pc' := 25) (i := 0) rfl dX8_passHour_24 rfl rfl, w_getfield (cut := ct [23]) (pc' := 28) rfl dX8_passHour_25 rfl (q_X8_f29 P), w_invoke (inv := iv_X8_passHour cy P) (kd := 0) (f := 89) (g := sp_Jx4a65c_size_8abf5 cy P) (cut := ct [23]) rfl dX8_passHour_28 rfl (by decide) rfl, w_icmp_ge (cut := ct [23]) (pc' := 34) (t := 55) rfl dX8_passHour_31 rfl (by decide) rfl, w_aload_n (cut := ct [23]) (pc' := 35) (i := 0) rfl dX8_passHour_34 rfl rfl, w_aload_n (cut := ct [23]) (pc' := 36) (i := 0) rfl dX8_passHour_35 rfl rfl, w_getfield (cut := ct [23]) (pc' := 39) rfl dX8_passHour_36 rfl (q_X8_f29 P), w_iload_n (cut := ct [23]) (pc' := 40) (i := 1) rfl dX8_passHour_39 rfl rfl, w_invoke (inv := iv_X8_passHour cy P) (kd := 0) (f := 194) (g := sp_Jx4a65c_get_915e3 cy P) (cut := ct [23]) rfl dX8_passHour_40 rfl (by decide) rfl, w_checkcast (CL := cl_X8 P) (cut := ct [23]) (pc' := 46) rfl dX8_passHour_43 rfl, q_X8_c166 P, w_invoke (inv := iv_X8_passHour cy P) (kd := 0) (f := 264) (g := sp_X8_passHourOf cy P) (cut := ct [23]) rfl dX8_passHour_46 rfl (by decide) rfl, w_iinc (cut := ct [23]) (pc' := 52) (d := 1) rfl dX8_passHour_49 rfl rfl, w_goto (cut := ct [23]) (t := 23) rfl dX8_passHour_52 (by decide) rfl, w_return (cut := ct [23]) rfl dX8_passHour_55 rfl, rsum, cg_int, cg_ref, cg_null, nby0, strd, mStr, onAL, true_imp_iff, false_imp_iff, not_true_eq_false, not_false_eq_true, Classical.not_not, eq_self, e10, e01, em1, Int32.reduceLT, Int32.reduceLE, onBoat, onGale, onOut, onPort, onRep, onWarn, yn, mI, mS, b0, okA, rcvd, nb0, nb1, ini, List.map_cons, List.map_nil, List.replicate_zero, List.replicate_succ, List.append_nil, ldI, ldA, incK, getK, putK, oldK, castK, inv1, nwO, nwA, nwR, alen, ald, bald, ast, lald, last, rald, rast, goTo, nth, sto, setN, popN, okv, cat1_int, cat1_ref, cat1_null, cat1_rf, va_rf, hup_same, hup_hup, List.length_cons, List.length_nil, List.nil_append, List.cons_append, Option.toList, true_and, and_true, Nat.reduceAdd, Nat.reduceSub, Nat.reduceLT, Nat.reduceLeDiff, Nat.zero_le, Nat.sub_zero, Nat.zero_lt_succ, Nat.lt_add_left_iff_pos, Nat.succ_lt_succ_iff, hx3, sp_X8_isOfficeHour, sp_X8_doOfficeWork]
    refine ⟨t, lp, lw, lg, lb, o, b1, b2, _, _, _, rfl, fun h => ?_, fun h => ?_⟩
    · have hoff := off_hour (n := N 1 + 1) (by omega) h
      rw [Nat.add_sub_cancel] at hoff
      refine ⟨by omega, by omega, _, _, hCX3, hN.2.2.2.2.2.1, fun σ' hC4 => key _ 0 σ' _ _ rfl (Nat.zero_le _) ?_⟩
      have e9 : offiM (tickM (N, M)) = offM ((nI (N 1 + 1) - 2) / 8) (tickM (N, M)) 4 := by
        unfold offiM
        rw [tick_1, if_pos h]
      unfold boatsM
      rw [e9]
      exact hC4
    · have e9 : offiM (tickM (N, M)) = tickM (N, M) := by
        unfold offiM
        rw [tick_1, if_neg h]
      refine key _ 0 σ3 _ _ rfl (Nat.zero_le _) ?_
      unfold boatsM
      rw [e9]
      exact hCX3
  · exact hT.elim
set_option maxRecDepth 100000 in
theorem con_X8_passHour {l : Launch} {s0 : State} {D : va_G} {cy : Nat → ClassId} {P : Pm} {a0 : Array Value} (hE : E0 l s0 D cy P a0) : Con l s0 D yX8_passHour (Cond.code yX8_passHour cX8_passHour 2 none) 9 235 (sp_X8_passHour cy P) := by
  refine con_of (clok_X8 hE _) (by decide) (fun as σ K KX h => okA_cat h.1) (Nat.le_of_ble_eq_true rfl) ?_ ?_ (m_X8_passHour cy P hE.2.2.2.1)
  · intro p e R s m args below meth c A Q hfr hlo hW B kd j g hg
    unfold iv_X8_passHour at hg
    split at hg
    · cases hg; exact inv_V (ci := 9) B (con_X8_isOfficeHour hE) rfl (fun as σ K KX h => rcvd_spec h.2.1) (cw_mk hE hW tw_742 rfl tw_1 ⟨by decide, by decide⟩ rfl) rfl (wd hE hW tw_739 rfl) (wd hE hW tw_741 rfl) (wd hE hW (List.mem_of_getElem? (i := 16) (by decide +kernel)) rfl) (by rw [hfr]; decide) (by rw [hlo]; decide)
    · cases hg; exact inv_V (ci := 9) B (con_X8_doOfficeWork hE) rfl (fun as σ K KX h => rcvd_spec h.2.1) (cw_mk hE hW tw_746 rfl tw_1 ⟨by decide, by decide⟩ rfl) rfl (wd hE hW tw_743 rfl) (wd hE hW tw_745 rfl) (wd hE hW (List.mem_of_getElem? (i := 17) (by decide +kernel)) rfl) (by rw [hfr]; decide) (by rw [hlo]; decide)
    · cases hg; exact inv_V (ci := 0) B (con_Jx4a65c_size_8abf5 hE) rfl (fun as σ K KX h => rcvd_spec h.2.1) (cw_mk hE hW tw_197 rfl tw_5 ⟨by decide, by decide⟩ rfl) rfl (wd hE hW tw_194 rfl) (wd hE hW tw_195 rfl) (wd hE hW tw_196 rfl) (by rw [hfr]; decide) (by rw [hlo]; decide)
    · cases hg; exact inv_V (ci := 0) B (con_Jx4a65c_get_915e3 hE) rfl (fun as σ K KX h => rcvd_spec h.2.1) (cw_mk hE hW tw_209 rfl tw_5 ⟨by decide, by decide⟩ rfl) rfl (wd hE hW tw_206 rfl) (wd hE hW tw_207 rfl) (wd hE hW tw_208 rfl) (by rw [hfr]; decide) (by rw [hlo]; decide)
    · cases hg; exact inv_V (ci := 9) B (con_X8_passHourOf hE) rfl (fun as σ K KX h => rcvd_spec h.2.1) (cw_mk hE hW tw_802 rfl tw_1 ⟨by decide, by decide⟩ rfl) rfl (wd hE hW tw_799 rfl) (wd hE hW tw_801 rfl) (wd hE hW (List.mem_of_getElem? (i := 20) (by decide +kernel)) rfl) (by rw [hfr]; decide) (by rw [hlo]; decide)
    · cases hg
  · intro p e R s m args below meth c A K KX hfr hlo hW B htab
    exact xok_none htab
def bHours : List Value → Hp → Nat × Nat := fun as σ => match as with
  | [.ref x, .int n] => if 0 ≤ n ∧ n ≤ 200 then (64 * (offc (min (nowOf σ x + n.toNatClampNeg) 2000) - offc (nowOf σ x)) + 1, 7968 * (offc (min (nowOf σ x + n.toNatClampNeg) 2000) - offc (nowOf σ x)) + 6) else (1, 6)
  | _ => (0, 0)
def iv_X8_hours (cy : Nat → ClassId) (P : Pm) : Nat → Nat → Option Sg
  | 1, 78 => some (sp_X8_within cy P)
  | 0, 182 => some (sp_X8_passHour cy P)
  | _, _ => none
def th_X8_hours : Nat → Option String
  | 11 => some "java/lang/IllegalArgumentException"
  | _ => none
def sp_X8_hours (cy : Nat → ClassId) (P : Pm) : Sg := mI 9 [0] bHours (fun as σ K KX => match as with
  | [.ref x, .int n] => ∃ N M, CX cy P σ x N M ∧ NB N ∧ (¬ (0 ≤ n ∧ n ≤ 200) → KX "java/lang/IllegalArgumentException" σ) ∧ (∀ k, n = nI k → k ≤ 200 → ∀ σ', CX cy P σ' x (hrsM k (N, M)).1 (hrsM k (N, M)).2 → K (some (.int (nI ((hrsM k (N, M)).1 1)))) σ')
  | _ => False)
set_option maxRecDepth 8000 in
set_option maxHeartbeats 8000000 in
theorem m_X8_hours (cy : Nat → ClassId) (P : Pm) (hP : PmOK P) : MOK (cl_X8 P) cy P.2.1 obj cX8_hours (iv_X8_hours cy P) th_X8_hours (fun _ => some none) (some .int) 3 (sp_X8_hours cy P) := by
  intro as σ K KX J hlen hT hJ hOld
  obtain ⟨-, -, hT⟩ := hT
  split at hT
  · rename_i x n
    obtain ⟨N, M, hC, hN, hX, hK⟩ := hT
    obtain ⟨co, gb, gl, wi, t, tb, pl, f, lp, ep, pA, rA, lw, ew, wA, lg, eg, gA, lb, eb, bA, o, b1, a1, F, C, Kd, Nm, b2, a2, s2, F2, C2, K2, N2, hx, hC2⟩ := id hC
    by_cases hn : 0 ≤ n ∧ n ≤ 200
    · obtain ⟨k, hk, rfl⟩ := nI_of2 (M := 200) (n := 200) (by decide) (fun z => absurd hn.1 (Int32.not_le.mpr z)) hn.2
      have hK1 := hK k rfl hk
      have key : ∀ (m i : Nat) (S : Sx) (σ1 : Hp) (rc rs : Nat), k - i = m → i ≤ k → CX cy P σ1 x S.1 S.2 → NB S.1 → (∀ σ', CX cy P σ' x (hrsM m S).1 (hrsM m S).2 → K (some (.int (nI ((hrsM m S).1 1)))) σ') → 64 * (offc (min (S.1 1 + m) 2000) - offc (S.1 1)) ≤ rc → 7968 * (offc (min (S.1 1 + m) 2000) - offc (S.1 1)) ≤ rs → J 23 [some (.ref x), some (.int (nI k)), some (.int (nI i))] [] σ1 rc rs := by
        intro m
        induction m with
        | zero =>
          intro i S σ1 rc rs hm hi hC1 hN1 hK2 hrc hrs
          have h1 : (nI k ≤ nI i) = True := eq_true (nI_le (by omega) (by omega))
          obtain ⟨co, gb, gl, wi, t, tb, pl, f, lp, ep, pA, rA, lw, ew, wA, lg, eg, gA, lb, eb, bA, o, b1, a1, F, C, Kd, Nm, b2, a2, s2, F2, C2, K2, N2, hx1, hC3⟩ := id hC1
          refine hJ (ct [23]) 400 _ _ _ _ _ _ ((s_iload_n (pc' := 24) (i := 2) dX8_hours_23 rfl rfl).mpr ?_)
          simp only [w_iload_n (cut := ct [23]) (pc' := 1) (i := 1) rfl dX8_hours_0 rfl rfl, w_iconst (cut := ct [23]) (pc' := 2) (v := 0) rfl dX8_hours_1 rfl rfl, w_sipush (cut := ct [23]) (pc' := 5) (v := 200) rfl dX8_hours_2 rfl rfl, w_invoke (inv := iv_X8_hours cy P) (kd := 1) (f := 78) (g := sp_X8_within cy P) (cut := ct [23]) rfl dX8_hours_5 rfl (by decide) rfl, w_if_ne (cut := ct [23]) (pc' := 11) (t := 21) rfl dX8_hours_8 rfl (by decide) rfl, w_throw (thr := th_X8_hours) (E := "java/lang/IllegalArgumentException") (cut := ct [23]) rfl dX8_hours_11 rfl, w_dup (cut := ct [23]) (pc' := 15) rfl dX8_hours_14 rfl, w_iconst (cut := ct [23]) (pc' := 22) (v := 0) rfl dX8_hours_21 rfl rfl, w_istore_n (cut := ct [23]) (pc' := 23) (i := 2) rfl dX8_hours_22 rfl rfl, w_cut (cut := ct [23]) (pc := 23) rfl, w_iload_n (cut := ct [23]) (pc' := 25) (i := 1) rfl dX8_hours_24 rfl rfl, w_icmp_ge (cut := ct [23]) (pc' := 28) (t := 48) rfl dX8_hours_25 rfl (by decide) rfl, w_aload_n (cut := ct [23]) (pc' := 29) (i := 0) rfl dX8_hours_28 rfl rfl, w_getfield (cut := ct [23]) (pc' := 32) rfl dX8_hours_29 rfl (q_X8_f56 P), w_sipush (cut := ct [23]) (pc' := 35) (v := 2000) rfl dX8_hours_32 rfl rfl, w_icmp_ge (cut := ct [23]) (pc' := 38) (t := 48) rfl dX8_hours_35 rfl (by decide) rfl, w_aload_n (cut := ct [23]) (pc' := 39) (i := 0) rfl dX8_hours_38 rfl rfl, w_invoke (inv := iv_X8_hours cy P) (kd := 0) (f := 182) (g := sp_X8_passHour cy P) (cut := ct [23]) rfl dX8_hours_39 rfl (by decide) rfl, w_iinc (cut := ct [23]) (pc' := 45) (d := 1) rfl dX8_hours_42 rfl rfl, w_goto (cut := ct [23]) (t := 23) rfl dX8_hours_45 (by decide) rfl, w_aload_n (cut := ct [23]) (pc' := 49) (i := 0) rfl dX8_hours_48 rfl rfl, w_getfield (cut := ct [23]) (pc' := 52) rfl dX8_hours_49 rfl (q_X8_f56 P), w_ireturnI (cut := ct [23]) rfl dX8_hours_52 rfl, rsum, cg_int, cg_ref, cg_null, nby0, strd, mStr, onAL, true_imp_iff, false_imp_iff, not_true_eq_false, not_false_eq_true, Classical.not_not, eq_self, e10, e01, em1, Int32.reduceLT, Int32.reduceLE, onBoat, onGale, onOut, onPort, onRep, onWarn, yn, mI, mS, b0, okA, rcvd, nb0, nb1, ini, List.map_cons, List.map_nil, List.replicate_zero, List.replicate_succ, List.append_nil, ldI, ldA, incK, getK, putK, oldK, castK, inv1, nwO, nwA, nwR, alen, ald, bald, ast, lald, last, rald, rast, goTo, nth, sto, setN, popN, okv, cat1_int, cat1_ref, cat1_null, cat1_rf, va_rf, hup_same, hup_hup, List.length_cons, List.length_nil, List.nil_append, List.cons_append, Option.toList, true_and, and_true, Nat.reduceAdd, Nat.reduceSub, Nat.reduceLT, Nat.reduceLeDiff, Nat.zero_le, Nat.sub_zero, Nat.zero_lt_succ, Nat.lt_add_left_iff_pos, Nat.succ_lt_succ_iff, hx1, h1]
          exact hK2 σ1 hC1
        | succ m ih =>
          intro i S σ1 rc rs hm hi hC1 hN1 hK2 hrc hrs
          have h1 : (nI k ≤ nI i) = False := eq_false (nI_ge (by omega) (by omega))
          have hnx : nI i + 1 = nI (i + 1) := nI_1 i
          obtain ⟨co, gb, gl, wi, t, tb, pl, f, lp, ep, pA, rA, lw, ew, wA, lg, eg, gA, lb, eb, bA, o, b1, a1, F, C, Kd, Nm, b2, a2, s2, F2, C2, K2, N2, hx1, hC3⟩ := id hC1
          have hS1 := hN1.1
          unfold hrsM at hK2
          by_cases h2 : S.1 1 < 2000
          · have h3 : (2000 ≤ nI (S.1 1)) = False := eq_false (nI_ge (a := S.1 1) (b := 2000) h2 (by decide))
            rw [if_pos h2] at hK2
            have hbH : bHour [.ref x] σ1 = (64 * (offc (S.1 1 + 1) - offc (S.1 1)), 7968 * (offc (S.1 1 + 1) - offc (S.1 1))) := by
              simp only [bHour, nowOf, hx1, nI_clamp (show S.1 1 < 2 ^ 31 by omega)]
            obtain ⟨hN2, e2⟩ := NB_hour hN1 h2
            unfold offc at hrc hrs
            refine hJ (ct [23]) 400 _ _ _ _ _ _ ((s_iload_n (pc' := 24) (i := 2) dX8_hours_23 rfl rfl).mpr ?_)
            simp only [w_iload_n (cut := ct [23]) (pc' := 1) (i := 1) rfl dX8_hours_0 rfl rfl, w_iconst (cut := ct [23]) (pc' := 2) (v := 0) rfl dX8_hours_1 rfl rfl, w_sipush (cut := ct [23]) (pc' := 5) (v := 200) rfl dX8_hours_2 rfl rfl, w_invoke (inv := iv_X8_hours cy P) (kd := 1) (f := 78) (g := sp_X8_within cy P) (cut := ct [23]) rfl dX8_hours_5 rfl (by decide) rfl, w_if_ne (cut := ct [23]) (pc' := 11) (t := 21) rfl dX8_hours_8 rfl (by decide) rfl, w_throw (thr := th_X8_hours) (E := "java/lang/IllegalArgumentException") (cut := ct [23]) rfl dX8_hours_11 rfl, w_dup (cut := ct [23]) (pc' := 15) rfl dX8_hours_14 rfl, w_iconst (cut := ct [23]) (pc' := 22) (v := 0) rfl dX8_hours_21 rfl rfl, w_istore_n (cut := ct [23]) (pc' := 23) (i := 2) rfl dX8_hours_22 rfl rfl, w_cut (cut := ct [23]) (pc := 23) rfl, w_iload_n (cut := ct [23]) (pc' := 25) (i := 1) rfl dX8_hours_24 rfl rfl, w_icmp_ge (cut := ct [23]) (pc' := 28) (t := 48) rfl dX8_hours_25 rfl (by decide) rfl, w_aload_n (cut := ct [23]) (pc' := 29) (i := 0) rfl dX8_hours_28 rfl rfl, w_getfield (cut := ct [23]) (pc' := 32) rfl dX8_hours_29 rfl (q_X8_f56 P), w_sipush (cut := ct [23]) (pc' := 35) (v := 2000) rfl dX8_hours_32 rfl rfl, w_icmp_ge (cut := ct [23]) (pc' := 38) (t := 48) rfl dX8_hours_35 rfl (by decide) rfl, w_aload_n (cut := ct [23]) (pc' := 39) (i := 0) rfl dX8_hours_38 rfl rfl, w_invoke (inv := iv_X8_hours cy P) (kd := 0) (f := 182) (g := sp_X8_passHour cy P) (cut := ct [23]) rfl dX8_hours_39 rfl (by decide) rfl, w_iinc (cut := ct [23]) (pc' := 45) (d := 1) rfl dX8_hours_42 rfl rfl, w_goto (cut := ct [23]) (t := 23) rfl dX8_hours_45 (by decide) rfl, w_aload_n (cut := ct [23]) (pc' := 49) (i := 0) rfl dX8_hours_48 rfl rfl, w_getfield (cut := ct [23]) (pc' := 52) rfl dX8_hours_49 rfl (q_X8_f56 P), w_ireturnI (cut := ct [23]) rfl dX8_hours_52 rfl, rsum, cg_int, cg_ref, cg_null, nby0, strd, mStr, onAL, true_imp_iff, false_imp_iff, not_true_eq_false, not_false_eq_true, Classical.not_not, eq_self, e10, e01, em1, Int32.reduceLT, Int32.reduceLE, onBoat, onGale, onOut, onPort, onRep, onWarn, yn, mI, mS, b0, okA, rcvd, nb0, nb1, ini, List.map_cons, List.map_nil, List.replicate_zero, List.replicate_succ, List.append_nil, ldI, ldA, incK, getK, putK, oldK, castK, inv1, nwO, nwA, nwR, alen, ald, bald, ast, lald, last, rald, rast, goTo, nth, sto, setN, popN, okv, cat1_int, cat1_ref, cat1_null, cat1_rf, va_rf, hup_same, hup_hup, List.length_cons, List.length_nil, List.nil_append, List.cons_append, Option.toList, true_and, and_true, Nat.reduceAdd, Nat.reduceSub, Nat.reduceLT, Nat.reduceLeDiff, Nat.zero_le, Nat.sub_zero, Nat.zero_lt_succ, Nat.lt_add_left_iff_pos, Nat.succ_lt_succ_iff, hx1, h1, h3, sp_X8_passHour, hbH, hnx]
            refine ⟨by unfold offc; omega, by unfold offc; omega, S.1, S.2, hC1, hN1, h2, fun σ' hC4 => ih (i + 1) (hourM S) σ' _ _ (by omega) (by omega) hC4 hN2 hK2 ?_ ?_⟩
            · rw [e2]; unfold offc; omega
            · rw [e2]; unfold offc; omega
          · have h3 : (2000 ≤ nI (S.1 1)) = True := eq_true (nI_le (a := 2000) (b := S.1 1) (by omega) (by omega))
            rw [if_neg h2] at hK2
            refine hJ (ct [23]) 400 _ _ _ _ _ _ ((s_iload_n (pc' := 24) (i := 2) dX8_hours_23 rfl rfl).mpr ?_)
            simp only [w_iload_n (cut := ct [23]) (pc' := 1) (i := 1) rfl dX8_hours_0 rfl rfl, w_iconst (cut := ct [23]) (pc' := 2) (v := 0) rfl dX8_hours_1 rfl rfl, w_sipush (cut := ct [23]) (pc' := 5) (v := 200) rfl dX8_hours_2 rfl rfl, w_invoke (inv := iv_X8_hours cy P) (kd := 1) (f := 78) (g := sp_X8_within cy P) (cut := ct [23]) rfl dX8_hours_5 rfl (by decide) rfl, w_if_ne (cut := ct [23]) (pc' := 11) (t := 21) rfl dX8_hours_8 rfl (by decide) rfl, w_throw (thr := th_X8_hours) (E := "java/lang/IllegalArgumentException") (cut := ct [23]) rfl dX8_hours_11 rfl, w_dup (cut := ct [23]) (pc' := 15) rfl dX8_hours_14 rfl, w_iconst (cut := ct [23]) (pc' := 22) (v := 0) rfl dX8_hours_21 rfl rfl, w_istore_n (cut := ct [23]) (pc' := 23) (i := 2) rfl dX8_hours_22 rfl rfl, w_cut (cut := ct [23]) (pc := 23) rfl, w_iload_n (cut := ct [23]) (pc' := 25) (i := 1) rfl dX8_hours_24 rfl rfl, w_icmp_ge (cut := ct [23]) (pc' := 28) (t := 48) rfl dX8_hours_25 rfl (by decide) rfl, w_aload_n (cut := ct [23]) (pc' := 29) (i := 0) rfl dX8_hours_28 rfl rfl, w_getfield (cut := ct [23]) (pc' := 32) rfl dX8_hours_29 rfl (q_X8_f56 P), w_sipush (cut := ct [23]) (pc' := 35) (v := 2000) rfl dX8_hours_32 rfl rfl, w_icmp_ge (cut := ct [23]) (pc' := 38) (t := 48) rfl dX8_hours_35 rfl (by decide) rfl, w_aload_n (cut := ct [23]) (pc' := 39) (i := 0) rfl dX8_hours_38 rfl rfl, w_invoke (inv := iv_X8_hours cy P) (kd := 0) (f := 182) (g := sp_X8_passHour cy P) (cut := ct [23]) rfl dX8_hours_39 rfl (by decide) rfl, w_iinc (cut := ct [23]) (pc' := 45) (d := 1) rfl dX8_hours_42 rfl rfl, w_goto (cut := ct [23]) (t := 23) rfl dX8_hours_45 (by decide) rfl, w_aload_n (cut := ct [23]) (pc' := 49) (i := 0) rfl dX8_hours_48 rfl rfl, w_getfield (cut := ct [23]) (pc' := 52) rfl dX8_hours_49 rfl (q_X8_f56 P), w_ireturnI (cut := ct [23]) rfl dX8_hours_52 rfl, rsum, cg_int, cg_ref, cg_null, nby0, strd, mStr, onAL, true_imp_iff, false_imp_iff, not_true_eq_false, not_false_eq_true, Classical.not_not, eq_self, e10, e01, em1, Int32.reduceLT, Int32.reduceLE, onBoat, onGale, onOut, onPort, onRep, onWarn, yn, mI, mS, b0, okA, rcvd, nb0, nb1, ini, List.map_cons, List.map_nil, List.replicate_zero, List.replicate_succ, List.append_nil, ldI, ldA, incK, getK, putK, oldK, castK, inv1, nwO, nwA, nwR, alen, ald, bald, ast, lald, last, rald, rast, goTo, nth, sto, setN, popN, okv, cat1_int, cat1_ref, cat1_null, cat1_rf, va_rf, hup_same, hup_hup, List.length_cons, List.length_nil, List.nil_append, List.cons_append, Option.toList, true_and, and_true, Nat.reduceAdd, Nat.reduceSub, Nat.reduceLT, Nat.reduceLeDiff, Nat.zero_le, Nat.sub_zero, Nat.zero_lt_succ, Nat.lt_add_left_iff_pos, Nat.succ_lt_succ_iff, hx1, h1, h3]
            exact hK2 σ1 hC1
      have hN0 := hN.1
      have hbH : bHours [.ref x, .int (nI k)] σ = (64 * (offc (min (N 1 + k) 2000) - offc (N 1)) + 1, 7968 * (offc (min (N 1 + k) 2000) - offc (N 1)) + 6) := by
        simp only [bHours, nowOf, hx, if_pos hn, nI_clamp (show N 1 < 2 ^ 31 by omega), nI_clamp (show k < 2 ^ 31 by omega)]
      refine wp_of_S hJ (ct [23]) 400 _ _ _ _ _ _ ?_
      simp only [w_iload_n (cut := ct [23]) (pc' := 1) (i := 1) rfl dX8_hours_0 rfl rfl, w_iconst (cut := ct [23]) (pc' := 2) (v := 0) rfl dX8_hours_1 rfl rfl, w_sipush (cut := ct [23]) (pc' := 5) (v := 200) rfl dX8_hours_2 rfl rfl, w_invoke (inv := iv_X8_hours cy P) (kd := 1) (f := 78) (g := sp_X8_within cy P) (cut := ct [23]) rfl dX8_hours_5 rfl (by decide) rfl, w_if_ne (cut := ct [23]) (pc' := 11) (t := 21) rfl dX8_hours_8 rfl (by decide) rfl, w_throw (thr := th_X8_hours) (E := "java/lang/IllegalArgumentException") (cut := ct [23]) rfl dX8_hours_11 rfl, w_dup (cut := ct [23]) (pc' := 15) rfl dX8_hours_14 rfl, w_iconst (cut := ct [23]) (pc' := 22) (v := 0) rfl dX8_hours_21 rfl rfl, w_istore_n (cut := ct [23]) (pc' := 23) (i := 2) rfl dX8_hours_22 rfl rfl, w_cut (cut := ct [23]) (pc := 23) rfl, w_iload_n (cut := ct [23]) (pc' := 25) (i := 1) rfl dX8_hours_24 rfl rfl, w_icmp_ge (cut := ct [23]) (pc' := 28) (t := 48) rfl dX8_hours_25 rfl (by decide) rfl, w_aload_n (cut := ct [23]) (pc' := 29) (i := 0) rfl dX8_hours_28 rfl rfl, w_getfield (cut := ct [23]) (pc' := 32) rfl dX8_hours_29 rfl (q_X8_f56 P), w_sipush (cut := ct [23]) (pc' := 35) (v := 2000) rfl dX8_hours_32 rfl rfl, w_icmp_ge (cut := ct [23]) (pc' := 38) (t := 48) rfl dX8_hours_35 rfl (by decide) rfl, w_aload_n (cut := ct [23]) (pc' := 39) (i := 0) rfl dX8_hours_38 rfl rfl, w_invoke (inv := iv_X8_hours cy P) (kd := 0) (f := 182) (g := sp_X8_passHour cy P) (cut := ct [23]) rfl dX8_hours_39 rfl (by decide) rfl, w_iinc (cut := ct [23]) (pc' := 45) (d := 1) rfl dX8_hours_42 rfl rfl, w_goto (cut := ct [23]) (t := 23) rfl dX8_hours_45 (by decide) rfl, w_aload_n (cut := ct [23]) (pc' := 49) (i := 0) rfl dX8_hours_48 rfl rfl, w_getfield (cut := ct [23]) (pc' := 52) rfl dX8_hours_49 rfl (q_X8_f56 P), w_ireturnI (cut := ct [23]) rfl dX8_hours_52 rfl, rsum, cg_int, cg_ref, cg_null, nby0, strd, mStr, onAL, true_imp_iff, false_imp_iff, not_true_eq_false, not_false_eq_true, Classical.not_not, eq_self, e10, e01, em1, Int32.reduceLT, Int32.reduceLE, onBoat, onGale, onOut, onPort, onRep, onWarn, yn, mI, mS, b0, okA, rcvd, nb0, nb1, ini, List.map_cons, List.map_nil, List.replicate_zero, List.replicate_succ, List.append_nil, ldI, ldA, incK, getK, putK, oldK, castK, inv1, nwO, nwA, nwR, alen, ald, bald, ast, lald, last, rald, rast, goTo, nth, sto, setN, popN, okv, cat1_int, cat1_ref, cat1_null, cat1_rf, va_rf, hup_same, hup_hup, List.length_cons, List.length_nil, List.nil_append, List.cons_append, Option.toList, true_and, and_true, Nat.reduceAdd, Nat.reduceSub, Nat.reduceLT, Nat.reduceLeDiff, Nat.zero_le, Nat.sub_zero, Nat.zero_lt_succ, Nat.lt_add_left_iff_pos, Nat.succ_lt_succ_iff, sp_X8_hours, hbH, sp_X8_within]
      exact ⟨fun _ => key k 0 (N, M) σ _ _ rfl (Nat.zero_le _) hC hN hK1 (by show 64 * (offc (min (N 1 + k) 2000) - offc (N 1)) ≤ _; omega) (by show 7968 * (offc (min (N 1 + k) 2000) - offc (N 1)) ≤ _; omega), fun h => absurd hn h⟩
    · have hK1 := hX hn
      have hbH : bHours [.ref x, .int n] σ = (1, 6) := if_neg hn
      refine wp_of_S hJ (ct [23]) 400 _ _ _ _ _ _ ?_
      simp only [w_iload_n (cut := ct [23]) (pc' := 1) (i := 1) rfl dX8_hours_0 rfl rfl, w_iconst (cut := ct [23]) (pc' := 2) (v := 0) rfl dX8_hours_1 rfl rfl, w_sipush (cut := ct [23]) (pc' := 5) (v := 200) rfl dX8_hours_2 rfl rfl, w_invoke (inv := iv_X8_hours cy P) (kd := 1) (f := 78) (g := sp_X8_within cy P) (cut := ct [23]) rfl dX8_hours_5 rfl (by decide) rfl, w_if_ne (cut := ct [23]) (pc' := 11) (t := 21) rfl dX8_hours_8 rfl (by decide) rfl, w_throw (thr := th_X8_hours) (E := "java/lang/IllegalArgumentException") (cut := ct [23]) rfl dX8_hours_11 rfl, w_dup (cut := ct [23]) (pc' := 15) rfl dX8_hours_14 rfl, w_iconst (cut := ct [23]) (pc' := 22) (v := 0) rfl dX8_hours_21 rfl rfl, w_istore_n (cut := ct [23]) (pc' := 23) (i := 2) rfl dX8_hours_22 rfl rfl, w_cut (cut := ct [23]) (pc := 23) rfl, w_iload_n (cut := ct [23]) (pc' := 25) (i := 1) rfl dX8_hours_24 rfl rfl, w_icmp_ge (cut := ct [23]) (pc' := 28) (t := 48) rfl dX8_hours_25 rfl (by decide) rfl, w_aload_n (cut := ct [23]) (pc' := 29) (i := 0) rfl dX8_hours_28 rfl rfl, w_getfield (cut := ct [23]) (pc' := 32) rfl dX8_hours_29 rfl (q_X8_f56 P), w_sipush (cut := ct [23]) (pc' := 35) (v := 2000) rfl dX8_hours_32 rfl rfl, w_icmp_ge (cut := ct [23]) (pc' := 38) (t := 48) rfl dX8_hours_35 rfl (by decide) rfl, w_aload_n (cut := ct [23]) (pc' := 39) (i := 0) rfl dX8_hours_38 rfl rfl, w_invoke (inv := iv_X8_hours cy P) (kd := 0) (f := 182) (g := sp_X8_passHour cy P) (cut := ct [23]) rfl dX8_hours_39 rfl (by decide) rfl, w_iinc (cut := ct [23]) (pc' := 45) (d := 1) rfl dX8_hours_42 rfl rfl, w_goto (cut := ct [23]) (t := 23) rfl dX8_hours_45 (by decide) rfl, w_aload_n (cut := ct [23]) (pc' := 49) (i := 0) rfl dX8_hours_48 rfl rfl, w_getfield (cut := ct [23]) (pc' := 52) rfl dX8_hours_49 rfl (q_X8_f56 P), w_ireturnI (cut := ct [23]) rfl dX8_hours_52 rfl, rsum, cg_int, cg_ref, cg_null, nby0, strd, mStr, onAL, true_imp_iff, false_imp_iff, not_true_eq_false, not_false_eq_true, Classical.not_not, eq_self, e10, e01, em1, Int32.reduceLT, Int32.reduceLE, onBoat, onGale, onOut, onPort, onRep, onWarn, yn, mI, mS, b0, okA, rcvd, nb0, nb1, ini, List.map_cons, List.map_nil, List.replicate_zero, List.replicate_succ, List.append_nil, ldI, ldA, incK, getK, putK, oldK, castK, inv1, nwO, nwA, nwR, alen, ald, bald, ast, lald, last, rald, rast, goTo, nth, sto, setN, popN, okv, cat1_int, cat1_ref, cat1_null, cat1_rf, va_rf, hup_same, hup_hup, List.length_cons, List.length_nil, List.nil_append, List.cons_append, Option.toList, true_and, and_true, Nat.reduceAdd, Nat.reduceSub, Nat.reduceLT, Nat.reduceLeDiff, Nat.zero_le, Nat.sub_zero, Nat.zero_lt_succ, Nat.lt_add_left_iff_pos, Nat.succ_lt_succ_iff, sp_X8_hours, hbH, sp_X8_within]
      refine ⟨fun h => absurd h hn, fun _ => ?_⟩
      simpa using hK1
  · exact hT.elim
set_option maxRecDepth 100000 in
theorem con_X8_hours {l : Launch} {s0 : State} {D : va_G} {cy : Nat → ClassId} {P : Pm} {a0 : Array Value} (hE : E0 l s0 D cy P a0) : Con l s0 D yX8_hours (Cond.code yX8_hours cX8_hours 3 (some .int)) 10 256 (sp_X8_hours cy P) := by
  refine con_of (clok_X8 hE _) (by decide) (fun as σ K KX h => okA_cat h.1) (Nat.le_of_ble_eq_true rfl) ?_ ?_ (m_X8_hours cy P hE.2.2.2.1)
  · intro p e R s m args below meth c A Q hfr hlo hW B kd j g hg
    unfold iv_X8_hours at hg
    split at hg
    · cases hg; exact inv_S B (con_X8_within hE) (cw_mk hE hW tw_235 rfl tw_1 ⟨by decide, by decide⟩ rfl) (wd hE hW tw_233 rfl) (wd hE hW tw_234 rfl) (by rw [hfr]; decide) (by rw [hlo]; decide)
    · cases hg; exact inv_V (ci := 9) B (con_X8_passHour hE) rfl (fun as σ K KX h => rcvd_spec h.2.1) (cw_mk hE hW tw_738 rfl tw_1 ⟨by decide, by decide⟩ rfl) rfl (wd hE hW tw_735 rfl) (wd hE hW tw_737 rfl) (wd hE hW (List.mem_of_getElem? (i := 15) (by decide +kernel)) rfl) (by rw [hfr]; decide) (by rw [hlo]; decide)
    · cases hg
  · intro p e R s m args below meth c A K KX hfr hlo hW B htab
    refine ⟨fun pc E h => ?_, fun E h q => (by cases q), fun _ => htab⟩
    unfold th_X8_hours at h
    split at h
    · cases h; exact fun j len hd σ H locs cells slots lsA st h1 h2 h3 h4 h5 h6 h7 h8 => thr_ok B hE htab (text := "not 0 to 200 hours") (by decide) (by decide +kernel) tw_236 tw_12 ta_86 tb_86 tc_86_82 dX8_hours_11 dX8_hours_14 dX8_hours_15 dX8_hours_17 dX8_hours_20 (by rw [hfr]; decide) (by rw [hlo]; decide) h1 h2 h3 h4 h5 h6 h7 h8
    · cases h
