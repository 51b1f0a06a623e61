/-! ===== StormFlags: the calls that add ===== -/
def iv_X8_trip (cy : Nat → ClassId) (P : Pm) : Nat → Nat → Option Sg
  | 0, 171 => some (sp_X8_boatNumbered cy P)
  | 0, 149 => some (sp_X8_isHourToCome cy P)
  | 1, 78 => some (sp_X8_within cy P)
  | 0, 177 => some (sp_X0_plan cy P)
  | _, _ => none
def th_X8_trip : Nat → Option String
  | 25 => some "java/lang/IllegalArgumentException"
  | _ => none
def tripM (M : Ms) (i : Nat) (h n : Int32) : Ms := setR M 35 (upd (upd (upd (M 35) (8 * i + 3) 1) (8 * i + 4) h) (8 * i + 5) n)
def sp_X8_trip (cy : Nat → ClassId) (P : Pm) : Sg := mI 9 [0, 0, 0] (fun _ _ => (2, 12)) (fun as σ K KX => match as with
  | [.ref x, .int b, .int h, .int n] => ∃ N M, CX cy P σ x N M ∧ N 6 ≤ 12 ∧ (badIx b (N 36) → KX "java/lang/IndexOutOfBoundsException" σ) ∧ (∀ i, b = nI i → i < N 36 → (¬ ((nI (N 1) < h ∧ h ≤ 2000) ∧ 1 ≤ n ∧ n ≤ 48) → KX "java/lang/IllegalArgumentException" σ) ∧ ((nI (N 1) < h ∧ h ≤ 2000) ∧ 1 ≤ n ∧ n ≤ 48 → (M 35 (8 * i + 3) = 0 → ∀ σ', CX cy P σ' x N (tripM M i h n) → K (some (.int 1)) σ') ∧ (¬ M 35 (8 * i + 3) = 0 → K (some (.int 0)) σ)))
  | _ => False)
set_option maxRecDepth 8000 in
set_option maxHeartbeats 4000000 in
theorem m_X8_trip (cy : Nat → ClassId) (P : Pm) (hP : PmOK P) : MOK (cl_X8 P) cy P.2.1 obj cX8_trip (iv_X8_trip cy P) th_X8_trip (fun _ => some none) (some .boolean) 5 (sp_X8_trip cy P) := by
  intro as σ K KX J hlen hT hJ hOld
  obtain ⟨-, -, hT⟩ := hT
  split at hT
  · rename_i x b h n
    obtain ⟨N, M, ⟨co, gb, gl, wi, t, tb, pl, f, lp, ep, pA, rA, lw, ew, wA, lg, eg, gA, lb, eb, bA, o, b1, a1, F, C, Kd, Nm, b2, a2, s2, F2, C2, K2, N2, hx, hC⟩, hN6, hX, hK⟩ := hT
    obtain ⟨hT, hf, hP, hW, hG, hB, ho, h1, hR, h2, hD, hL⟩ := id hC
    refine wp_of_S hJ (ct [5]) 400 _ _ _ _ _ _ ?_
    simp only [w_aload_n (cut := ct [5]) (pc' := 1) (i := 0) rfl dX8_trip_0 rfl rfl, w_iload_n (cut := ct [5]) (pc' := 2) (i := 1) rfl dX8_trip_1 rfl rfl, w_invoke (inv := iv_X8_trip cy P) (kd := 0) (f := 171) (g := sp_X8_boatNumbered cy P) (cut := ct [5]) rfl dX8_trip_2 rfl (by decide) rfl, w_cut (cut := ct [5]) (pc := 5) rfl, w_aload_n (cut := ct [5]) (pc' := 8) (i := 0) rfl dX8_trip_7 rfl rfl, w_iload_n (cut := ct [5]) (pc' := 9) (i := 2) rfl dX8_trip_8 rfl rfl, w_invoke (inv := iv_X8_trip cy P) (kd := 0) (f := 149) (g := sp_X8_isHourToCome cy P) (cut := ct [5]) rfl dX8_trip_9 rfl (by decide) rfl, w_if_eq (cut := ct [5]) (pc' := 15) (t := 25) rfl dX8_trip_12 rfl (by decide) rfl, w_iload_n (cut := ct [5]) (pc' := 16) (i := 3) rfl dX8_trip_15 rfl rfl, w_iconst (cut := ct [5]) (pc' := 17) (v := 1) rfl dX8_trip_16 rfl rfl, w_bipush (cut := ct [5]) (pc' := 19) (v := 48) rfl dX8_trip_17 rfl rfl, w_invoke (inv := iv_X8_trip cy P) (kd := 1) (f := 78) (g := sp_X8_within cy P) (cut := ct [5]) rfl dX8_trip_19 rfl (by decide) rfl, w_if_ne (cut := ct [5]) (pc' := 25) (t := 35) rfl dX8_trip_22 rfl (by decide) rfl, w_throw (thr := th_X8_trip) (E := "java/lang/IllegalArgumentException") (cut := ct [5]) rfl dX8_trip_25 rfl, w_dup (cut := ct [5]) (pc' := 29) rfl dX8_trip_28 rfl, w_aload (cut := ct [5]) (pc' := 37) (i := 4) rfl dX8_trip_35 rfl rfl, w_iload_n (cut := ct [5]) (pc' := 38) (i := 2) rfl dX8_trip_37 rfl rfl, w_iload_n (cut := ct [5]) (pc' := 39) (i := 3) rfl dX8_trip_38 rfl rfl, w_invoke (inv := iv_X8_trip cy P) (kd := 0) (f := 177) (g := sp_X0_plan cy P) (cut := ct [5]) rfl dX8_trip_39 rfl (by decide) rfl, w_ireturn (ty := .boolean) (cut := ct [5]) rfl dX8_trip_42 rfl, rsum, cg_int, cg_ref, cg_null, nby0, strd, mStr, onAL, true_imp_iff, false_imp_iff, not_true_eq_false, not_false_eq_true, Classical.not_not, eq_self, e10, e01, em1, Int32.reduceLT, Int32.reduceLE, onBoat, onGale, onOut, onPort, onRep, onWarn, yn, mI, mS, b0, okA, rcvd, nb0, nb1, ini, List.map_cons, List.map_nil, List.replicate_zero, List.replicate_succ, List.append_nil, ldI, ldA, incK, getK, putK, oldK, castK, inv1, nwO, nwA, nwR, alen, ald, bald, ast, lald, last, rald, rast, goTo, nth, sto, setN, popN, okv, cat1_int, cat1_ref, cat1_null, cat1_rf, va_rf, hup_same, hup_hup, List.length_cons, List.length_nil, List.nil_append, List.cons_append, Option.toList, true_and, and_true, Nat.reduceAdd, Nat.reduceSub, Nat.reduceLT, Nat.reduceLeDiff, Nat.zero_le, Nat.sub_zero, Nat.zero_lt_succ, Nat.lt_add_left_iff_pos, Nat.succ_lt_succ_iff, sp_X8_trip, sp_X8_boatNumbered, hx, Nat.le_refl, Nat.sub_self]
    refine ⟨t, lp, lw, lg, lb, o, b1, b2, _, _, _, eb, _, bA, rfl, hB.1, fun i hk hkn => ?_, fun h9 => hX h9⟩
    obtain ⟨hX2, hK2⟩ := hK i hk hkn
    obtain ⟨k, hk1, hk2, hb⟩ := hB.2.1 i hkn
    refine wp_of_S hJ (ct []) 400 _ _ _ _ _ _ ?_
    simp only [w_aload_n (cut := ct []) (pc' := 1) (i := 0) rfl dX8_trip_0 rfl rfl, w_iload_n (cut := ct []) (pc' := 2) (i := 1) rfl dX8_trip_1 rfl rfl, w_invoke (inv := iv_X8_trip cy P) (kd := 0) (f := 171) (g := sp_X8_boatNumbered cy P) (cut := ct []) rfl dX8_trip_2 rfl (by decide) rfl, w_astore (cut := ct []) (pc' := 7) (i := 4) rfl dX8_trip_5 rfl rfl, w_astoreN (cut := ct []) (pc' := 7) (i := 4) rfl dX8_trip_5 rfl rfl, w_aload_n (cut := ct []) (pc' := 8) (i := 0) rfl dX8_trip_7 rfl rfl, w_iload_n (cut := ct []) (pc' := 9) (i := 2) rfl dX8_trip_8 rfl rfl, w_invoke (inv := iv_X8_trip cy P) (kd := 0) (f := 149) (g := sp_X8_isHourToCome cy P) (cut := ct []) rfl dX8_trip_9 rfl (by decide) rfl, w_if_eq (cut := ct []) (pc' := 15) (t := 25) rfl dX8_trip_12 rfl (by decide) rfl, w_iload_n (cut := ct []) (pc' := 16) (i := 3) rfl dX8_trip_15 rfl rfl, w_iconst (cut := ct []) (pc' := 17) (v := 1) rfl dX8_trip_16 rfl rfl, w_bipush (cut := ct []) (pc' := 19) (v := 48) rfl dX8_trip_17 rfl rfl, w_invoke (inv := iv_X8_trip cy P) (kd := 1) (f := 78) (g := sp_X8_within cy P) (cut := ct []) rfl dX8_trip_19 rfl (by decide) rfl, w_if_ne (cut := ct []) (pc' := 25) (t := 35) rfl dX8_trip_22 rfl (by decide) rfl, w_throw (thr := th_X8_trip) (E := "java/lang/IllegalArgumentException") (cut := ct []) rfl dX8_trip_25 rfl, w_dup (cut := ct []) (pc' := 29) rfl dX8_trip_28 rfl, w_aload (cut := ct []) (pc' := 37) (i := 4) rfl dX8_trip_35 rfl rfl, w_iload_n (cut := ct []) (pc' := 38) (i := 2) rfl dX8_trip_37 rfl rfl, w_iload_n (cut := ct []) (pc' := 39) (i := 3) rfl dX8_trip_38 rfl rfl, w_invoke (inv := iv_X8_trip cy P) (kd := 0) (f := 177) (g := sp_X0_plan cy P) (cut := ct []) rfl dX8_trip_39 rfl (by decide) rfl, w_ireturn (ty := .boolean) (cut := ct []) rfl dX8_trip_42 rfl, rsum, cg_int, cg_ref, cg_null, nby0, strd, mStr, onAL, true_imp_iff, false_imp_iff, not_true_eq_false, not_false_eq_true, Classical.not_not, eq_self, e10, e01, em1, Int32.reduceLT, Int32.reduceLE, onBoat, onGale, onOut, onPort, onRep, onWarn, yn, mI, mS, b0, okA, rcvd, nb0, nb1, ini, List.map_cons, List.map_nil, List.replicate_zero, List.replicate_succ, List.append_nil, ldI, ldA, incK, getK, putK, oldK, castK, inv1, nwO, nwA, nwR, alen, ald, bald, ast, lald, last, rald, rast, goTo, nth, sto, setN, popN, okv, cat1_int, cat1_ref, cat1_null, cat1_rf, va_rf, hup_same, hup_hup, List.length_cons, List.length_nil, List.nil_append, List.cons_append, Option.toList, true_and, and_true, Nat.reduceAdd, Nat.reduceSub, Nat.reduceLT, Nat.reduceLeDiff, Nat.zero_le, Nat.sub_zero, Nat.zero_lt_succ, Nat.lt_add_left_iff_pos, Nat.succ_lt_succ_iff, hx, sp_X8_isHourToCome, sp_X8_within, sp_X0_plan, hb, Nat.le_refl, Nat.sub_self]
    refine ⟨t, lp, lw, lg, lb, o, b1, b2, _, _, _, rfl, fun a => ⟨fun c => ⟨fun s0 => ?_, fun s0 => ?_⟩, fun c => ?_⟩, fun a => ?_⟩
    · have hC2 := CXr_boat (g := upd (upd (upd (M 35) (8 * i + 3) 1) (8 * i + 4) h) (8 * i + 5) n) hC hkn hk1 (by rw [pk_un (by omega), pk_un (by omega), pk_un (by omega)]; exact hk2) (fun j hj => by rw [pk_un (by omega), pk_un (by omega), pk_un (by omega)])
      have e9 : oBt (setR M 35 (upd (upd (upd (M 35) (8 * i + 3) 1) (8 * i + 4) h) (8 * i + 5) n)) (pA k) i = oBoat (pA k) (M 35 (8 * i + 1)) (M 35 (8 * i + 2)) 1 h n (M 35 (8 * i + 6)) (M 35 (8 * i + 7)) := by
        simp [oBt, hrC, setR, upd]
      rw [e9] at hC2
      exact (hK2 ⟨a, c⟩).1 s0 _ ⟨co, gb, gl, wi, t, tb, pl, f, lp, ep, pA, rA, lw, ew, wA, lg, eg, gA, lb, eb, bA, o, b1, a1, F, C, Kd, Nm, b2, a2, s2, F2, C2, K2, N2, by rw [hup_ne _ _ (kne hx hb (by intro z; cases z))]; exact hx, hC2⟩
    · exact (hK2 ⟨a, c⟩).2 s0
    · exact hX2 (fun z => c z.2)
    · exact hX2 (fun z => a z.1)
  · exact hT.elim
set_option maxRecDepth 100000 in
theorem con_X8_trip {l : Launch} {s0 : State} {D : va_G} {cy : Nat → ClassId} {P : Pm} {a0 : Array Value} (hE : E0 l s0 D cy P a0) : Con l s0 D yX8_trip (Cond.code yX8_trip cX8_trip 5 (some .boolean)) 7 111 (sp_X8_trip cy P) := by
  refine con_of (clok_X8 hE _) (by decide) (fun as σ K KX h => okA_cat h.1) (Nat.le_of_ble_eq_true rfl) ?_ ?_ (m_X8_trip cy P hE.2.2.2.1)
  · intro p e R s m args below meth c A Q hfr hlo hW B kd j g hg
    unfold iv_X8_trip at hg
    split at hg
    · cases hg; exact inv_V (ci := 9) B (con_X8_boatNumbered hE) rfl (fun as σ K KX h => rcvd_spec h.2.1) (cw_mk hE hW tw_720 rfl tw_1 ⟨by decide, by decide⟩ rfl) rfl (wd hE hW tw_717 rfl) (wd hE hW tw_719 rfl) (wd hE hW (List.mem_of_getElem? (i := 14) (by decide +kernel)) rfl) (by rw [hfr]; decide) (by rw [hlo]; decide)
    · cases hg; exact inv_V (ci := 9) B (con_X8_isHourToCome hE) rfl (fun as σ K KX h => rcvd_spec h.2.1) (cw_mk hE hW tw_640 rfl tw_1 ⟨by decide, by decide⟩ rfl) rfl (wd hE hW tw_637 rfl) (wd hE hW tw_639 rfl) (wd hE hW (List.mem_of_getElem? (i := 13) (by decide +kernel)) rfl) (by rw [hfr]; decide) (by rw [hlo]; decide)
    · cases hg; exact inv_S B (con_X8_within hE) (cw_mk hE hW tw_235 rfl tw_1 ⟨by decide, by decide⟩ rfl) (wd hE hW tw_233 rfl) (wd hE hW tw_234 rfl) (by rw [hfr]; decide) (by rw [hlo]; decide)
    · cases hg; exact inv_V (ci := 1) B (con_X0_plan hE) rfl (fun as σ K KX h => rcvd_spec h.2.1) (cw_mk hE hW tw_726 rfl tw_27 ⟨by decide, by decide⟩ rfl) rfl (wd hE hW tw_723 rfl) (wd hE hW tw_724 rfl) (wd hE hW tw_725 rfl) (by rw [hfr]; decide) (by rw [hlo]; decide)
    · cases hg
  · intro p e R s m args below meth c A K KX hfr hlo hW B htab
    refine ⟨fun pc E h => ?_, fun E h q => (by cases q), fun _ => htab⟩
    unfold th_X8_trip at h
    split at h
    · cases h; exact fun j len hd σ H locs cells slots lsA st h1 h2 h3 h4 h5 h6 h7 h8 => thr_ok B hE htab (text := "the hour or the hours are none of a trip") (by decide) (by decide +kernel) tw_236 tw_12 ta_86 tb_86 tc_86_82 dX8_trip_25 dX8_trip_28 dX8_trip_29 dX8_trip_31 dX8_trip_34 (by rw [hfr]; decide) (by rw [hlo]; decide) h1 h2 h3 h4 h5 h6 h7 h8
    · cases h
section ADDS
variable {cy : Nat → ClassId} {P : Pm} {σ σ' : Hp} {N : Nat → Nat} {M : Ms} {co gb gl wi : Int32} {x : Nat}
variable {t : Nat} {tb : Nat} {pl : Int32} {f : Nat → Int32} {lp : Nat} {ep : Nat} {pA : Nat → Nat} {rA : Nat → Nat} {lw : Nat} {ew : Nat} {wA : Nat → Nat} {lg : Nat} {eg : Nat} {gA : Nat → Nat} {lb : Nat} {eb : Nat} {bA : Nat → Nat} {o : Nat} {b1 : Nat} {a1 : BA} {F : Nat → Int32} {C : Nat → Int32} {Kd : Nat → Nat → Int32} {Nm : Nat → Nat → Int32} {b2 : Nat} {a2 : BA} {s2 : Nat} {F2 : Nat → Int32} {C2 : Nat → Int32} {K2 : Nat → Nat → Int32} {N2 : Nat → Nat → Int32}
def galeM (M : Ms) (n : Nat) (a b c d : Int32) : Ms := setR (setR (setR (setR M 30 (upd (M 30) n a)) 31 (upd (M 31) n b)) 32 (upd (M 32) n c)) 33 (upd (M 33) n d)
theorem galeM_ne {n s : Nat} {a b c d : Int32} (h : s ≠ 30 ∧ s ≠ 31 ∧ s ≠ 32 ∧ s ≠ 33) : galeM M n a b c d s = M s := by
  unfold galeM
  rw [setR_ne h.2.2.2, setR_ne h.2.2.1, setR_ne h.2.1, setR_ne h.1]
theorem CXr_addG {q eg' : Nat} {a b c d : Int32} (h : CXr cy P σ N M co gb gl wi t tb pl f lp ep pA rA lw ew wA lg eg gA lb eb bA o b1 a1 F C Kd Nm b2 a2 s2 F2 C2 K2 N2) (hn : N 34 < 244) (hq : σ q = some (oGale a b c d)) (hAd : Added cy P σ σ' lg eg eg' (N 34) gA q) :
    CXr cy P σ' (cu N 34 (N 34 + 1)) (galeM M (N 34) a b c d) co gb gl wi t tb pl f lp ep pA rA lw ew wA lg eg' (fun i => if i = N 34 then q else gA i) lb eb bA o b1 a1 F C Kd Nm b2 a2 s2 F2 C2 K2 N2 := by
  obtain ⟨hT, hf, hP, hW, hG, hB, ho, h1, hR, h2, hD, hL⟩ := h
  have hA := hG.1
  refine ⟨TQ_keep hT (keep_add (F := fun y e => (∃ vs, e = .inr (7, vs)) ∨ ∃ f, e = oInts cy 400 f) hA hAd (fun vs => ntf_obj (by decide)) (fun _ cap f => ntf_refs)), hf, PV_congr (fun s _ h => galeM_ne (by omega)) (PV_keep hP (keep_add hA hAd (fun vs => npf_lst (Ne.symm hL.2.1)) (fun hn cap f => npf_arr (el_ne hA hP.1 (by decide) hn)))), WV_congr (galeM_ne (by decide)) (WV_keep hW (keep_add hA hAd (fun vs => naf_lst (Ne.symm hL.2.2.2.1) (by decide)) (fun hn cap f => naf_arr (el_ne hA hW.1 (by decide) hn)))), ⟨?_, fun i hi => ?_⟩,
    BV_congr (galeM_ne (by decide)) (BV_keep hB (keep_add hA hAd (fun vs => naf_lst hL.2.2.2.2.2 (by decide)) (fun hn cap f => naf_arr (el_ne hA hB.1 (by decide) hn)))),
    keep_add (F := fun y e => ∃ vs, e = .inr (3, vs)) hA hAd (fun vs z => by obtain ⟨v, z⟩ := z; cases z) (fun _ cap f z => by obtain ⟨v, z⟩ := z; cases z) _ _ ho ⟨_, rfl⟩, BK_add h1 hA hAd, hR, BK_add h2 hA hAd, hD, hL⟩
  · exact AL_add hA hAd hq (by decide) hn
  · have hk : ∀ y e, σ y = some e → (∃ vs, e = .inr (2, vs)) → σ' y = some e := keep_add (F := fun y e => ∃ vs, e = .inr (2, vs)) hA hAd (fun vs z => by obtain ⟨v, z⟩ := z; cases z) (fun _ cap f z => by obtain ⟨v, z⟩ := z; cases z)
    rw [cu_same] at hi
    show σ' (if i = N 34 then q else gA i) = some (oGale (upd (M 30) (N 34) a i) (upd (M 31) (N 34) b i) (upd (M 32) (N 34) c i) (upd (M 33) (N 34) d i))
    by_cases h : i = N 34
    · subst h
      rw [if_pos rfl, pk_us, pk_us, pk_us, pk_us]
      exact hk _ _ hq ⟨_, rfl⟩
    · rw [if_neg h, pk_un h, pk_un h, pk_un h, pk_un h]
      exact hk _ _ (hG.2 i (by omega)) ⟨_, rfl⟩
def boatM (M : Ms) (n : Nat) (a b c : Int32) : Ms := setR M 35 (upd (upd (upd (M 35) (8 * n) a) (8 * n + 1) b) (8 * n + 2) c)
/-- the numbers of a boat that is still to come -/
def fresh8 (M : Ms) (n : Nat) : Prop := M 35 (8 * n + 3) = 0 ∧ M 35 (8 * n + 5) = 0 ∧ M 35 (8 * n + 6) = 0 ∧ M 35 (8 * n + 7) = 0
theorem CXr_addB {q eb' k : Nat} {b c : Int32} (h : CXr cy P σ N M co gb gl wi t tb pl f lp ep pA rA lw ew wA lg eg gA lb eb bA o b1 a1 F C Kd Nm b2 a2 s2 F2 C2 K2 N2) (hn : N 36 < 244) (hk : k < N 6) (hfr : fresh8 M (N 36)) (hne : ∀ i, i < N 36 → bA i ≠ q) (hq : σ q = some (oBoat (pA k) b c 0 (-1) 0 0 0)) (hAd : Added cy P σ σ' lb eb eb' (N 36) bA q) :
    CXr cy P σ' (cu N 36 (N 36 + 1)) (boatM M (N 36) (nI k) b c) co gb gl wi t tb pl f lp ep pA rA lw ew wA lg eg gA lb eb' (fun i => if i = N 36 then q else bA i) o b1 a1 F C Kd Nm b2 a2 s2 F2 C2 K2 N2 := by
  obtain ⟨hT, hf, hP, hW, hG, hB, ho, h1, hR, h2, hD, hL⟩ := h
  have hA := hB.1
  refine ⟨TQ_keep hT (keep_add (F := fun y e => (∃ vs, e = .inr (7, vs)) ∨ ∃ f, e = oInts cy 400 f) hA hAd (fun vs => ntf_obj (by decide)) (fun _ cap f => ntf_refs)), hf, PV_congr (fun s _ h => setR_ne (by omega)) (PV_keep hP (keep_add hA hAd (fun vs => npf_lst (Ne.symm hL.2.2.1)) (fun hn cap f => npf_arr (el_ne hA hP.1 (by decide) hn)))), WV_congr (setR_ne (by decide)) (WV_keep hW (keep_add hA hAd (fun vs => naf_lst (Ne.symm hL.2.2.2.2.1) (by decide)) (fun hn cap f => naf_arr (el_ne hA hW.1 (by decide) hn)))),
    GV_congr (fun s _ h => setR_ne (by omega)) (GV_keep hG (keep_add hA hAd (fun vs => naf_lst (Ne.symm hL.2.2.2.2.2) (by decide)) (fun hn cap f => naf_arr (el_ne hA hG.1 (by decide) hn)))), ⟨?_, fun i hi => ?_, fun i j hi hj hij => ?_⟩,
    keep_add (F := fun y e => ∃ vs, e = .inr (3, vs)) hA hAd (fun vs z => by obtain ⟨v, z⟩ := z; cases z) (fun _ cap f z => by obtain ⟨v, z⟩ := z; cases z) _ _ ho ⟨_, rfl⟩, BK_add h1 hA hAd, hR, BK_add h2 hA hAd, hD, hL⟩
  · exact AL_add hA hAd hq (by decide) hn
  · have hkk : ∀ y e, σ y = some e → (∃ vs, e = .inr (1, vs)) → σ' y = some e := keep_add (F := fun y e => ∃ vs, e = .inr (1, vs)) hA hAd (fun vs z => by obtain ⟨v, z⟩ := z; cases z) (fun _ cap f z => by obtain ⟨v, z⟩ := z; cases z)
    rw [cu_same] at hi
    by_cases h : i = N 36
    · subst h
      refine ⟨k, hk, by unfold boatM; rw [setR_same, pk_un (by omega), pk_un (by omega), pk_us], ?_⟩
      dsimp only
      rw [if_pos rfl, hkk _ _ hq ⟨_, rfl⟩]
      obtain ⟨e1, e2, e3, e4⟩ := hfr
      have e9 : oBt (boatM M (N 36) (nI k) b c) (pA k) (N 36) = oBoat (pA k) b c 0 (-1) 0 0 0 := by
        simp [oBt, hrC, boatM, setR, upd, e1, e2, e3, e4]
      rw [e9]
    · obtain ⟨k2, hk2, hk3, hb⟩ := hB.2.1 i (by omega)
      refine ⟨k2, hk2, by unfold boatM; rw [setR_same, pk_un (by omega), pk_un (by omega), pk_un (by omega)]; exact hk3, ?_⟩
      dsimp only
      rw [if_neg h, hkk _ _ hb ⟨_, rfl⟩]
      have e0 : ∀ j, j < 8 * N 36 → boatM M (N 36) (nI k) b c 35 j = M 35 j := fun j hj => by
        unfold boatM
        rw [setR_same, pk_un (by omega), pk_un (by omega), pk_un (by omega)]
      simp only [oBt, hrC]
      rw [e0 (8 * i + 1) (by omega), e0 (8 * i + 2) (by omega), e0 (8 * i + 3) (by omega), e0 (8 * i + 4) (by omega), e0 (8 * i + 5) (by omega), e0 (8 * i + 6) (by omega), e0 (8 * i + 7) (by omega)]
  · rw [cu_same] at hi hj
    dsimp only at hij
    by_cases h : i = N 36
    · by_cases h' : j = N 36
      · omega
      · rw [if_pos h, if_neg h'] at hij
        exact absurd hij.symm (hne j (by omega))
    · by_cases h' : j = N 36
      · rw [if_neg h, if_pos h'] at hij
        exact absurd hij (hne i (by omega))
      · rw [if_neg h, if_neg h'] at hij
        exact hB.2.2 i j (by omega) (by omega) hij
def RPT (N : Nat → Nat) (M : Ms) : Prop := ∀ r, r < N 12 → ∃ p, p < N 6 ∧ M 7 r = nI p
theorem chI_nil {p : Nat} (hp : p < 2 ^ 31) : ∀ {n : Nat}, (∀ r, r < n → ∃ k, k < p ∧ M 7 r = nI k) → chI M p n = []
  | 0, _ => rfl
  | n + 1, h => by
    obtain ⟨k, hk, e⟩ := h n (by omega)
    rw [chI, if_neg (fun z => by rw [e, nI_eq (by omega) hp] at z; omega), chI_nil hp (fun r hr => h r (by omega))]
def portM (M : Ms) (n : Nat) (a b c d : Int32) : Ms := setR (setR (setR (setR M 2 (upd (M 2) n a)) 3 (upd (M 3) n b)) 4 (upd (M 4) n c)) 5 (upd (M 5) n d)
theorem portM_ne {n s : Nat} {a b c d : Int32} (h : s ≠ 2 ∧ s ≠ 3 ∧ s ≠ 4 ∧ s ≠ 5) : portM M n a b c d s = M s := by
  unfold portM
  rw [setR_ne h.2.2.2, setR_ne h.2.2.1, setR_ne h.2.1, setR_ne h.1]
theorem portM_at {n i : Nat} {a b c d : Int32} (h : i ≠ n) : portM M n a b c d 2 i = M 2 i ∧ portM M n a b c d 3 i = M 3 i ∧ portM M n a b c d 4 i = M 4 i ∧ portM M n a b c d 5 i = M 5 i := ⟨pk_un h, pk_un h, pk_un h, pk_un h⟩
theorem portM_new {n : Nat} {a b c d : Int32} : portM M n a b c d 2 n = a ∧ portM M n a b c d 3 n = b ∧ portM M n a b c d 4 n = c ∧ portM M n a b c d 5 n = d := ⟨pk_us, pk_us, pk_us, pk_us⟩
theorem CXr_addP {q ep' : Nat} {a b c d : Int32} (h : CXr cy P σ N M co gb gl wi t tb pl f lp ep pA rA lw ew wA lg eg gA lb eb bA o b1 a1 F C Kd Nm b2 a2 s2 F2 C2 K2 N2) (hn : N 6 < 244) (hr : RPT N M) (hq : σ q = some (oPort (nI (N 6)) a b c d .null)) (hAd : Added cy P σ σ' lp ep ep' (N 6) pA q) :
    CXr cy P σ' (cu N 6 (N 6 + 1)) (portM M (N 6) a b c d) co gb gl wi t tb pl f lp ep' (fun i => if i = N 6 then q else pA i) rA lw ew wA lg eg gA lb eb bA o b1 a1 F C Kd Nm b2 a2 s2 F2 C2 K2 N2 := by
  obtain ⟨hT, hf, hP, hW, hG, hB, ho, h1, hR, h2, hD, hL⟩ := h
  have hA := hP.1
  refine ⟨TQ_keep hT (keep_add (F := fun y e => (∃ vs, e = .inr (7, vs)) ∨ ∃ f, e = oInts cy 400 f) hA hAd (fun vs => ntf_obj (by decide)) (fun _ cap f => ntf_refs)), hf, ⟨?_, fun i hi => ?_⟩, WV_congr (portM_ne (by decide)) (WV_keep hW (keep_add hA hAd (fun vs => naf_lst hL.1 (by decide)) (fun hn cap f => naf_arr (el_ne hA hW.1 (by decide) hn)))),
    GV_congr (fun s h _ => portM_ne (by omega)) (GV_keep hG (keep_add hA hAd (fun vs => naf_lst hL.2.1 (by decide)) (fun hn cap f => naf_arr (el_ne hA hG.1 (by decide) hn)))), BV_np (np := N 6) (by rw [cu_same]; omega) (fun i hi => if_neg (by omega)) (BV_congr (portM_ne (by decide)) (BV_keep hB (keep_add hA hAd (fun vs => naf_lst hL.2.2.1 (by decide)) (fun hn cap f => naf_arr (el_ne hA hB.1 (by decide) hn))))),
    keep_add (F := fun y e => ∃ vs, e = .inr (3, vs)) hA hAd (fun vs z => by obtain ⟨v, z⟩ := z; cases z) (fun _ cap f z => by obtain ⟨v, z⟩ := z; cases z) _ _ ho ⟨_, rfl⟩, BK_add h1 hA hAd, hR, BK_add h2 hA hAd, hD, hL⟩
  · exact AL_add hA hAd hq (by decide) hn
  · have hk : ∀ y e, σ y = some e → (∃ vs, e = .inr (4, vs)) → σ' y = some e := keep_add (F := fun y e => ∃ vs, e = .inr (4, vs)) hA hAd (fun vs z => by obtain ⟨v, z⟩ := z; cases z) (fun _ cap f z => by obtain ⟨v, z⟩ := z; cases z)
    have hk5 : ∀ y vs, σ y = some (.inr (5, vs)) → σ' y = some (.inr (5, vs)) := fun y vs h9 => keep_add (F := fun y e => ∃ vs, e = .inr (5, vs)) hA hAd (fun vs z => by obtain ⟨v, z⟩ := z; cases z) (fun _ cap f z => by obtain ⟨v, z⟩ := z; cases z) _ _ h9 ⟨_, rfl⟩
    rw [cu_same] at hi
    rw [cu_ne (by decide)]
    dsimp only
    by_cases h : i = N 6
    · subst h
      obtain ⟨e1, e2, e3, e4⟩ := portM_new (M := M) (n := N 6) (a := a) (b := b) (c := c) (d := d)
      refine ⟨.null, ?_, ?_⟩
      · rw [if_pos rfl, hk _ _ hq ⟨_, rfl⟩]
        simp only [oPt, e1, e2, e3, e4]
      · rw [chI_congr (portM_ne (by decide)), chI_nil (by omega) hr]
        rfl
    · obtain ⟨la, hp, hc⟩ := hP.2 i (by omega)
      obtain ⟨e1, e2, e3, e4⟩ := portM_at (M := M) (n := N 6) (i := i) (a := a) (b := b) (c := c) (d := d) h
      refine ⟨la, ?_, ?_⟩
      · rw [if_neg h, hk _ _ hp ⟨_, rfl⟩]
        simp only [oPt, e1, e2, e3, e4]
      · rw [chI_congr (portM_ne (by decide))]
        have : rpt (portM M (N 6) a b c d) i rA = rpt M i rA := by
          funext r
          simp only [rpt, e4, portM_ne (M := M) (n := N 6) (a := a) (b := b) (c := c) (d := d) (s := 8) (by decide), portM_ne (M := M) (n := N 6) (a := a) (b := b) (c := c) (d := d) (s := 9) (by decide), portM_ne (M := M) (n := N 6) (a := a) (b := b) (c := c) (d := d) (s := 10) (by decide), portM_ne (M := M) (n := N 6) (a := a) (b := b) (c := c) (d := d) (s := 11) (by decide)]
        rw [this]
        exact chn_keep hk5 hc
end ADDS
