/-! ===== StormFlags: rules(), and a new object ===== -/
section RUL2
variable {cy : Nat → ClassId} {P : Pm} {σ σ' : Hp} {N : Nat → Nat} {M M' : Ms} {co gb gl wi : Int32} {x : Nat}
variable {t : Nat} {tb : Nat} {pl : Int32} {f : Nat → Int32} {lp : Nat} {ep : Nat} {pA : Nat → Nat} {rA : Nat → Nat} {lw : Nat} {ew : Nat} {wA : Nat → Nat} {lg : Nat} {eg : Nat} {gA : Nat → Nat} {lb : Nat} {eb : Nat} {bA : Nat → Nat} {o : Nat} {b1 : Nat} {a1 : BA} {F : Nat → Int32} {C : Nat → Int32} {Kd : Nat → Nat → Int32} {Nm : Nat → Nat → Int32} {b2 : Nat} {a2 : BA} {s2 : Nat} {F2 : Nat → Int32} {C2 : Nat → Int32} {K2 : Nat → Nat → Int32} {N2 : Nat → Nat → Int32}
def noB (cy : Nat → ClassId) (e : va_E) : Prop := (∀ vs, e ≠ .inr (6, vs)) ∧ (∀ vs, e ≠ .inr (7, vs)) ∧ ∀ n g, e ≠ oInts cy n g
theorem af_noB {q el n ci y : Nat} {g : Nat → Nat} {e : va_E} (hA : AL cy P σ q el n g ci) (hy : σ y = some e) (ha : AF q el ci y e) (h6 : ci ≠ 6) (h7 : ci ≠ 7) (hz : σ P.2.1.1 = none) : noB cy e := by
  rcases ha with ⟨-, vs, rfl⟩ | ⟨rfl, z, -⟩ | ⟨vs, rfl⟩
  · exact ⟨fun vs z => (by cases z), fun vs z => (by cases z), fun n g z => (by cases z)⟩
  · rcases hA.2.2.1 with ⟨-, h⟩ | ⟨-, -, f1, hf1, -⟩
    · rw [h, hz] at hy; cases hy
    · rw [hf1] at hy
      cases hy
      exact ⟨fun vs z => (by cases z), fun vs z => (by cases z), fun n g z => (by simp at z)⟩
  · exact ⟨fun vs z => (by cases z; exact h6 rfl), fun vs z => (by cases z; exact h7 rfl), fun n g z => (by cases z)⟩
/-- the draft has been filled anew, the tape's place has moved -/
theorem CXr_read {sz' q9 : Nat} {F' C' : Nat → Int32} {Kd' Nm' : Nat → Nat → Int32} (h : CXr cy P σ N M co gb gl wi t tb pl f lp ep pA rA lw ew wA lg eg gA lb eb bA o b1 a1 F C Kd Nm b2 a2 s2 F2 C2 K2 N2) (hz : σ P.2.1.1 = none) (hB' : BK cy σ' b2 a2 sz' F' C' Kd' Nm') (hT' : TP cy σ' t tb (N 19) q9 f)
    (hfr : ∀ y, y ≠ b2 → y ≠ t → y ≠ a2.1 → y ≠ a2.2.1 → (∀ i, i < 8 → y ≠ a2.2.2.2.2.1 i) → (∀ i, i < 8 → y ≠ a2.2.2.2.2.2 i) → σ' y = σ y) :
    CXr cy P σ' N M co gb gl wi t tb (nI q9) f lp ep pA rA lw ew wA lg eg gA lb eb bA o b1 a1 F C Kd Nm b2 a2 sz' F' C' Kd' Nm' := by
  obtain ⟨hT, hf, hP, hW, hG, hB, ho, h1, hR, h2, hD, hL⟩ := h
  obtain ⟨k1, k2, k3, k4, k5, k6, k7, k8⟩ := id h2
  have hk : ∀ y e, σ y = some e → noB cy e → σ' y = some e := fun y e g1 g2 => by
    rw [hfr y (fun z => by subst z; rw [k1] at g1; cases g1; exact g2.1 _ rfl) (fun z => by subst z; rw [hT.1] at g1; cases g1; exact g2.2.1 _ rfl) (fun z => by subst z; rw [k2] at g1; cases g1; exact g2.2.2 _ _ rfl) (fun z => by subst z; rw [k3] at g1; cases g1; exact g2.2.2 _ _ rfl)
      (fun i hi z => by subst z; rw [k6 i hi] at g1; cases g1; exact g2.2.2 _ _ rfl) (fun i hi z => by subst z; rw [k7 i hi] at g1; cases g1; exact g2.2.2 _ _ rfl)]
    exact g1
  refine ⟨TP_Q hT', hf, PV_keep hP (fun y e g1 g2 => hk y e g1 ?_), WV_keep hW (fun y e g1 g2 => hk y e g1 (af_noB hW.1 g1 g2 (by decide) (by decide) hz)), GV_keep hG (fun y e g1 g2 => hk y e g1 (af_noB hG.1 g1 g2 (by decide) (by decide) hz)), BV_keep hB (fun y e g1 g2 => hk y e g1 (af_noB hB.1 g1 g2 (by decide) (by decide) hz)),
    hk _ _ ho ⟨fun vs z => (by cases z), fun vs z => (by cases z), fun n g z => (by cases z)⟩, BK_keep h1 (fun y e g1 g2 => ?_), hR, hB', hD, hL⟩
  · rcases g2 with g2 | ⟨vs, rfl⟩
    · exact af_noB hP.1 g1 g2 (by decide) (by decide) hz
    · exact ⟨fun vs z => (by cases z), fun vs z => (by cases z), fun n g z => (by cases z)⟩
  · have g3 : y ≠ b2 ∧ ¬ BkIn a2 y := by
      constructor
      · intro z
        subst z
        rcases g2 with g2 | g2
        · exact hD.1 g2.symm
        · rw [k1] at g1
          cases g1
          rcases bk_kind h1 k1 (Or.inr g2) with ⟨vs', z⟩ | ⟨n, f, -, z⟩ | ⟨f, -, z⟩
          · rcases g2 with g | g | g | g | ⟨i, hi, g⟩ | ⟨i, hi, g⟩
            · rw [g, h1.2.1] at k1; cases k1
            · rw [g, h1.2.2.1] at k1; cases k1
            · rw [g, h1.2.2.2.1] at k1; cases k1
            · rw [g, h1.2.2.2.2.1] at k1; cases k1
            · rw [g, h1.2.2.2.2.2.1 i hi] at k1; cases k1
            · rw [g, h1.2.2.2.2.2.2.1 i hi] at k1; cases k1
          · cases z
          · cases z
      · intro z
        rcases g2 with g2 | g2
        · subst g2
          rw [h1.1] at g1
          cases g1
          rcases z with g | g | g | g | ⟨i, hi, g⟩ | ⟨i, hi, g⟩
          · rw [← g, h1.1] at k2; cases k2
          · rw [← g, h1.1] at k3; cases k3
          · rw [← g, h1.1] at k4; cases k4
          · rw [← g, h1.1] at k5; cases k5
          · have := k6 i hi; rw [← g, h1.1] at this; cases this
          · have := k7 i hi; rw [← g, h1.1] at this; cases this
        · exact hD.2 y g2 z
    rw [hfr y g3.1 (fun z => by
        subst z
        rw [hT.1] at g1
        cases g1
        rcases bk_kind h1 hT.1 g2 with ⟨vs', z⟩ | ⟨n, f, -, z⟩ | ⟨f, -, z⟩
        · cases z
        · cases z
        · cases z) (fun z => g3.2 (Or.inl z)) (fun z => g3.2 (Or.inr (Or.inl z))) (fun i hi z => g3.2 (Or.inr (Or.inr (Or.inr (Or.inr (Or.inl ⟨i, hi, z⟩)))))) (fun i hi z => g3.2 (Or.inr (Or.inr (Or.inr (Or.inr (Or.inr ⟨i, hi, z⟩))))))]
    exact g1
theorem CXr_M (h : CXr cy P σ N M co gb gl wi t tb pl f lp ep pA rA lw ew wA lg eg gA lb eb bA o b1 a1 F C Kd Nm b2 a2 s2 F2 C2 K2 N2) (hs : ∀ s, s ≠ 13 → s ≠ 14 → s ≠ 15 → s ≠ 16 → s ≠ 23 → M' s = M s) (hR' : RUL F C Kd Nm (N 17) M') : CXr cy P σ N M' co gb gl wi t tb pl f lp ep pA rA lw ew wA lg eg gA lb eb bA o b1 a1 F C Kd Nm b2 a2 s2 F2 C2 K2 N2 := by
  obtain ⟨hT, hf, hP, hW, hG, hB, ho, h1, hR, h2, hD, hL⟩ := h
  have e := fun s (h : s < 13 ∨ (16 < s ∧ s ≠ 23)) => hs s (by omega) (by omega) (by omega) (by omega) (by omega)
  exact ⟨hT, by rw [e 18 (by decide)]; exact hf, PV_congr (fun s _ _ => e s (by omega)) hP, WV_congr (e 25 (by decide)) hW, GV_congr (fun s _ _ => e s (by omega)) hG, BV_congr (e 35 (by decide)) hB, ho, h1, hR', h2, hD, hL⟩
end RUL2
def sameX (M M' : Ms) : Prop := ∀ s, s ≠ 13 → s ≠ 14 → s ≠ 15 → s ≠ 16 → s ≠ 23 → M' s = M s
def sameU (n : Nat) (M M' : Ms) : Prop := ∀ k, k < n → M' 13 k = M 13 k ∧ M' 14 k = M 14 k ∧ ∀ c, c < 4 → M' 15 (4 * k + c) = M 15 (4 * k + c) ∧ M' 16 (4 * k + c) = M 16 (4 * k + c)
def iv_X8_rules (cy : Nat → ClassId) (P : Pm) : Nat → Nat → Option Sg
  | 0, 142 => some (sp_X5_readFrom cy P)
  | 0, 71 => some (sp_X6_cutTo cy P)
  | 0, 148 => some (sp_X5_size cy P)
  | _, _ => none
def th_X8_rules : Nat → Option String
  | 32 => some "java/lang/IllegalArgumentException"
  | _ => none
def sp_X8_rules (cy : Nat → ClassId) (P : Pm) : Sg := mI 9 [] (fun _ _ => (1, 6)) (fun as σ K KX => match as with
  | [.ref x] => ∃ N M, CX cy P σ x N M ∧
      (¬ (rdText (M 18) (N 19)).1 = -1 → ∀ σ', (∀ M', sameX M M' → M' 23 0 = (rdText (M 18) (N 19)).1 → sameU (N 17) M M' → CX cy P σ' x (cu N 19 0) M') → KX "java/lang/IllegalArgumentException" σ') ∧
      ((rdText (M 18) (N 19)).1 = -1 → ∀ σ', (∀ M', sameX M M' → M' 23 0 = -1 → RULs M' (rdText (M 18) (N 19)).2 → CX cy P σ' x (cu (cu N 19 0) 17 (rdText (M 18) (N 19)).2.length) M') → K (some (.int (nI (rdText (M 18) (N 19)).2.length))) σ')
  | _ => False)
set_option maxRecDepth 8000 in
set_option maxHeartbeats 8000000 in
theorem m_X8_rules (cy : Nat → ClassId) (P : Pm) (hP : PmOK P) : MOK (cl_X8 P) cy P.2.1 obj cX8_rules (iv_X8_rules cy P) th_X8_rules (fun _ => some none) (some .int) 2 (sp_X8_rules cy P) := by
  intro as σ K KX J hlen hT hJ hOld
  obtain ⟨-, -, hT⟩ := hT
  split at hT
  · rename_i x
    obtain ⟨N, M, ⟨co, gb, gl, wi, t, tb, pl, f, lp, ep, pA, rA, lw, ew, wA, lg, eg, gA, lb, eb, bA, o, b1, a1, F, C, Kd, Nm, b2, a2, s2, F2, C2, K2, N2, hx, hC⟩, hX, hK⟩ := hT
    obtain ⟨hT, hf, hP, hW, hG, hB, ho, h1, hR, h2, hD, hL⟩ := id hC
    rw [← rdText_congr hf] at hX hK
    refine wp_of_S hJ (ct [12]) 400 _ _ _ _ _ _ ?_
    simp only [w_aload_n (cut := ct [12]) (pc' := 1) (i := 0) rfl dX8_rules_0 rfl rfl, w_aload_n (cut := ct [12]) (pc' := 2) (i := 0) rfl dX8_rules_1 rfl rfl, w_getfield (cut := ct [12]) (pc' := 5) rfl dX8_rules_2 rfl (q_X8_f46 P), w_aload_n (cut := ct [12]) (pc' := 6) (i := 0) rfl dX8_rules_5 rfl rfl, w_getfield (cut := ct [12]) (pc' := 9) rfl dX8_rules_6 rfl (q_X8_f10 P), w_invoke (inv := iv_X8_rules cy P) (kd := 0) (f := 142) (g := sp_X5_readFrom cy P) (cut := ct [12]) rfl dX8_rules_9 rfl (by decide) rfl, w_cut (cut := ct [12]) (pc := 12) rfl, w_aload_n (cut := ct [12]) (pc' := 16) (i := 0) rfl dX8_rules_15 rfl rfl, w_getfield (cut := ct [12]) (pc' := 19) rfl dX8_rules_16 rfl (q_X8_f10 P), w_iconst (cut := ct [12]) (pc' := 20) (v := 0) rfl dX8_rules_19 rfl rfl, w_invoke (inv := iv_X8_rules cy P) (kd := 0) (f := 71) (g := sp_X6_cutTo cy P) (cut := ct [12]) rfl dX8_rules_20 rfl (by decide) rfl, w_pop (cut := ct [12]) (pc' := 24) rfl dX8_rules_23 rfl, w_aload_n (cut := ct [12]) (pc' := 25) (i := 0) rfl dX8_rules_24 rfl rfl, w_getfield (cut := ct [12]) (pc' := 28) rfl dX8_rules_25 rfl (q_X8_f49 P), w_iconst (cut := ct [12]) (pc' := 29) (v := (-1)) rfl dX8_rules_28 rfl rfl, w_icmp_eq (cut := ct [12]) (pc' := 32) (t := 42) rfl dX8_rules_29 rfl (by decide) rfl, w_throw (thr := th_X8_rules) (E := "java/lang/IllegalArgumentException") (cut := ct [12]) rfl dX8_rules_32 rfl, w_dup (cut := ct [12]) (pc' := 36) rfl dX8_rules_35 rfl, w_aload_n (cut := ct [12]) (pc' := 43) (i := 0) rfl dX8_rules_42 rfl rfl, w_getfield (cut := ct [12]) (pc' := 46) rfl dX8_rules_43 rfl (q_X8_f42 P), w_astore_n (cut := ct [12]) (pc' := 47) (i := 1) rfl dX8_rules_46 rfl rfl, w_astore_nN (cut := ct [12]) (pc' := 47) (i := 1) rfl dX8_rules_46 rfl rfl, w_aload_n (cut := ct [12]) (pc' := 48) (i := 0) rfl dX8_rules_47 rfl rfl, w_aload_n (cut := ct [12]) (pc' := 49) (i := 0) rfl dX8_rules_48 rfl rfl, w_getfield (cut := ct [12]) (pc' := 52) rfl dX8_rules_49 rfl (q_X8_f46 P), w_putfield (cut := ct [12]) (pc' := 55) rfl dX8_rules_52 rfl (q_X8_f42 P), w_aload_n (cut := ct [12]) (pc' := 56) (i := 0) rfl dX8_rules_55 rfl rfl, w_aload_n (cut := ct [12]) (pc' := 57) (i := 1) rfl dX8_rules_56 rfl rfl, w_putfield (cut := ct [12]) (pc' := 60) rfl dX8_rules_57 rfl (q_X8_f46 P), w_aload_n (cut := ct [12]) (pc' := 61) (i := 0) rfl dX8_rules_60 rfl rfl, w_getfield (cut := ct [12]) (pc' := 64) rfl dX8_rules_61 rfl (q_X8_f42 P), w_invoke (inv := iv_X8_rules cy P) (kd := 0) (f := 148) (g := sp_X5_size cy P) (cut := ct [12]) rfl dX8_rules_64 rfl (by decide) rfl, w_ireturnI (cut := ct [12]) rfl dX8_rules_67 rfl, rsum, cg_int, cg_ref, cg_null, nby0, strd, mStr, onAL, true_imp_iff, false_imp_iff, not_true_eq_false, not_false_eq_true, Classical.not_not, eq_self, e10, e01, em1, Int32.reduceLT, Int32.reduceLE, onBoat, onGale, onOut, onPort, onRep, onWarn, yn, mI, mS, b0, okA, rcvd, nb0, nb1, ini, List.map_cons, List.map_nil, List.replicate_zero, List.replicate_succ, List.append_nil, ldI, ldA, incK, getK, putK, oldK, castK, inv1, nwO, nwA, nwR, alen, ald, bald, ast, lald, last, rald, rast, goTo, nth, sto, setN, popN, okv, cat1_int, cat1_ref, cat1_null, cat1_rf, va_rf, hup_same, hup_hup, List.length_cons, List.length_nil, List.nil_append, List.cons_append, Option.toList, true_and, and_true, Nat.reduceAdd, Nat.reduceSub, Nat.reduceLT, Nat.reduceLeDiff, Nat.zero_le, Nat.sub_zero, Nat.zero_lt_succ, Nat.lt_add_left_iff_pos, Nat.succ_lt_succ_iff, sp_X8_rules, hx, h2.1, sp_X5_readFrom]
    refine ⟨a2, s2, F2, C2, K2, N2, tb, N 19, pl, f, h2, hT, fun σ1 sz' F' C' Kd' Nm' q9 hB' hT' hfr hrow => ?_⟩
    have hC1 := CXr_read hC hOld.1 hB' hT' hfr
    have hx1 : σ1 x = some (oSF t lp lw lg lb o b1 b2 (M 23 0) (nI (N 12)) (nI (N 1))) := by
      rw [hfr x (kne hx h2.1 (by intro z; cases z)) (kne hx hT.1 (by intro z; cases z)) (kne hx h2.2.1 (by intro z; cases z)) (kne hx h2.2.2.1 (by intro z; cases z)) (fun i hi => kne hx (h2.2.2.2.2.2.1 i hi) (by intro z; cases z)) (fun i hi => kne hx (h2.2.2.2.2.2.2.1 i hi) (by intro z; cases z))]
      exact hx
    generalize hv : (rdText f (N 19)).1 = v at hX hK hrow ⊢
    have htx : t ≠ x := kne hT.1 hx (by intro z; cases z)
    have ht1 : σ1 t = some (oTape tb (nI (N 19)) (nI q9)) := hT'.1
    have hC2 := CXr_x (e' := oSF t lp lw lg lb o b1 b2 v (nI (N 12)) (nI (N 1))) hC1 hx1
    have hx2 := hup_same σ1 x (oSF t lp lw lg lb o b1 b2 v (nI (N 12)) (nI (N 1)))
    have ht2 : hup σ1 x (oSF t lp lw lg lb o b1 b2 v (nI (N 12)) (nI (N 1))) t = some (oTape tb (nI (N 19)) (nI q9)) := (hup_ne _ _ htx).trans ht1
    refine wp_of_S hJ (ct [15]) 400 _ _ _ _ _ _ ?_
    simp only [w_aload_n (cut := ct [15]) (pc' := 1) (i := 0) rfl dX8_rules_0 rfl rfl, w_aload_n (cut := ct [15]) (pc' := 2) (i := 0) rfl dX8_rules_1 rfl rfl, w_getfield (cut := ct [15]) (pc' := 5) rfl dX8_rules_2 rfl (q_X8_f46 P), w_aload_n (cut := ct [15]) (pc' := 6) (i := 0) rfl dX8_rules_5 rfl rfl, w_getfield (cut := ct [15]) (pc' := 9) rfl dX8_rules_6 rfl (q_X8_f10 P), w_invoke (inv := iv_X8_rules cy P) (kd := 0) (f := 142) (g := sp_X5_readFrom cy P) (cut := ct [15]) rfl dX8_rules_9 rfl (by decide) rfl, w_putfield (cut := ct [15]) (pc' := 15) rfl dX8_rules_12 rfl (q_X8_f49 P), w_cut (cut := ct [15]) (pc := 15) rfl, w_getfield (cut := ct [15]) (pc' := 19) rfl dX8_rules_16 rfl (q_X8_f10 P), w_iconst (cut := ct [15]) (pc' := 20) (v := 0) rfl dX8_rules_19 rfl rfl, w_invoke (inv := iv_X8_rules cy P) (kd := 0) (f := 71) (g := sp_X6_cutTo cy P) (cut := ct [15]) rfl dX8_rules_20 rfl (by decide) rfl, w_pop (cut := ct [15]) (pc' := 24) rfl dX8_rules_23 rfl, w_aload_n (cut := ct [15]) (pc' := 25) (i := 0) rfl dX8_rules_24 rfl rfl, w_getfield (cut := ct [15]) (pc' := 28) rfl dX8_rules_25 rfl (q_X8_f49 P), w_iconst (cut := ct [15]) (pc' := 29) (v := (-1)) rfl dX8_rules_28 rfl rfl, w_icmp_eq (cut := ct [15]) (pc' := 32) (t := 42) rfl dX8_rules_29 rfl (by decide) rfl, w_throw (thr := th_X8_rules) (E := "java/lang/IllegalArgumentException") (cut := ct [15]) rfl dX8_rules_32 rfl, w_dup (cut := ct [15]) (pc' := 36) rfl dX8_rules_35 rfl, w_aload_n (cut := ct [15]) (pc' := 43) (i := 0) rfl dX8_rules_42 rfl rfl, w_getfield (cut := ct [15]) (pc' := 46) rfl dX8_rules_43 rfl (q_X8_f42 P), w_astore_n (cut := ct [15]) (pc' := 47) (i := 1) rfl dX8_rules_46 rfl rfl, w_astore_nN (cut := ct [15]) (pc' := 47) (i := 1) rfl dX8_rules_46 rfl rfl, w_aload_n (cut := ct [15]) (pc' := 48) (i := 0) rfl dX8_rules_47 rfl rfl, w_aload_n (cut := ct [15]) (pc' := 49) (i := 0) rfl dX8_rules_48 rfl rfl, w_getfield (cut := ct [15]) (pc' := 52) rfl dX8_rules_49 rfl (q_X8_f46 P), w_putfield (cut := ct [15]) (pc' := 55) rfl dX8_rules_52 rfl (q_X8_f42 P), w_aload_n (cut := ct [15]) (pc' := 56) (i := 0) rfl dX8_rules_55 rfl rfl, w_aload_n (cut := ct [15]) (pc' := 57) (i := 1) rfl dX8_rules_56 rfl rfl, w_putfield (cut := ct [15]) (pc' := 60) rfl dX8_rules_57 rfl (q_X8_f46 P), w_aload_n (cut := ct [15]) (pc' := 61) (i := 0) rfl dX8_rules_60 rfl rfl, w_getfield (cut := ct [15]) (pc' := 64) rfl dX8_rules_61 rfl (q_X8_f42 P), w_invoke (inv := iv_X8_rules cy P) (kd := 0) (f := 148) (g := sp_X5_size cy P) (cut := ct [15]) rfl dX8_rules_64 rfl (by decide) rfl, w_ireturnI (cut := ct [15]) rfl dX8_rules_67 rfl, rsum, cg_int, cg_ref, cg_null, nby0, strd, mStr, onAL, true_imp_iff, false_imp_iff, not_true_eq_false, not_false_eq_true, Classical.not_not, eq_self, e10, e01, em1, Int32.reduceLT, Int32.reduceLE, onBoat, onGale, onOut, onPort, onRep, onWarn, yn, mI, mS, b0, okA, rcvd, nb0, nb1, ini, List.map_cons, List.map_nil, List.replicate_zero, List.replicate_succ, List.append_nil, ldI, ldA, incK, getK, putK, oldK, castK, inv1, nwO, nwA, nwR, alen, ald, bald, ast, lald, last, rald, rast, goTo, nth, sto, setN, popN, okv, cat1_int, cat1_ref, cat1_null, cat1_rf, va_rf, hup_same, hup_hup, List.length_cons, List.length_nil, List.nil_append, List.cons_append, Option.toList, true_and, and_true, Nat.reduceAdd, Nat.reduceSub, Nat.reduceLT, Nat.reduceLeDiff, Nat.zero_le, Nat.sub_zero, Nat.zero_lt_succ, Nat.lt_add_left_iff_pos, Nat.succ_lt_succ_iff, hx1]
    generalize hup σ1 x (oSF t lp lw lg lb o b1 b2 v (nI (N 12)) (nI (N 1))) = σ2 at hC2 hx2 ht2 ⊢
    have hL0 : ¬ (False ∨ nI (N 19) < 0) := fun z => by
      rcases z with z | z
      · exact z
      · exact absurd z (nI_pos (by have := hT.2.2; omega))
    have hC3 := CXr_tp (k := 0) (p9 := nI q9) hC2 (Nat.zero_le _)
    have hx3 : hup σ2 t (oTape tb (nI 0) (nI q9)) x = some (oSF t lp lw lg lb o b1 b2 v (nI (N 12)) (nI (N 1))) := (hup_ne _ _ (Ne.symm htx)).trans hx2
    rw [nI_0] at hC3 hx3
    refine wp_of_S hJ (ct [23]) 400 _ _ _ _ _ _ ?_
    simp only [w_aload_n (cut := ct [23]) (pc' := 1) (i := 0) rfl dX8_rules_0 rfl rfl, w_aload_n (cut := ct [23]) (pc' := 2) (i := 0) rfl dX8_rules_1 rfl rfl, w_getfield (cut := ct [23]) (pc' := 5) rfl dX8_rules_2 rfl (q_X8_f46 P), w_aload_n (cut := ct [23]) (pc' := 6) (i := 0) rfl dX8_rules_5 rfl rfl, w_getfield (cut := ct [23]) (pc' := 9) rfl dX8_rules_6 rfl (q_X8_f10 P), w_invoke (inv := iv_X8_rules cy P) (kd := 0) (f := 142) (g := sp_X5_readFrom cy P) (cut := ct [23]) rfl dX8_rules_9 rfl (by decide) rfl, w_putfield (cut := ct [23]) (pc' := 15) rfl dX8_rules_12 rfl (q_X8_f49 P), w_aload_n (cut := ct [23]) (pc' := 16) (i := 0) rfl dX8_rules_15 rfl rfl, w_getfield (cut := ct [23]) (pc' := 19) rfl dX8_rules_16 rfl (q_X8_f10 P), w_iconst (cut := ct [23]) (pc' := 20) (v := 0) rfl dX8_rules_19 rfl rfl, w_invoke (inv := iv_X8_rules cy P) (kd := 0) (f := 71) (g := sp_X6_cutTo cy P) (cut := ct [23]) rfl dX8_rules_20 rfl (by decide) rfl, w_cut (cut := ct [23]) (pc := 23) rfl, w_aload_n (cut := ct [23]) (pc' := 25) (i := 0) rfl dX8_rules_24 rfl rfl, w_getfield (cut := ct [23]) (pc' := 28) rfl dX8_rules_25 rfl (q_X8_f49 P), w_iconst (cut := ct [23]) (pc' := 29) (v := (-1)) rfl dX8_rules_28 rfl rfl, w_icmp_eq (cut := ct [23]) (pc' := 32) (t := 42) rfl dX8_rules_29 rfl (by decide) rfl, w_throw (thr := th_X8_rules) (E := "java/lang/IllegalArgumentException") (cut := ct [23]) rfl dX8_rules_32 rfl, w_dup (cut := ct [23]) (pc' := 36) rfl dX8_rules_35 rfl, w_aload_n (cut := ct [23]) (pc' := 43) (i := 0) rfl dX8_rules_42 rfl rfl, w_getfield (cut := ct [23]) (pc' := 46) rfl dX8_rules_43 rfl (q_X8_f42 P), w_astore_n (cut := ct [23]) (pc' := 47) (i := 1) rfl dX8_rules_46 rfl rfl, w_astore_nN (cut := ct [23]) (pc' := 47) (i := 1) rfl dX8_rules_46 rfl rfl, w_aload_n (cut := ct [23]) (pc' := 48) (i := 0) rfl dX8_rules_47 rfl rfl, w_aload_n (cut := ct [23]) (pc' := 49) (i := 0) rfl dX8_rules_48 rfl rfl, w_getfield (cut := ct [23]) (pc' := 52) rfl dX8_rules_49 rfl (q_X8_f46 P), w_putfield (cut := ct [23]) (pc' := 55) rfl dX8_rules_52 rfl (q_X8_f42 P), w_aload_n (cut := ct [23]) (pc' := 56) (i := 0) rfl dX8_rules_55 rfl rfl, w_aload_n (cut := ct [23]) (pc' := 57) (i := 1) rfl dX8_rules_56 rfl rfl, w_putfield (cut := ct [23]) (pc' := 60) rfl dX8_rules_57 rfl (q_X8_f46 P), w_aload_n (cut := ct [23]) (pc' := 61) (i := 0) rfl dX8_rules_60 rfl rfl, w_getfield (cut := ct [23]) (pc' := 64) rfl dX8_rules_61 rfl (q_X8_f42 P), w_invoke (inv := iv_X8_rules cy P) (kd := 0) (f := 148) (g := sp_X5_size cy P) (cut := ct [23]) rfl dX8_rules_64 rfl (by decide) rfl, w_ireturnI (cut := ct [23]) rfl dX8_rules_67 rfl, rsum, cg_int, cg_ref, cg_null, nby0, strd, mStr, onAL, true_imp_iff, false_imp_iff, not_true_eq_false, not_false_eq_true, Classical.not_not, eq_self, e10, e01, em1, Int32.reduceLT, Int32.reduceLE, onBoat, onGale, onOut, onPort, onRep, onWarn, yn, mI, mS, b0, okA, rcvd, nb0, nb1, ini, List.map_cons, List.map_nil, List.replicate_zero, List.replicate_succ, List.append_nil, ldI, ldA, incK, getK, putK, oldK, castK, inv1, nwO, nwA, nwR, alen, ald, bald, ast, lald, last, rald, rast, goTo, nth, sto, setN, popN, okv, cat1_int, cat1_ref, cat1_null, cat1_rf, va_rf, hup_same, hup_hup, List.length_cons, List.length_nil, List.nil_append, List.cons_append, Option.toList, true_and, and_true, Nat.reduceAdd, Nat.reduceSub, Nat.reduceLT, Nat.reduceLeDiff, Nat.zero_le, Nat.sub_zero, Nat.zero_lt_succ, Nat.lt_add_left_iff_pos, Nat.succ_lt_succ_iff, hx2, ht2, sp_X6_cutTo]
    refine ⟨tb, nI (N 19), nI q9, rfl, fun _ => ?_, fun z => absurd z hL0⟩
    generalize hup σ2 t (oTape tb 0 (nI q9)) = σ3 at hC3 hx3 ⊢
    by_cases hv1 : v = -1
    · have hv2 : (v = -1) = True := eq_true hv1
      obtain ⟨hsz, hrows⟩ := hrow hv1
      have hbk := hC3.2.2.2.2.2.2.2.2.2.1.1
      have hxb : b2 ≠ x := kne hbk hx3 (by intro z; cases z)
      have hC4 := CXr_x (e' := oSF t lp lw lg lb o b2 b1 v (nI (N 12)) (nI (N 1))) hC3 hx3
      have hx4 := hup_same σ3 x (oSF t lp lw lg lb o b2 b1 v (nI (N 12)) (nI (N 1)))
      have hb4 : hup σ3 x (oSF t lp lw lg lb o b2 b1 v (nI (N 12)) (nI (N 1))) b2 = some (oBook a2.1 a2.2.1 a2.2.2.1 a2.2.2.2.1 (nI sz')) := (hup_ne _ _ hxb).trans hbk
      refine wp_of_S hJ (ct [60]) 400 _ _ _ _ _ _ ?_
      simp only [w_aload_n (cut := ct [60]) (pc' := 1) (i := 0) rfl dX8_rules_0 rfl rfl, w_aload_n (cut := ct [60]) (pc' := 2) (i := 0) rfl dX8_rules_1 rfl rfl, w_getfield (cut := ct [60]) (pc' := 5) rfl dX8_rules_2 rfl (q_X8_f46 P), w_aload_n (cut := ct [60]) (pc' := 6) (i := 0) rfl dX8_rules_5 rfl rfl, w_getfield (cut := ct [60]) (pc' := 9) rfl dX8_rules_6 rfl (q_X8_f10 P), w_invoke (inv := iv_X8_rules cy P) (kd := 0) (f := 142) (g := sp_X5_readFrom cy P) (cut := ct [60]) rfl dX8_rules_9 rfl (by decide) rfl, w_putfield (cut := ct [60]) (pc' := 15) rfl dX8_rules_12 rfl (q_X8_f49 P), w_aload_n (cut := ct [60]) (pc' := 16) (i := 0) rfl dX8_rules_15 rfl rfl, w_getfield (cut := ct [60]) (pc' := 19) rfl dX8_rules_16 rfl (q_X8_f10 P), w_iconst (cut := ct [60]) (pc' := 20) (v := 0) rfl dX8_rules_19 rfl rfl, w_invoke (inv := iv_X8_rules cy P) (kd := 0) (f := 71) (g := sp_X6_cutTo cy P) (cut := ct [60]) rfl dX8_rules_20 rfl (by decide) rfl, w_pop (cut := ct [60]) (pc' := 24) rfl dX8_rules_23 rfl, w_aload_n (cut := ct [60]) (pc' := 25) (i := 0) rfl dX8_rules_24 rfl rfl, w_getfield (cut := ct [60]) (pc' := 28) rfl dX8_rules_25 rfl (q_X8_f49 P), w_iconst (cut := ct [60]) (pc' := 29) (v := (-1)) rfl dX8_rules_28 rfl rfl, w_icmp_eq (cut := ct [60]) (pc' := 32) (t := 42) rfl dX8_rules_29 rfl (by decide) rfl, w_throw (thr := th_X8_rules) (E := "java/lang/IllegalArgumentException") (cut := ct [60]) rfl dX8_rules_32 rfl, w_dup (cut := ct [60]) (pc' := 36) rfl dX8_rules_35 rfl, w_aload_n (cut := ct [60]) (pc' := 43) (i := 0) rfl dX8_rules_42 rfl rfl, w_getfield (cut := ct [60]) (pc' := 46) rfl dX8_rules_43 rfl (q_X8_f42 P), w_astore_n (cut := ct [60]) (pc' := 47) (i := 1) rfl dX8_rules_46 rfl rfl, w_astore_nN (cut := ct [60]) (pc' := 47) (i := 1) rfl dX8_rules_46 rfl rfl, w_aload_n (cut := ct [60]) (pc' := 48) (i := 0) rfl dX8_rules_47 rfl rfl, w_aload_n (cut := ct [60]) (pc' := 49) (i := 0) rfl dX8_rules_48 rfl rfl, w_getfield (cut := ct [60]) (pc' := 52) rfl dX8_rules_49 rfl (q_X8_f46 P), w_putfield (cut := ct [60]) (pc' := 55) rfl dX8_rules_52 rfl (q_X8_f42 P), w_aload_n (cut := ct [60]) (pc' := 56) (i := 0) rfl dX8_rules_55 rfl rfl, w_aload_n (cut := ct [60]) (pc' := 57) (i := 1) rfl dX8_rules_56 rfl rfl, w_putfield (cut := ct [60]) (pc' := 60) rfl dX8_rules_57 rfl (q_X8_f46 P), w_cut (cut := ct [60]) (pc := 60) rfl, w_getfield (cut := ct [60]) (pc' := 64) rfl dX8_rules_61 rfl (q_X8_f42 P), w_invoke (inv := iv_X8_rules cy P) (kd := 0) (f := 148) (g := sp_X5_size cy P) (cut := ct [60]) rfl dX8_rules_64 rfl (by decide) rfl, w_ireturnI (cut := ct [60]) rfl dX8_rules_67 rfl, rsum, cg_int, cg_ref, cg_null, nby0, strd, mStr, onAL, true_imp_iff, false_imp_iff, not_true_eq_false, not_false_eq_true, Classical.not_not, eq_self, e10, e01, em1, Int32.reduceLT, Int32.reduceLE, onBoat, onGale, onOut, onPort, onRep, onWarn, yn, mI, mS, b0, okA, rcvd, nb0, nb1, ini, List.map_cons, List.map_nil, List.replicate_zero, List.replicate_succ, List.append_nil, ldI, ldA, incK, getK, putK, oldK, castK, inv1, nwO, nwA, nwR, alen, ald, bald, ast, lald, last, rald, rast, goTo, nth, sto, setN, popN, okv, cat1_int, cat1_ref, cat1_null, cat1_rf, va_rf, hup_same, hup_hup, List.length_cons, List.length_nil, List.nil_append, List.cons_append, Option.toList, true_and, and_true, Nat.reduceAdd, Nat.reduceSub, Nat.reduceLT, Nat.reduceLeDiff, Nat.zero_le, Nat.sub_zero, Nat.zero_lt_succ, Nat.lt_add_left_iff_pos, Nat.succ_lt_succ_iff, hx3, hv2]
      generalize hup σ3 x (oSF t lp lw lg lb o b2 b1 v (nI (N 12)) (nI (N 1))) = σ4 at hC4 hx4 hb4 ⊢
      refine wp_of_S hJ (ct []) 400 _ _ _ _ _ _ ?_
      simp only [w_aload_n (cut := ct []) (pc' := 1) (i := 0) rfl dX8_rules_0 rfl rfl, w_aload_n (cut := ct []) (pc' := 2) (i := 0) rfl dX8_rules_1 rfl rfl, w_getfield (cut := ct []) (pc' := 5) rfl dX8_rules_2 rfl (q_X8_f46 P), w_aload_n (cut := ct []) (pc' := 6) (i := 0) rfl dX8_rules_5 rfl rfl, w_getfield (cut := ct []) (pc' := 9) rfl dX8_rules_6 rfl (q_X8_f10 P), w_invoke (inv := iv_X8_rules cy P) (kd := 0) (f := 142) (g := sp_X5_readFrom cy P) (cut := ct []) rfl dX8_rules_9 rfl (by decide) rfl, w_putfield (cut := ct []) (pc' := 15) rfl dX8_rules_12 rfl (q_X8_f49 P), w_aload_n (cut := ct []) (pc' := 16) (i := 0) rfl dX8_rules_15 rfl rfl, w_getfield (cut := ct []) (pc' := 19) rfl dX8_rules_16 rfl (q_X8_f10 P), w_iconst (cut := ct []) (pc' := 20) (v := 0) rfl dX8_rules_19 rfl rfl, w_invoke (inv := iv_X8_rules cy P) (kd := 0) (f := 71) (g := sp_X6_cutTo cy P) (cut := ct []) rfl dX8_rules_20 rfl (by decide) rfl, w_pop (cut := ct []) (pc' := 24) rfl dX8_rules_23 rfl, w_aload_n (cut := ct []) (pc' := 25) (i := 0) rfl dX8_rules_24 rfl rfl, w_getfield (cut := ct []) (pc' := 28) rfl dX8_rules_25 rfl (q_X8_f49 P), w_iconst (cut := ct []) (pc' := 29) (v := (-1)) rfl dX8_rules_28 rfl rfl, w_icmp_eq (cut := ct []) (pc' := 32) (t := 42) rfl dX8_rules_29 rfl (by decide) rfl, w_throw (thr := th_X8_rules) (E := "java/lang/IllegalArgumentException") (cut := ct []) rfl dX8_rules_32 rfl, w_dup (cut := ct []) (pc' := 36) rfl dX8_rules_35 rfl, w_aload_n (cut := ct []) (pc' := 43) (i := 0) rfl dX8_rules_42 rfl rfl, w_getfield (cut := ct []) (pc' := 46) rfl dX8_rules_43 rfl (q_X8_f42 P), w_astore_n (cut := ct []) (pc' := 47) (i := 1) rfl dX8_rules_46 rfl rfl, w_astore_nN (cut := ct []) (pc' := 47) (i := 1) rfl dX8_rules_46 rfl rfl, w_aload_n (cut := ct []) (pc' := 48) (i := 0) rfl dX8_rules_47 rfl rfl, w_aload_n (cut := ct []) (pc' := 49) (i := 0) rfl dX8_rules_48 rfl rfl, w_getfield (cut := ct []) (pc' := 52) rfl dX8_rules_49 rfl (q_X8_f46 P), w_putfield (cut := ct []) (pc' := 55) rfl dX8_rules_52 rfl (q_X8_f42 P), w_aload_n (cut := ct []) (pc' := 56) (i := 0) rfl dX8_rules_55 rfl rfl, w_aload_n (cut := ct []) (pc' := 57) (i := 1) rfl dX8_rules_56 rfl rfl, w_putfield (cut := ct []) (pc' := 60) rfl dX8_rules_57 rfl (q_X8_f46 P), w_aload_n (cut := ct []) (pc' := 61) (i := 0) rfl dX8_rules_60 rfl rfl, w_getfield (cut := ct []) (pc' := 64) rfl dX8_rules_61 rfl (q_X8_f42 P), w_invoke (inv := iv_X8_rules cy P) (kd := 0) (f := 148) (g := sp_X5_size cy P) (cut := ct []) rfl dX8_rules_64 rfl (by decide) rfl, w_ireturnI (cut := ct []) rfl dX8_rules_67 rfl, rsum, cg_int, cg_ref, cg_null, nby0, strd, mStr, onAL, true_imp_iff, false_imp_iff, not_true_eq_false, not_false_eq_true, Classical.not_not, eq_self, e10, e01, em1, Int32.reduceLT, Int32.reduceLE, onBoat, onGale, onOut, onPort, onRep, onWarn, yn, mI, mS, b0, okA, rcvd, nb0, nb1, ini, List.map_cons, List.map_nil, List.replicate_zero, List.replicate_succ, List.append_nil, ldI, ldA, incK, getK, putK, oldK, castK, inv1, nwO, nwA, nwR, alen, ald, bald, ast, lald, last, rald, rast, goTo, nth, sto, setN, popN, okv, cat1_int, cat1_ref, cat1_null, cat1_rf, va_rf, hup_same, hup_hup, List.length_cons, List.length_nil, List.nil_append, List.cons_append, Option.toList, true_and, and_true, Nat.reduceAdd, Nat.reduceSub, Nat.reduceLT, Nat.reduceLeDiff, Nat.zero_le, Nat.sub_zero, Nat.zero_lt_succ, Nat.lt_add_left_iff_pos, Nat.succ_lt_succ_iff, hx4, hb4, sp_X5_size]
      refine ⟨_, _, _, _, _, rfl, ?_⟩
      rw [hsz]
      refine hK hv1 σ4 (fun M' hs h23 hru => ?_)
      obtain ⟨g1, g2, g3, g4, g5, g6, g7, g8, g9, g10, g11, g12⟩ := CXr_M (M' := M) hC4 (fun s _ _ _ _ _ => rfl) hC4.2.2.2.2.2.2.2.2.1
      have e := fun s (h : s < 13 ∨ (16 < s ∧ s ≠ 23)) => hs s (by omega) (by omega) (by omega) (by omega) (by omega)
      refine ⟨co, gb, gl, wi, t, tb, nI q9, f, lp, ep, pA, rA, lw, ew, wA, lg, eg, gA, lb, eb, bA, o, b2, a2, F', C', Kd', Nm', b1, a1, N 17, F, C, Kd, Nm, by rw [hx4, h23, hv1]; rfl, ?_⟩
      refine ⟨g1, by rw [e 18 (by decide)]; exact g2, PV_congr (fun s _ _ => e s (by omega)) g3, WV_congr (e 25 (by decide)) g4, GV_congr (fun s _ _ => e s (by omega)) g5, BV_congr (e 35 (by decide)) g6, g7, ?_, ?_, g8, ⟨Ne.symm g11.1, fun y z1 z2 => g11.2 y z2 z1⟩, g12⟩
      · rw [cu_same, ← hsz]; exact g10
      · rw [cu_same]; exact RUL_of hrows hru rdText_ok.2
    · have hv2 : (v = -1) = False := eq_false hv1
      have hK3 := hX hv1 σ3 (fun M' hs h23 hu => ⟨co, gb, gl, wi, _, _, _, _, _, _, _, _, _, _, _, _, _, _, _, _, _, _, _, _, _, _, _, _, _, _, _, _, _, _, _, by rw [h23]; exact hx3, CXr_M hC3 hs (fun k hk => by
        obtain ⟨r1, r2, m, r3, r4, r5⟩ := hR k hk
        obtain ⟨u1, u2, u3⟩ := hu k hk
        refine ⟨r1.trans u1.symm, r2.trans u2.symm, m, u2.trans r3, r4, fun c hc => ?_⟩
        obtain ⟨w1, w2, w3⟩ := r5 c hc
        obtain ⟨y1, y2⟩ := u3 c (by omega)
        exact ⟨w1.trans y1.symm, w2.trans y2.symm, by rw [y1]; exact w3⟩)⟩)
      refine wp_of_S hJ (ct [60]) 400 _ _ _ _ _ _ ?_
      simp only [w_aload_n (cut := ct [60]) (pc' := 1) (i := 0) rfl dX8_rules_0 rfl rfl, w_aload_n (cut := ct [60]) (pc' := 2) (i := 0) rfl dX8_rules_1 rfl rfl, w_getfield (cut := ct [60]) (pc' := 5) rfl dX8_rules_2 rfl (q_X8_f46 P), w_aload_n (cut := ct [60]) (pc' := 6) (i := 0) rfl dX8_rules_5 rfl rfl, w_getfield (cut := ct [60]) (pc' := 9) rfl dX8_rules_6 rfl (q_X8_f10 P), w_invoke (inv := iv_X8_rules cy P) (kd := 0) (f := 142) (g := sp_X5_readFrom cy P) (cut := ct [60]) rfl dX8_rules_9 rfl (by decide) rfl, w_putfield (cut := ct [60]) (pc' := 15) rfl dX8_rules_12 rfl (q_X8_f49 P), w_aload_n (cut := ct [60]) (pc' := 16) (i := 0) rfl dX8_rules_15 rfl rfl, w_getfield (cut := ct [60]) (pc' := 19) rfl dX8_rules_16 rfl (q_X8_f10 P), w_iconst (cut := ct [60]) (pc' := 20) (v := 0) rfl dX8_rules_19 rfl rfl, w_invoke (inv := iv_X8_rules cy P) (kd := 0) (f := 71) (g := sp_X6_cutTo cy P) (cut := ct [60]) rfl dX8_rules_20 rfl (by decide) rfl, w_pop (cut := ct [60]) (pc' := 24) rfl dX8_rules_23 rfl, w_aload_n (cut := ct [60]) (pc' := 25) (i := 0) rfl dX8_rules_24 rfl rfl, w_getfield (cut := ct [60]) (pc' := 28) rfl dX8_rules_25 rfl (q_X8_f49 P), w_iconst (cut := ct [60]) (pc' := 29) (v := (-1)) rfl dX8_rules_28 rfl rfl, w_icmp_eq (cut := ct [60]) (pc' := 32) (t := 42) rfl dX8_rules_29 rfl (by decide) rfl, w_throw (thr := th_X8_rules) (E := "java/lang/IllegalArgumentException") (cut := ct [60]) rfl dX8_rules_32 rfl, w_dup (cut := ct [60]) (pc' := 36) rfl dX8_rules_35 rfl, w_aload_n (cut := ct [60]) (pc' := 43) (i := 0) rfl dX8_rules_42 rfl rfl, w_getfield (cut := ct [60]) (pc' := 46) rfl dX8_rules_43 rfl (q_X8_f42 P), w_astore_n (cut := ct [60]) (pc' := 47) (i := 1) rfl dX8_rules_46 rfl rfl, w_astore_nN (cut := ct [60]) (pc' := 47) (i := 1) rfl dX8_rules_46 rfl rfl, w_aload_n (cut := ct [60]) (pc' := 48) (i := 0) rfl dX8_rules_47 rfl rfl, w_aload_n (cut := ct [60]) (pc' := 49) (i := 0) rfl dX8_rules_48 rfl rfl, w_getfield (cut := ct [60]) (pc' := 52) rfl dX8_rules_49 rfl (q_X8_f46 P), w_putfield (cut := ct [60]) (pc' := 55) rfl dX8_rules_52 rfl (q_X8_f42 P), w_aload_n (cut := ct [60]) (pc' := 56) (i := 0) rfl dX8_rules_55 rfl rfl, w_aload_n (cut := ct [60]) (pc' := 57) (i := 1) rfl dX8_rules_56 rfl rfl, w_putfield (cut := ct [60]) (pc' := 60) rfl dX8_rules_57 rfl (q_X8_f46 P), w_cut (cut := ct [60]) (pc := 60) rfl, w_getfield (cut := ct [60]) (pc' := 64) rfl dX8_rules_61 rfl (q_X8_f42 P), w_invoke (inv := iv_X8_rules cy P) (kd := 0) (f := 148) (g := sp_X5_size cy P) (cut := ct [60]) rfl dX8_rules_64 rfl (by decide) rfl, w_ireturnI (cut := ct [60]) rfl dX8_rules_67 rfl, rsum, cg_int, cg_ref, cg_null, nby0, strd, mStr, onAL, true_imp_iff, false_imp_iff, not_true_eq_false, not_false_eq_true, Classical.not_not, eq_self, e10, e01, em1, Int32.reduceLT, Int32.reduceLE, onBoat, onGale, onOut, onPort, onRep, onWarn, yn, mI, mS, b0, okA, rcvd, nb0, nb1, ini, List.map_cons, List.map_nil, List.replicate_zero, List.replicate_succ, List.append_nil, ldI, ldA, incK, getK, putK, oldK, castK, inv1, nwO, nwA, nwR, alen, ald, bald, ast, lald, last, rald, rast, goTo, nth, sto, setN, popN, okv, cat1_int, cat1_ref, cat1_null, cat1_rf, va_rf, hup_same, hup_hup, List.length_cons, List.length_nil, List.nil_append, List.cons_append, Option.toList, true_and, and_true, Nat.reduceAdd, Nat.reduceSub, Nat.reduceLT, Nat.reduceLeDiff, Nat.zero_le, Nat.sub_zero, Nat.zero_lt_succ, Nat.lt_add_left_iff_pos, Nat.succ_lt_succ_iff, hx3, hv2]
      simpa using hK3
  · exact hT.elim
set_option maxRecDepth 100000 in
theorem con_X8_rules {l : Launch} {s0 : State} {D : va_G} {cy : Nat → ClassId} {P : Pm} {a0 : Array Value} (hE : E0 l s0 D cy P a0) : Con l s0 D yX8_rules (Cond.code yX8_rules cX8_rules 2 (some .int)) 9 199 (sp_X8_rules cy P) := by
  refine con_of (clok_X8 hE _) (by decide) (fun as σ K KX h => okA_cat h.1) (Nat.le_of_ble_eq_true rfl) ?_ ?_ (m_X8_rules cy P hE.2.2.2.1)
  · intro p e R s m args below meth c A Q hfr hlo hW B kd j g hg
    unfold iv_X8_rules at hg
    split at hg
    · cases hg; exact inv_V (ci := 6) B (con_X5_readFrom hE) rfl (fun as σ K KX h => rcvd_spec h.2.1) (cw_mk hE hW tw_521 rfl tw_7 ⟨by decide, by decide⟩ rfl) rfl (wd hE hW tw_518 rfl) (wd hE hW tw_519 rfl) (wd hE hW tw_520 rfl) (by rw [hfr]; decide) (by rw [hlo]; decide)
    · cases hg; exact inv_V (ci := 7) B (con_X6_cutTo hE) rfl (fun as σ K KX h => rcvd_spec h.2.1) (cw_mk hE hW tw_185 rfl tw_2 ⟨by decide, by decide⟩ rfl) rfl (wd hE hW tw_182 rfl) (wd hE hW tw_183 rfl) (wd hE hW tw_184 rfl) (by rw [hfr]; decide) (by rw [hlo]; decide)
    · cases hg; exact inv_V (ci := 6) B (con_X5_size hE) rfl (fun as σ K KX h => rcvd_spec h.2.1) (cw_mk hE hW tw_201 rfl tw_7 ⟨by decide, by decide⟩ rfl) rfl (wd hE hW tw_198 rfl) (wd hE hW tw_199 rfl) (wd hE hW tw_200 rfl) (by rw [hfr]; decide) (by rw [hlo]; decide)
    · cases hg
  · intro p e R s m args below meth c A K KX hfr hlo hW B htab
    refine ⟨fun pc E h => ?_, fun E h q => (by cases q), fun _ => htab⟩
    unfold th_X8_rules at h
    split at h
    · cases h; exact fun j len hd σ H locs cells slots lsA st h1 h2 h3 h4 h5 h6 h7 h8 => thr_ok B hE htab (text := "the text is wrong") (by decide) (by decide +kernel) tw_236 tw_12 ta_86 tb_86 tc_86_82 dX8_rules_32 dX8_rules_35 dX8_rules_36 dX8_rules_38 dX8_rules_41 (by rw [hfr]; decide) (by rw [hlo]; decide) h1 h2 h3 h4 h5 h6 h7 h8
    · cases h
