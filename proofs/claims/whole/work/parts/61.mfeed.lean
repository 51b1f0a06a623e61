/-! ===== the model: feed ===== -/
theorem by4_val (v : Int32) : ∀ i, i < 4 → by4 v i = nI (v.toBitVec.toNat / 2 ^ (24 - 8 * i) % 256)
  | 0, _ => by unfold by4; rw [pk_and _ 8 (by decide), pk_ushr v (nI (3 - 0) * 8) 24 (by decide)]
  | 1, _ => by unfold by4; rw [pk_and _ 8 (by decide), pk_ushr v (nI (3 - 1) * 8) 16 (by decide)]
  | 2, _ => by unfold by4; rw [pk_and _ 8 (by decide), pk_ushr v (nI (3 - 2) * 8) 8 (by decide)]
  | 3, _ => by unfold by4; rw [pk_and _ 8 (by decide), pk_ushr v (nI (3 - 3) * 8) 0 (by decide)]
/-- a byte of a number, as the model has it -/
def bM (v : Int32) (i : Nat) : Int32 := (v >>> ((24 - 8 * nI i) &&& 31)).toInt8.toInt32
theorem bM_int (v : Int32) : ∀ i, i < 4 → (bM v i).toInt = (v.toInt / (2 ^ (24 - 8 * i) : Nat)).bmod 256
  | 0, _ => by unfold bM; rw [Int8.toInt_toInt32, Int32.toInt_toInt8, pk_shr v _ 24 (by decide), Int.shiftRight_eq_div_pow]
  | 1, _ => by unfold bM; rw [Int8.toInt_toInt32, Int32.toInt_toInt8, pk_shr v _ 16 (by decide), Int.shiftRight_eq_div_pow]
  | 2, _ => by unfold bM; rw [Int8.toInt_toInt32, Int32.toInt_toInt8, pk_shr v _ 8 (by decide), Int.shiftRight_eq_div_pow]
  | 3, _ => by unfold bM; rw [Int8.toInt_toInt32, Int32.toInt_toInt8, pk_shr v _ 0 (by decide), Int.shiftRight_eq_div_pow]
theorem v_cond (v : Int32) : v.toInt = if 2 * v.toBitVec.toNat < 4294967296 then (v.toBitVec.toNat : Int) else (v.toBitVec.toNat : Int) - 4294967296 := BitVec.toInt_eq_toNat_cond v.toBitVec
theorem bmq {n p : Nat} (hp : p = 16777216 ∨ p = 65536 ∨ p = 256 ∨ p = 1) (hv : n < 4294967296) : (n / p % 256 < 128 → ((if 2 * n < 4294967296 then (n : Int) else (n : Int) - 4294967296) / (p : Int)).bmod 256 = ((n / p % 256 : Nat) : Int)) ∧ (128 ≤ n / p % 256 → ((if 2 * n < 4294967296 then (n : Int) else (n : Int) - 4294967296) / (p : Int)).bmod 256 = ((n / p % 256 : Nat) : Int) - 256) := by
  rcases hp with rfl | rfl | rfl | rfl
  all_goals
    refine ⟨fun h => ?_, fun h => ?_⟩
    all_goals
      rw [Int.bmod_def]
      split <;> split <;> omega
theorem bM_q (v : Int32) {i : Nat} (hi : i < 4) : (v.toBitVec.toNat / 2 ^ (24 - 8 * i) % 256 < 128 → (bM v i).toInt = ((v.toBitVec.toNat / 2 ^ (24 - 8 * i) % 256 : Nat) : Int)) ∧ (128 ≤ v.toBitVec.toNat / 2 ^ (24 - 8 * i) % 256 → (bM v i).toInt = ((v.toBitVec.toNat / 2 ^ (24 - 8 * i) % 256 : Nat) : Int) - 256) := by
  rw [bM_int v i hi, v_cond v]
  refine bmq ?_ v.toBitVec.isLt
  match i, hi with
  | 0, _ => exact Or.inl rfl
  | 1, _ => exact Or.inr (Or.inl rfl)
  | 2, _ => exact Or.inr (Or.inr (Or.inl rfl))
  | 3, _ => exact Or.inr (Or.inr (Or.inr rfl))
theorem bM_ok (v : Int32) {i : Nat} (hi : i < 4) : bOK (by4 v i) (bM v i) := by
  rw [by4_val v i hi]
  have h := bM_q v hi
  have hq : v.toBitVec.toNat / 2 ^ (24 - 8 * i) % 256 < 256 := Nat.mod_lt _ (by decide)
  generalize v.toBitVec.toNat / 2 ^ (24 - 8 * i) % 256 = q at h hq ⊢
  by_cases h1 : q < 128
  · replace h := h.1 h1
    refine Or.inl ⟨nI_pos' (by omega), nI_le (b := 127) (by omega) (by decide), Int32.toInt_inj.mp ?_⟩
    rw [h, nI_toInt (by omega)]
  · replace h := h.2 (by omega)
    refine Or.inr ⟨nI_le (a := 128) (by omega) (by omega), ?_⟩
    rw [Int32.lt_iff_toInt_lt, h]
    have e0 : (0 : Int32).toInt = 0 := by decide
    rw [e0]
    omega
/-- five numbers, in a row -/
def five (g : Nat → Int32) (a b c d e : Int32) : Nat → Int32 := upd (upd (upd (upd (upd g 0 a) 1 b) 2 c) 3 d) 4 e
def fdM (f : Nat → Int32) (h : Nat → Int32) (L : Nat) : Nat → Nat → Int32
  | 0 => f
  | k + 1 => upd (fdM f h L k) (L + k) (bM (h (k / 4)) (k % 4))
theorem fdM_old {f h : Nat → Int32} {L i : Nat} (hi : i < L) : ∀ k, fdM f h L k i = f i
  | 0 => rfl
  | k + 1 => by rw [fdM, pk_un (by omega)]; exact fdM_old hi k
theorem fdM_new {f h : Nat → Int32} {L j : Nat} : ∀ {k}, j < k → fdM f h L k (L + j) = bM (h (j / 4)) (j % 4)
  | k + 1, hj => by
    rw [fdM]
    by_cases e : j = k
    · subst e; rw [pk_us]
    · rw [pk_un (by omega)]; exact fdM_new (by omega)
theorem five_at {g : Nat → Int32} {a b c d e : Int32} {j : Nat} (hj : j < 20) : five g a b c d e (j / 4) = if j < 4 then a else if j < 8 then b else if j < 12 then c else if j < 16 then d else e := by
  unfold five upd
  repeat' split
  all_goals first
    | rfl
    | (exfalso; omega)
def iv_X9_feed (cy : Nat → ClassId) (P : Pm) : Nat → Nat → Option Sg
  | _, _ => none
def sp_X9_feed (cy : Nat → ClassId) (P : Pm) : Sg := mI 10 [0, 0, 0, 0, 0] b0 (fun as σ K _ => match as with
  | [.ref m, .int a, .int b, .int c, .int d, .int e] => ∃ N M th, MX cy σ m th N M ∧ NB N ∧ (¬ N 19 + 20 ≤ 400 → ∀ σ', MX cy σ' m 0 N M → K (some (.int (-1))) σ') ∧ (N 19 + 20 ≤ 400 → ∀ σ' M', MX cy σ' m 0 (cu N 19 (N 19 + 20)) M' → (∀ s, s ≠ 18 → s ≠ 24 → M' s = M s) → (∀ i, i < N 19 → M' 18 i = M 18 i) → (∀ j, j < 20 → bOK (by20 a b c d e j) (M' 18 (N 19 + j))) → K (some (.int (nI (N 19 + 20)))) σ')
  | _ => False)
set_option maxRecDepth 8000 in
set_option maxHeartbeats 16000000 in
theorem m_X9_feed (cy : Nat → ClassId) (P : Pm) (hP : PmOK P) : MOK (cl_X9 P) cy P.2.1 obj cX9_feed (iv_X9_feed cy P) (fun _ => none) (fun _ => some none) (some .int) 7 (sp_X9_feed cy P) := by
  intro as σ K KX J hlen hT hJ hOld
  obtain ⟨-, -, hT⟩ := hT
  split at hT
  · rename_i m a b c d e
    obtain ⟨N, M, th, ⟨A, I, hM, h0, hI⟩, hN, hX, hK⟩ := hT
    obtain ⟨i1, i6, i12, i17, i19, i23, i26, i34, i36⟩ := id hI
    have n19 := hN.2.2.2.2.1
    have hm := hM.1
    have hinj := MD_inj hM
    have hne := MD_ne hM
    have hne' := MD_ne' hM
    have a24 : σ (A 24) = some (oInts cy 5 (M 24)) := hM.2.1 24 rfl
    have e20 : nI (N 19) + 20 = nI (N 19 + 20) := nI_add _ 20
    by_cases h20 : N 19 + 20 ≤ 400
    · have l20 : (nI (N 19 + 20) ≤ 400) = True := eq_true (nI_le (b := 400) h20 (by decide))
      have hK2 := hK h20
      have hM1 : MD cy (hup (hup σ m (oMd A (iu I 0 0))) (A 24) (oArr cy 24 (five (M 24) a b c d e))) m A (iu I 0 0) (setR M 24 (five (M 24) a b c d e)) := MD_arr (MD_set hM)
      have key : ∀ (j k : Nat) (σ1 : Hp), 20 - k = j → k ≤ 20 → MD cy σ1 m A (iu I 0 0) (setR (setR M 24 (five (M 24) a b c d e)) 18 (fdM (M 18) (five (M 24) a b c d e) (N 19) k)) → J 60 [some (.ref m), some (.int a), some (.int b), some (.int c), some (.int d), some (.int e), some (.int (nI k))] [] σ1 0 0 := by
        intro j
        induction j with
        | zero =>
          intro k σ1 hj hk hM2
          have hk20 : k = 20 := by omega
          subst hk20
          have hm2 := hM2.1
          have g20 : ((20 : Int32) ≤ nI 20) = True := eq_true (by decide)
          refine hJ (ct [60]) 400 _ _ _ _ _ _ ((s_iload (pc' := 62) (i := 6) dX9_feed_60 rfl rfl).mpr ?_)
          simp only [w_cut (cut := ct [60]) (pc := 60) rfl, w_bipush (cut := ct [60]) (pc' := 64) (v := 20) rfl dX9_feed_62 rfl rfl, w_icmp_ge (cut := ct [60]) (pc' := 67) (t := 106) rfl dX9_feed_64 rfl (by decide) rfl, w_aload_n (cut := ct [60]) (pc' := 68) (i := 0) rfl dX9_feed_67 rfl rfl, w_aload_n (cut := ct [60]) (pc' := 107) (i := 0) rfl dX9_feed_106 rfl rfl, w_dup (cut := ct [60]) (pc' := 108) rfl dX9_feed_107 rfl, w_getfield (cut := ct [60]) (pc' := 111) rfl dX9_feed_108 rfl (q_X9_f116 P), w_bipush (cut := ct [60]) (pc' := 113) (v := 20) rfl dX9_feed_111 rfl rfl, w_iadd (cut := ct [60]) (pc' := 114) rfl dX9_feed_113 rfl, w_putfield (cut := ct [60]) (pc' := 117) rfl dX9_feed_114 rfl (q_X9_f116 P), w_aload_n (cut := ct [60]) (pc' := 118) (i := 0) rfl dX9_feed_117 rfl rfl, w_getfield (cut := ct [60]) (pc' := 121) rfl dX9_feed_118 rfl (q_X9_f116 P), w_ireturnI (cut := ct [60]) rfl dX9_feed_121 rfl, rsum, cg_int, cg_ref, cg_null, nby0, strd, mStr, onAL, true_imp_iff, false_imp_iff, not_true_eq_false, not_false_eq_true, Classical.not_not, eq_self, e10, e01, em1, Int32.reduceLT, Int32.reduceLE, onBoat, onGale, onOut, onPort, onRep, onWarn, yn, mI, mS, b0, okA, nb0, nb1, ini, List.map_cons, List.map_nil, List.replicate_zero, List.replicate_succ, List.append_nil, ldI, ldA, incK, oldK, castK, inv1, nwO, nwA, nwR, alen, ald, bald, ast, lald, last, rald, rast, goTo, nth, sto, setN, popN, okv, cat1_int, cat1_ref, cat1_null, cat1_rf, va_rf, hup_same, hup_hup, List.length_cons, List.length_nil, List.nil_append, List.cons_append, Option.toList, true_and, and_true, Nat.reduceAdd, Nat.reduceSub, Nat.reduceLT, Nat.reduceLeDiff, Nat.zero_le, Nat.sub_zero, Nat.zero_lt_succ, Nat.lt_add_left_iff_pos, Nat.succ_lt_succ_iff, rcM2, Nat.reduceEqDiff, reduceIte, iu, isMd_M, setTE_M, fI_6, fI_36, fI_0, fI_1, one_ne, zero_ne, true_or, or_true, gM_0, gM_1, gM_2, gM_3, gM_4, gM_5, gM_6, gM_7, gM_8, gM_9, gM_10, gM_11, gM_12, gM_13, gM_14, gM_15, gM_16, gM_17, gM_18, gM_19, gM_20, gM_21, gM_22, gM_23, gM_24, gM_25, gM_26, gM_27, gM_28, gM_29, gM_30, gM_31, gM_32, gM_33, gM_34, gM_35, gM_36, pM_0, pM_1, pM_6, pM_12, pM_17, pM_19, pM_20, pM_21, pM_22, pM_23, pM_26, pM_27, pM_28, pM_29, pM_34, pM_36, hm2, g20, i19, e20]
          refine hK2 _ _ ⟨A, _, MD_set hM2, rfl, hI.1, hI.2.1, hI.2.2.1, hI.2.2.2.1, rfl, hI.2.2.2.2.2⟩ (fun s h1 h2 => ?_) (fun i hi => ?_) (fun j hj => ?_)
          · rw [setR_ne h1, setR_ne h2]
          · rw [setR_same, fdM_old hi]
          · rw [setR_same, fdM_new hj]
            unfold by20
            rw [five_at hj]
            exact bM_ok _ (by omega)
        | succ j ih =>
          intro k σ1 hj hk hM2
          have hm2 := hM2.1
          have hinj2 := MD_inj hM2
          have hne2 := MD_ne hM2
          have hne2' := MD_ne' hM2
          have a24' : σ1 (A 24) = some (oInts cy 5 (five (M 24) a b c d e)) := hM2.2.1 24 rfl
          have a18 : σ1 (A 18) = some (.inl (cy 1, 400, .inl (fdM (M 18) (five (M 24) a b c d e) (N 19) k))) := hM2.2.1 18 rfl
          have g20 : ((20 : Int32) ≤ nI k) = False := eq_false (nI_ge (a := k) (b := 20) (by omega) (by decide))
          have hnx : nI k + 1 = nI (k + 1) := nI_1 k
          have h4 : ((4 : Int32) = 0) = False := eq_false (by decide)
          have dv : nI k / 4 = nI (k / 4) := pk_div (d := 4) (by omega) (by decide) (by decide)
          have rm : nI k - nI (k / 4) * 4 = nI (k % 4) := by
            rw [← dv]
            exact pk_rem (d := 4) (by omega) (by decide) (by decide)
          have v5 : vp_in (nI (k / 4)) 5 = True := eq_true (vp_in_nI (by omega) (by omega))
          have c5 : (nI (k / 4)).toNatClampNeg = k / 4 := nI_clamp (by omega)
          have ad : nI (N 19) + nI k = nI (N 19 + k) := nI_add _ _
          have v4 : vp_in (nI (N 19 + k)) 400 = True := eq_true (vp_in_nI (by omega) (by omega))
          have c4 : (nI (N 19 + k)).toNatClampNeg = N 19 + k := nI_clamp (by omega)
          have hM3 := MD_arr (k := 18) (f := fdM (M 18) (five (M 24) a b c d e) (N 19) (k + 1)) hM2
          rw [setR_setR] at hM3
          refine hJ (ct [60]) 400 _ _ _ _ _ _ ((s_iload (pc' := 62) (i := 6) dX9_feed_60 rfl rfl).mpr ?_)
          simp only [w_cut (cut := ct [60]) (pc := 60) rfl, w_bipush (cut := ct [60]) (pc' := 64) (v := 20) rfl dX9_feed_62 rfl rfl, w_icmp_ge (cut := ct [60]) (pc' := 67) (t := 106) rfl dX9_feed_64 rfl (by decide) rfl, w_aload_n (cut := ct [60]) (pc' := 68) (i := 0) rfl dX9_feed_67 rfl rfl, w_getfield (cut := ct [60]) (pc' := 71) rfl dX9_feed_68 rfl (q_X9_f49 P), w_aload_n (cut := ct [60]) (pc' := 72) (i := 0) rfl dX9_feed_71 rfl rfl, w_getfield (cut := ct [60]) (pc' := 75) rfl dX9_feed_72 rfl (q_X9_f116 P), w_iload (cut := ct [60]) (pc' := 77) (i := 6) rfl dX9_feed_75 rfl rfl, w_iadd (cut := ct [60]) (pc' := 78) rfl dX9_feed_77 rfl, w_aload_n (cut := ct [60]) (pc' := 79) (i := 0) rfl dX9_feed_78 rfl rfl, w_getfield (cut := ct [60]) (pc' := 82) rfl dX9_feed_79 rfl (q_X9_f57 P), w_iload (cut := ct [60]) (pc' := 84) (i := 6) rfl dX9_feed_82 rfl rfl, w_iconst (cut := ct [60]) (pc' := 85) (v := 4) rfl dX9_feed_84 rfl rfl, w_idiv (cut := ct [60]) (pc' := 86) rfl dX9_feed_85 rfl, w_iaload (cut := ct [60]) rfl dX9_feed_86, w_bipush (cut := ct [60]) (pc' := 89) (v := 24) rfl dX9_feed_87 rfl rfl, w_bipush (cut := ct [60]) (pc' := 91) (v := 8) rfl dX9_feed_89 rfl rfl, w_iload (cut := ct [60]) (pc' := 93) (i := 6) rfl dX9_feed_91 rfl rfl, w_iconst (cut := ct [60]) (pc' := 94) (v := 4) rfl dX9_feed_93 rfl rfl, w_irem (cut := ct [60]) (pc' := 95) rfl dX9_feed_94 rfl, w_imul (cut := ct [60]) (pc' := 96) rfl dX9_feed_95 rfl, w_isub (cut := ct [60]) (pc' := 97) rfl dX9_feed_96 rfl, w_ishr (cut := ct [60]) (pc' := 98) rfl dX9_feed_97 rfl, w_i2b (cut := ct [60]) (pc' := 99) rfl dX9_feed_98 rfl, w_bastore (cut := ct [60]) rfl dX9_feed_99, w_iinc (cut := ct [60]) (pc' := 103) (d := 1) rfl dX9_feed_100 rfl rfl, w_goto (cut := ct [60]) (t := 60) rfl dX9_feed_103 (by decide) rfl, rsum, cg_int, cg_ref, cg_null, nby0, strd, mStr, onAL, true_imp_iff, false_imp_iff, not_true_eq_false, not_false_eq_true, Classical.not_not, eq_self, e10, e01, em1, Int32.reduceLT, Int32.reduceLE, onBoat, onGale, onOut, onPort, onRep, onWarn, yn, mI, mS, b0, okA, nb0, nb1, ini, List.map_cons, List.map_nil, List.replicate_zero, List.replicate_succ, List.append_nil, ldI, ldA, incK, oldK, castK, inv1, nwO, nwA, nwR, alen, ald, bald, ast, lald, last, rald, rast, goTo, nth, sto, setN, popN, okv, cat1_int, cat1_ref, cat1_null, cat1_rf, va_rf, hup_same, hup_hup, List.length_cons, List.length_nil, List.nil_append, List.cons_append, Option.toList, true_and, and_true, Nat.reduceAdd, Nat.reduceSub, Nat.reduceLT, Nat.reduceLeDiff, Nat.zero_le, Nat.sub_zero, Nat.zero_lt_succ, Nat.lt_add_left_iff_pos, Nat.succ_lt_succ_iff, rcM2, Nat.reduceEqDiff, reduceIte, iu, isMd_M, setTE_M, fI_6, fI_36, fI_0, fI_1, one_ne, zero_ne, true_or, or_true, gM_0, gM_1, gM_2, gM_3, gM_4, gM_5, gM_6, gM_7, gM_8, gM_9, gM_10, gM_11, gM_12, gM_13, gM_14, gM_15, gM_16, gM_17, gM_18, gM_19, gM_20, gM_21, gM_22, gM_23, gM_24, gM_25, gM_26, gM_27, gM_28, gM_29, gM_30, gM_31, gM_32, gM_33, gM_34, gM_35, gM_36, pM_0, pM_1, pM_6, pM_12, pM_17, pM_19, pM_20, pM_21, pM_22, pM_23, pM_26, pM_27, pM_28, pM_29, pM_34, pM_36, hm2, g20, i19, h4, dv, rm, v5, c5, ad, v4, c4, a24', a18, hnx, pk_vb]
          exact ih (k + 1) _ (by omega) (by omega) hM3
      have hM4 : MD cy (hup (hup σ m (oMd A (iu I 0 0))) (A 24) (oArr cy 24 (five (M 24) a b c d e))) m A (iu I 0 0) (setR (setR M 24 (five (M 24) a b c d e)) 18 (fdM (M 18) (five (M 24) a b c d e) (N 19) 0)) := by
        have e9 : setR (setR M 24 (five (M 24) a b c d e)) 18 (fdM (M 18) (five (M 24) a b c d e) (N 19) 0) = setR M 24 (five (M 24) a b c d e) := by
          have : fdM (M 18) (five (M 24) a b c d e) (N 19) 0 = setR M 24 (five (M 24) a b c d e) 18 := (setR_ne (s := 24) (s' := 18) (by decide)).symm
          rw [this, setR_id]
        rw [e9]; exact hM1
      have w0 : vp_in (0 : Int32) 5 = True := eq_true (vp_in_nI (n := 0) (by decide) (by decide))
      have w1 : vp_in (1 : Int32) 5 = True := eq_true (vp_in_nI (n := 1) (by decide) (by decide))
      have w2 : vp_in (2 : Int32) 5 = True := eq_true (vp_in_nI (n := 2) (by decide) (by decide))
      have w3 : vp_in (3 : Int32) 5 = True := eq_true (vp_in_nI (n := 3) (by decide) (by decide))
      have w4 : vp_in (4 : Int32) 5 = True := eq_true (vp_in_nI (n := 4) (by decide) (by decide))
      have u0 : (0 : Int32).toNatClampNeg = 0 := by decide
      have u1 : (1 : Int32).toNatClampNeg = 1 := by decide
      have u2 : (2 : Int32).toNatClampNeg = 2 := by decide
      have u3 : (3 : Int32).toNatClampNeg = 3 := by decide
      have u4 : (4 : Int32).toNatClampNeg = 4 := by decide
      have := key 20 0 _ rfl (by decide) hM4
      refine wp_of_S hJ (ct [60]) 400 _ _ _ _ _ _ ?_
      simp only [w_aload_n (cut := ct [60]) (pc' := 1) (i := 0) rfl dX9_feed_0 rfl rfl, w_iconst (cut := ct [60]) (pc' := 2) (v := 0) rfl dX9_feed_1 rfl rfl, w_putfield (cut := ct [60]) (pc' := 5) rfl dX9_feed_2 rfl (q_X9_f78 P), w_aload_n (cut := ct [60]) (pc' := 6) (i := 0) rfl dX9_feed_5 rfl rfl, w_getfield (cut := ct [60]) (pc' := 9) rfl dX9_feed_6 rfl (q_X9_f116 P), w_bipush (cut := ct [60]) (pc' := 11) (v := 20) rfl dX9_feed_9 rfl rfl, w_iadd (cut := ct [60]) (pc' := 12) rfl dX9_feed_11 rfl, w_sipush (cut := ct [60]) (pc' := 15) (v := 400) rfl dX9_feed_12 rfl rfl, w_icmp_le (cut := ct [60]) (pc' := 18) (t := 20) rfl dX9_feed_15 rfl (by decide) rfl, w_iconst (cut := ct [60]) (pc' := 19) (v := (-1)) rfl dX9_feed_18 rfl rfl, w_ireturnI (cut := ct [60]) rfl dX9_feed_19 rfl, w_aload_n (cut := ct [60]) (pc' := 21) (i := 0) rfl dX9_feed_20 rfl rfl, w_getfield (cut := ct [60]) (pc' := 24) rfl dX9_feed_21 rfl (q_X9_f57 P), w_iconst (cut := ct [60]) (pc' := 25) (v := 0) rfl dX9_feed_24 rfl rfl, w_iload_n (cut := ct [60]) (pc' := 26) (i := 1) rfl dX9_feed_25 rfl rfl, w_iastore (cut := ct [60]) rfl dX9_feed_26, w_aload_n (cut := ct [60]) (pc' := 28) (i := 0) rfl dX9_feed_27 rfl rfl, w_getfield (cut := ct [60]) (pc' := 31) rfl dX9_feed_28 rfl (q_X9_f57 P), w_iconst (cut := ct [60]) (pc' := 32) (v := 1) rfl dX9_feed_31 rfl rfl, w_iload_n (cut := ct [60]) (pc' := 33) (i := 2) rfl dX9_feed_32 rfl rfl, w_iastore (cut := ct [60]) rfl dX9_feed_33, w_aload_n (cut := ct [60]) (pc' := 35) (i := 0) rfl dX9_feed_34 rfl rfl, w_getfield (cut := ct [60]) (pc' := 38) rfl dX9_feed_35 rfl (q_X9_f57 P), w_iconst (cut := ct [60]) (pc' := 39) (v := 2) rfl dX9_feed_38 rfl rfl, w_iload_n (cut := ct [60]) (pc' := 40) (i := 3) rfl dX9_feed_39 rfl rfl, w_iastore (cut := ct [60]) rfl dX9_feed_40, w_aload_n (cut := ct [60]) (pc' := 42) (i := 0) rfl dX9_feed_41 rfl rfl, w_getfield (cut := ct [60]) (pc' := 45) rfl dX9_feed_42 rfl (q_X9_f57 P), w_iconst (cut := ct [60]) (pc' := 46) (v := 3) rfl dX9_feed_45 rfl rfl, w_iload (cut := ct [60]) (pc' := 48) (i := 4) rfl dX9_feed_46 rfl rfl, w_iastore (cut := ct [60]) rfl dX9_feed_48, w_aload_n (cut := ct [60]) (pc' := 50) (i := 0) rfl dX9_feed_49 rfl rfl, w_getfield (cut := ct [60]) (pc' := 53) rfl dX9_feed_50 rfl (q_X9_f57 P), w_iconst (cut := ct [60]) (pc' := 54) (v := 4) rfl dX9_feed_53 rfl rfl, w_iload (cut := ct [60]) (pc' := 56) (i := 5) rfl dX9_feed_54 rfl rfl, w_iastore (cut := ct [60]) rfl dX9_feed_56, w_iconst (cut := ct [60]) (pc' := 58) (v := 0) rfl dX9_feed_57 rfl rfl, w_istore (cut := ct [60]) (pc' := 60) (i := 6) rfl dX9_feed_58 rfl rfl, w_cut (cut := ct [60]) (pc := 60) rfl, rsum, cg_int, cg_ref, cg_null, nby0, strd, mStr, onAL, true_imp_iff, false_imp_iff, not_true_eq_false, not_false_eq_true, Classical.not_not, eq_self, e10, e01, em1, Int32.reduceLT, Int32.reduceLE, onBoat, onGale, onOut, onPort, onRep, onWarn, yn, mI, mS, b0, okA, nb0, nb1, ini, List.map_cons, List.map_nil, List.replicate_zero, List.replicate_succ, List.append_nil, ldI, ldA, incK, oldK, castK, inv1, nwO, nwA, nwR, alen, ald, bald, ast, lald, last, rald, rast, goTo, nth, sto, setN, popN, okv, cat1_int, cat1_ref, cat1_null, cat1_rf, va_rf, hup_same, hup_hup, List.length_cons, List.length_nil, List.nil_append, List.cons_append, Option.toList, true_and, and_true, Nat.reduceAdd, Nat.reduceSub, Nat.reduceLT, Nat.reduceLeDiff, Nat.zero_le, Nat.sub_zero, Nat.zero_lt_succ, Nat.lt_add_left_iff_pos, Nat.succ_lt_succ_iff, rcM2, Nat.reduceEqDiff, reduceIte, iu, isMd_M, setTE_M, fI_6, fI_36, fI_0, fI_1, one_ne, zero_ne, true_or, or_true, gM_0, gM_1, gM_2, gM_3, gM_4, gM_5, gM_6, gM_7, gM_8, gM_9, gM_10, gM_11, gM_12, gM_13, gM_14, gM_15, gM_16, gM_17, gM_18, gM_19, gM_20, gM_21, gM_22, gM_23, gM_24, gM_25, gM_26, gM_27, gM_28, gM_29, gM_30, gM_31, gM_32, gM_33, gM_34, gM_35, gM_36, pM_0, pM_1, pM_6, pM_12, pM_17, pM_19, pM_20, pM_21, pM_22, pM_23, pM_26, pM_27, pM_28, pM_29, pM_34, pM_36, sp_X9_feed, hm, i19, e20, l20, a24, w0, w1, w2, w3, w4, u0, u1, u2, u3, u4, hinj, hne, hne', hup_app]
      exact this
    · have l20 : (nI (N 19 + 20) ≤ 400) = False := eq_false (nI_ge (a := 400) (by omega) (by omega))
      have hK2 := hX h20 _ (MX_0 hM hI)
      refine wp_of_S hJ (ct [60]) 400 _ _ _ _ _ _ ?_
      simp only [w_aload_n (cut := ct [60]) (pc' := 1) (i := 0) rfl dX9_feed_0 rfl rfl, w_iconst (cut := ct [60]) (pc' := 2) (v := 0) rfl dX9_feed_1 rfl rfl, w_putfield (cut := ct [60]) (pc' := 5) rfl dX9_feed_2 rfl (q_X9_f78 P), w_aload_n (cut := ct [60]) (pc' := 6) (i := 0) rfl dX9_feed_5 rfl rfl, w_getfield (cut := ct [60]) (pc' := 9) rfl dX9_feed_6 rfl (q_X9_f116 P), w_bipush (cut := ct [60]) (pc' := 11) (v := 20) rfl dX9_feed_9 rfl rfl, w_iadd (cut := ct [60]) (pc' := 12) rfl dX9_feed_11 rfl, w_sipush (cut := ct [60]) (pc' := 15) (v := 400) rfl dX9_feed_12 rfl rfl, w_icmp_le (cut := ct [60]) (pc' := 18) (t := 20) rfl dX9_feed_15 rfl (by decide) rfl, w_iconst (cut := ct [60]) (pc' := 19) (v := (-1)) rfl dX9_feed_18 rfl rfl, w_ireturnI (cut := ct [60]) rfl dX9_feed_19 rfl, w_aload_n (cut := ct [60]) (pc' := 21) (i := 0) rfl dX9_feed_20 rfl rfl, w_getfield (cut := ct [60]) (pc' := 24) rfl dX9_feed_21 rfl (q_X9_f57 P), w_iconst (cut := ct [60]) (pc' := 25) (v := 0) rfl dX9_feed_24 rfl rfl, w_iload_n (cut := ct [60]) (pc' := 26) (i := 1) rfl dX9_feed_25 rfl rfl, w_iastore (cut := ct [60]) rfl dX9_feed_26, w_aload_n (cut := ct [60]) (pc' := 28) (i := 0) rfl dX9_feed_27 rfl rfl, w_getfield (cut := ct [60]) (pc' := 31) rfl dX9_feed_28 rfl (q_X9_f57 P), w_iconst (cut := ct [60]) (pc' := 32) (v := 1) rfl dX9_feed_31 rfl rfl, w_iload_n (cut := ct [60]) (pc' := 33) (i := 2) rfl dX9_feed_32 rfl rfl, w_iastore (cut := ct [60]) rfl dX9_feed_33, w_aload_n (cut := ct [60]) (pc' := 35) (i := 0) rfl dX9_feed_34 rfl rfl, w_getfield (cut := ct [60]) (pc' := 38) rfl dX9_feed_35 rfl (q_X9_f57 P), w_iconst (cut := ct [60]) (pc' := 39) (v := 2) rfl dX9_feed_38 rfl rfl, w_iload_n (cut := ct [60]) (pc' := 40) (i := 3) rfl dX9_feed_39 rfl rfl, w_iastore (cut := ct [60]) rfl dX9_feed_40, w_aload_n (cut := ct [60]) (pc' := 42) (i := 0) rfl dX9_feed_41 rfl rfl, w_getfield (cut := ct [60]) (pc' := 45) rfl dX9_feed_42 rfl (q_X9_f57 P), w_iconst (cut := ct [60]) (pc' := 46) (v := 3) rfl dX9_feed_45 rfl rfl, w_iload (cut := ct [60]) (pc' := 48) (i := 4) rfl dX9_feed_46 rfl rfl, w_iastore (cut := ct [60]) rfl dX9_feed_48, w_aload_n (cut := ct [60]) (pc' := 50) (i := 0) rfl dX9_feed_49 rfl rfl, w_getfield (cut := ct [60]) (pc' := 53) rfl dX9_feed_50 rfl (q_X9_f57 P), w_iconst (cut := ct [60]) (pc' := 54) (v := 4) rfl dX9_feed_53 rfl rfl, w_iload (cut := ct [60]) (pc' := 56) (i := 5) rfl dX9_feed_54 rfl rfl, w_iastore (cut := ct [60]) rfl dX9_feed_56, w_iconst (cut := ct [60]) (pc' := 58) (v := 0) rfl dX9_feed_57 rfl rfl, w_istore (cut := ct [60]) (pc' := 60) (i := 6) rfl dX9_feed_58 rfl rfl, w_cut (cut := ct [60]) (pc := 60) rfl, rsum, cg_int, cg_ref, cg_null, nby0, strd, mStr, onAL, true_imp_iff, false_imp_iff, not_true_eq_false, not_false_eq_true, Classical.not_not, eq_self, e10, e01, em1, Int32.reduceLT, Int32.reduceLE, onBoat, onGale, onOut, onPort, onRep, onWarn, yn, mI, mS, b0, okA, nb0, nb1, ini, List.map_cons, List.map_nil, List.replicate_zero, List.replicate_succ, List.append_nil, ldI, ldA, incK, oldK, castK, inv1, nwO, nwA, nwR, alen, ald, bald, ast, lald, last, rald, rast, goTo, nth, sto, setN, popN, okv, cat1_int, cat1_ref, cat1_null, cat1_rf, va_rf, hup_same, hup_hup, List.length_cons, List.length_nil, List.nil_append, List.cons_append, Option.toList, true_and, and_true, Nat.reduceAdd, Nat.reduceSub, Nat.reduceLT, Nat.reduceLeDiff, Nat.zero_le, Nat.sub_zero, Nat.zero_lt_succ, Nat.lt_add_left_iff_pos, Nat.succ_lt_succ_iff, rcM2, Nat.reduceEqDiff, reduceIte, iu, isMd_M, setTE_M, fI_6, fI_36, fI_0, fI_1, one_ne, zero_ne, true_or, or_true, gM_0, gM_1, gM_2, gM_3, gM_4, gM_5, gM_6, gM_7, gM_8, gM_9, gM_10, gM_11, gM_12, gM_13, gM_14, gM_15, gM_16, gM_17, gM_18, gM_19, gM_20, gM_21, gM_22, gM_23, gM_24, gM_25, gM_26, gM_27, gM_28, gM_29, gM_30, gM_31, gM_32, gM_33, gM_34, gM_35, gM_36, pM_0, pM_1, pM_6, pM_12, pM_17, pM_19, pM_20, pM_21, pM_22, pM_23, pM_26, pM_27, pM_28, pM_29, pM_34, pM_36, sp_X9_feed, hm, i19, e20, l20]
      exact hK2
  · exact hT.elim
set_option maxRecDepth 100000 in
theorem con_X9_feed {l : Launch} {s0 : State} {D : va_G} {cy : Nat → ClassId} {P : Pm} {a0 : Array Value} (hE : E0 l s0 D cy P a0) : Con l s0 D yX9_feed (Cond.code yX9_feed cX9_feed 7 (some .int)) 0 0 (sp_X9_feed cy P) := by
  refine con_of (clok_X9 hE _) (by decide) (fun as σ K KX h => okA_cat h.1) (Nat.le_of_ble_eq_true rfl) ?_ ?_ (m_X9_feed cy P hE.2.2.2.1)
  · intro p e R s m args below meth c A Q hfr hlo hW B kd j g hg
    cases hg
  · intro p e R s m args below meth c A K KX hfr hlo hW B htab
    exact xok_none htab
