/-! ===== Tape ===== -/
abbrev oTape (b : Nat) (ln pl : Int32) : va_E := .inr (7, [.ref b, .int ln, .int pl])
/-- the tape at t: its row b, how many bytes, the place, what the row holds -/
def TP (cy : Nat → ClassId) (σ : Hp) (t b L p : Nat) (f : Nat → Int32) : Prop := σ t = some (oTape b (nI L) (nI p)) ∧ σ b = some (oInts cy 400 f) ∧ L ≤ 400 ∧ p ≤ L
/-- the same, with any place -/
def TQ (cy : Nat → ClassId) (σ : Hp) (t b L : Nat) (pl : Int32) (f : Nat → Int32) : Prop := σ t = some (oTape b (nI L) pl) ∧ σ b = some (oInts cy 400 f) ∧ L ≤ 400
theorem TP_Q {cy : Nat → ClassId} {σ : Hp} {t b L p : Nat} {f : Nat → Int32} (h : TP cy σ t b L p f) : TQ cy σ t b L (nI p) f := ⟨h.1, h.2.1, h.2.2.1⟩
/-- on from p as long as c holds -/
def adv (c : Int32 → Bool) (f : Nat → Int32) (L : Nat) : Nat → Nat → Nat
  | 0, p => p
  | k + 1, p => if p < L ∧ c (f p) = true then adv c f L k (p + 1) else p
def adw (c : Int32 → Bool) (f : Nat → Int32) (L p : Nat) : Nat := adv c f L (L - p) p
theorem adw_go {c : Int32 → Bool} {f : Nat → Int32} {L p : Nat} (h : p < L) (hc : c (f p) = true) : adw c f L p = adw c f L (p + 1) := by
  unfold adw
  obtain ⟨k, hk⟩ : ∃ k, L - p = k + 1 := ⟨L - p - 1, by omega⟩
  rw [hk, show L - (p + 1) = k by omega, adv, if_pos ⟨h, hc⟩]
theorem adw_no {c : Int32 → Bool} {f : Nat → Int32} {L p : Nat} (h : ¬ (p < L ∧ c (f p) = true)) : adw c f L p = p := by
  unfold adw
  cases L - p with
  | zero => rfl
  | succ k => rw [adv, if_neg h]
theorem adw_le {c : Int32 → Bool} {f : Nat → Int32} {L : Nat} : ∀ (k p : Nat), L - p = k → p ≤ L → p ≤ adw c f L p ∧ adw c f L p ≤ L
  | 0, p, hk, hp => by rw [adw_no (by omega)]; omega
  | k + 1, p, hk, hp => by
    by_cases h : p < L ∧ c (f p) = true
    · rw [adw_go h.1 h.2]
      have := adw_le (c := c) (f := f) (L := L) k (p + 1) (by omega) (by omega)
      omega
    · rw [adw_no h]; omega
def isB (b : Int32) : Bool := decide (b = 32)
def isIn (lo hi b : Int32) : Bool := decide (lo ≤ b) && decide (b ≤ hi)
def iv_X6_init (cy : Nat → ClassId) (P : Pm) : Nat → Nat → Option Sg
  | 2, 3 => some (sp_OBJINIT cy P)
  | _, _ => none
def sp_X6_init (cy : Nat → ClassId) (P : Pm) : Sg := mI 7 [] (fun _ _ => (1, 400)) (fun as σ K _ => match as with
  | [.ref t] => σ t = some (.inr (7, [.null, .int 0, .int 0])) ∧ ∀ q, σ q = none → q ≠ P.2.1.1 → K none (hup (hup σ q (oInts cy 400 (fun _ => 0))) t (oTape q 0 0))
  | _ => False)
set_option maxHeartbeats 2000000 in
theorem m_X6_init (cy : Nat → ClassId) (P : Pm) (hP : PmOK P) : MOK (cl_X6i P) cy P.2.1 obj cX6_init (iv_X6_init cy P) (fun _ => none) (fun _ => some none) (none) 1 (sp_X6_init cy P) := by
  intro as σ K KX J hlen hT hJ hOld
  obtain ⟨-, -, hT⟩ := hT
  split at hT
  · rename_i t
    obtain ⟨ht, hT⟩ := hT
    have c400 : (400 : Int32).toNatClampNeg = 400 := by decide
    refine wp_of_S hJ (ct []) 400 _ _ _ _ _ _ ?_
    simp only [w_aload_n (cut := ct []) (pc' := 1) (i := 0) rfl dX6_init_0 rfl rfl, w_invoke (inv := iv_X6_init cy P) (kd := 2) (f := 3) (g := sp_OBJINIT cy P) (cut := ct []) rfl dX6_init_1 rfl (by decide) rfl, w_aload_n (cut := ct []) (pc' := 5) (i := 0) rfl dX6_init_4 rfl rfl, w_sipush (cut := ct []) (pc' := 8) (v := 400) rfl dX6_init_5 rfl rfl, w_newarray_int (cut := ct []) rfl dX6_init_8, w_putfield (cut := ct []) (pc' := 13) rfl dX6_init_10 rfl (q_X6i_f9 P), w_aload_n (cut := ct []) (pc' := 14) (i := 0) rfl dX6_init_13 rfl rfl, w_iconst (cut := ct []) (pc' := 15) (v := 0) rfl dX6_init_14 rfl rfl, w_putfield (cut := ct []) (pc' := 18) rfl dX6_init_15 rfl (q_X6i_f15 P), w_aload_n (cut := ct []) (pc' := 19) (i := 0) rfl dX6_init_18 rfl rfl, w_iconst (cut := ct []) (pc' := 20) (v := 0) rfl dX6_init_19 rfl rfl, w_putfield (cut := ct []) (pc' := 23) rfl dX6_init_20 rfl (q_X6i_f19 P), w_return (cut := ct []) rfl dX6_init_23 rfl, rsum, cg_int, cg_ref, cg_null, nby0, strd, mStr, onAL, true_imp_iff, false_imp_iff, not_true_eq_false, not_false_eq_true, Classical.not_not, eq_self, e10, e01, em1, Int32.reduceLT, Int32.reduceLE, onBoat, onGale, onOut, onPort, onRep, onWarn, yn, mI, mS, b0, okA, rcvd, nb0, nb1, ini, List.map_cons, List.map_nil, List.replicate_zero, List.replicate_succ, List.append_nil, ldI, ldA, incK, getK, putK, oldK, castK, inv1, nwO, nwA, nwR, alen, ald, bald, ast, lald, last, rald, rast, goTo, nth, sto, setN, popN, okv, cat1_int, cat1_ref, cat1_null, cat1_rf, va_rf, hup_same, hup_hup, List.length_cons, List.length_nil, List.nil_append, List.cons_append, Option.toList, true_and, and_true, Nat.reduceAdd, Nat.reduceSub, Nat.reduceLT, Nat.reduceLeDiff, Nat.zero_le, Nat.sub_zero, Nat.zero_lt_succ, Nat.lt_add_left_iff_pos, Nat.succ_lt_succ_iff, sp_X6_init, ht, c400, sp_OBJINIT, Nat.le_refl, Nat.sub_self]
    intro q h1 h2
    have hne : t ≠ q := fr_ne ht h1
    simp only [hup_ne _ _ hne, ht, setN, true_and, List.length_cons, List.length_nil, hup_same, hup_hup]
    exact ⟨by decide, by decide, by decide, hT q h1 h2⟩
  · exact hT.elim
set_option maxRecDepth 100000 in
theorem con_X6_init {l : Launch} {s0 : State} {D : va_G} {cy : Nat → ClassId} {P : Pm} {a0 : Array Value} (hE : E0 l s0 D cy P a0) : Con l s0 D yX6_init (Cond.code yX6_init cX6_init 1 none) 1 20 (sp_X6_init cy P) := by
  refine con_of (clok_X6i hE) (by decide) (fun as σ K KX h => okA_cat h.1) (Nat.le_of_ble_eq_true rfl) ?_ ?_ (m_X6_init cy P hE.2.2.2.1)
  · intro p e R s m args below meth c A Q hfr hlo hW B kd j g hg
    unfold iv_X6_init at hg
    split at hg
    · cases hg; exact inv_obj B hE tw_43 tw_36 tw_37 (by rw [hfr]; decide) (by rw [hlo]; decide)
    · cases hg
  · intro p e R s m args below meth c A K KX hfr hlo hW B htab
    exact xok_none htab
def iv_X6_length (cy : Nat → ClassId) (P : Pm) : Nat → Nat → Option Sg
  | _, _ => none
def sp_X6_length (cy : Nat → ClassId) (P : Pm) : Sg := mI 7 [] b0 (fun as σ K _ => match as with
  | [.ref t] => ∃ b L p f, TQ cy σ t b L p f ∧ K (some (.int (nI L))) σ
  | _ => False)
set_option maxHeartbeats 2000000 in
theorem m_X6_length (cy : Nat → ClassId) (P : Pm) (hP : PmOK P) : MOK (cl_X6 P) cy P.2.1 obj cX6_length (iv_X6_length cy P) (fun _ => none) (fun _ => some none) (some .int) 1 (sp_X6_length cy P) := by
  intro as σ K KX J hlen hT hJ hOld
  obtain ⟨-, -, hT⟩ := hT
  split at hT
  · rename_i t
    obtain ⟨b, L, p, f, ⟨ht, hb, hL⟩, hT⟩ := hT
    refine wp_of_S hJ (ct []) 400 _ _ _ _ _ _ ?_
    simp only [w_aload_n (cut := ct []) (pc' := 1) (i := 0) rfl dX6_length_0 rfl rfl, w_getfield (cut := ct []) (pc' := 4) rfl dX6_length_1 rfl (q_X6_f15 P), w_ireturnI (cut := ct []) rfl dX6_length_4 rfl, rsum, cg_int, cg_ref, cg_null, nby0, strd, mStr, onAL, true_imp_iff, false_imp_iff, not_true_eq_false, not_false_eq_true, Classical.not_not, eq_self, e10, e01, em1, Int32.reduceLT, Int32.reduceLE, onBoat, onGale, onOut, onPort, onRep, onWarn, yn, mI, mS, b0, okA, rcvd, nb0, nb1, ini, List.map_cons, List.map_nil, List.replicate_zero, List.replicate_succ, List.append_nil, ldI, ldA, incK, getK, putK, oldK, castK, inv1, nwO, nwA, nwR, alen, ald, bald, ast, lald, last, rald, rast, goTo, nth, sto, setN, popN, okv, cat1_int, cat1_ref, cat1_null, cat1_rf, va_rf, hup_same, hup_hup, List.length_cons, List.length_nil, List.nil_append, List.cons_append, Option.toList, true_and, and_true, Nat.reduceAdd, Nat.reduceSub, Nat.reduceLT, Nat.reduceLeDiff, Nat.zero_le, Nat.sub_zero, Nat.zero_lt_succ, Nat.lt_add_left_iff_pos, Nat.succ_lt_succ_iff, sp_X6_length, ht]
    exact hT
  · exact hT.elim
set_option maxRecDepth 100000 in
theorem con_X6_length {l : Launch} {s0 : State} {D : va_G} {cy : Nat → ClassId} {P : Pm} {a0 : Array Value} (hE : E0 l s0 D cy P a0) : Con l s0 D yX6_length (Cond.code yX6_length cX6_length 1 (some .int)) 0 0 (sp_X6_length cy P) := by
  refine con_of (clok_X6 hE _) (by decide) (fun as σ K KX h => okA_cat h.1) (Nat.le_of_ble_eq_true rfl) ?_ ?_ (m_X6_length cy P hE.2.2.2.1)
  · intro p e R s m args below meth c A Q hfr hlo hW B kd j g hg
    cases hg
  · intro p e R s m args below meth c A K KX hfr hlo hW B htab
    exact xok_none htab
def iv_X6_place (cy : Nat → ClassId) (P : Pm) : Nat → Nat → Option Sg
  | _, _ => none
def sp_X6_place (cy : Nat → ClassId) (P : Pm) : Sg := mI 7 [] b0 (fun as σ K _ => match as with
  | [.ref t] => ∃ b L p f, TP cy σ t b L p f ∧ K (some (.int (nI p))) σ
  | _ => False)
set_option maxHeartbeats 2000000 in
theorem m_X6_place (cy : Nat → ClassId) (P : Pm) (hP : PmOK P) : MOK (cl_X6 P) cy P.2.1 obj cX6_place (iv_X6_place cy P) (fun _ => none) (fun _ => some none) (some .int) 1 (sp_X6_place cy P) := by
  intro as σ K KX J hlen hT hJ hOld
  obtain ⟨-, -, hT⟩ := hT
  split at hT
  · rename_i t
    obtain ⟨b, L, p, f, ⟨ht, hb, hL, hp⟩, hT⟩ := hT
    refine wp_of_S hJ (ct []) 400 _ _ _ _ _ _ ?_
    simp only [w_aload_n (cut := ct []) (pc' := 1) (i := 0) rfl dX6_place_0 rfl rfl, w_getfield (cut := ct []) (pc' := 4) rfl dX6_place_1 rfl (q_X6_f19 P), w_ireturnI (cut := ct []) rfl dX6_place_4 rfl, rsum, cg_int, cg_ref, cg_null, nby0, strd, mStr, onAL, true_imp_iff, false_imp_iff, not_true_eq_false, not_false_eq_true, Classical.not_not, eq_self, e10, e01, em1, Int32.reduceLT, Int32.reduceLE, onBoat, onGale, onOut, onPort, onRep, onWarn, yn, mI, mS, b0, okA, rcvd, nb0, nb1, ini, List.map_cons, List.map_nil, List.replicate_zero, List.replicate_succ, List.append_nil, ldI, ldA, incK, getK, putK, oldK, castK, inv1, nwO, nwA, nwR, alen, ald, bald, ast, lald, last, rald, rast, goTo, nth, sto, setN, popN, okv, cat1_int, cat1_ref, cat1_null, cat1_rf, va_rf, hup_same, hup_hup, List.length_cons, List.length_nil, List.nil_append, List.cons_append, Option.toList, true_and, and_true, Nat.reduceAdd, Nat.reduceSub, Nat.reduceLT, Nat.reduceLeDiff, Nat.zero_le, Nat.sub_zero, Nat.zero_lt_succ, Nat.lt_add_left_iff_pos, Nat.succ_lt_succ_iff, sp_X6_place, ht]
    exact hT
  · exact hT.elim
set_option maxRecDepth 100000 in
theorem con_X6_place {l : Launch} {s0 : State} {D : va_G} {cy : Nat → ClassId} {P : Pm} {a0 : Array Value} (hE : E0 l s0 D cy P a0) : Con l s0 D yX6_place (Cond.code yX6_place cX6_place 1 (some .int)) 0 0 (sp_X6_place cy P) := by
  refine con_of (clok_X6 hE _) (by decide) (fun as σ K KX h => okA_cat h.1) (Nat.le_of_ble_eq_true rfl) ?_ ?_ (m_X6_place cy P hE.2.2.2.1)
  · intro p e R s m args below meth c A Q hfr hlo hW B kd j g hg
    cases hg
  · intro p e R s m args below meth c A K KX hfr hlo hW B htab
    exact xok_none htab
def iv_X6_hasRoomFor (cy : Nat → ClassId) (P : Pm) : Nat → Nat → Option Sg
  | _, _ => none
def sp_X6_hasRoomFor (cy : Nat → ClassId) (P : Pm) : Sg := mI 7 [0] b0 (fun as σ K _ => match as with
  | [.ref t, .int m] => ∃ b L p f, TQ cy σ t b L p f ∧ m = 20 ∧ yn (L + 20 ≤ 400) K σ
  | _ => False)
set_option maxHeartbeats 2000000 in
theorem m_X6_hasRoomFor (cy : Nat → ClassId) (P : Pm) (hP : PmOK P) : MOK (cl_X6 P) cy P.2.1 obj cX6_hasRoomFor (iv_X6_hasRoomFor cy P) (fun _ => none) (fun _ => some none) (some .boolean) 2 (sp_X6_hasRoomFor cy P) := by
  intro as σ K KX J hlen hT hJ hOld
  obtain ⟨-, -, hT⟩ := hT
  split at hT
  · rename_i t m
    obtain ⟨b, L, p, f, ⟨ht, hb, hL⟩, rfl, hT1, hT2⟩ := hT
    have e1 : (400 < nI L + 20) = ¬ (L + 20 ≤ 400) := propext (by rw [show (20 : Int32) = nI 20 from rfl, nI_add, show (400 : Int32) = nI 400 from rfl, nI_ltI (by decide) (by omega)]; omega)
    all_goals
      refine wp_of_S hJ (ct []) 400 _ _ _ _ _ _ ?_
      simp only [w_aload_n (cut := ct []) (pc' := 1) (i := 0) rfl dX6_hasRoomFor_0 rfl rfl, w_getfield (cut := ct []) (pc' := 4) rfl dX6_hasRoomFor_1 rfl (q_X6_f15 P), w_iload_n (cut := ct []) (pc' := 5) (i := 1) rfl dX6_hasRoomFor_4 rfl rfl, w_iadd (cut := ct []) (pc' := 6) rfl dX6_hasRoomFor_5 rfl, w_sipush (cut := ct []) (pc' := 9) (v := 400) rfl dX6_hasRoomFor_6 rfl rfl, w_icmp_gt (cut := ct []) (pc' := 12) (t := 16) rfl dX6_hasRoomFor_9 rfl (by decide) rfl, w_iconst (cut := ct []) (pc' := 13) (v := 1) rfl dX6_hasRoomFor_12 rfl rfl, w_goto (cut := ct []) (t := 17) rfl dX6_hasRoomFor_13 (by decide) rfl, w_iconst (cut := ct []) (pc' := 17) (v := 0) rfl dX6_hasRoomFor_16 rfl rfl, w_ireturn (ty := .boolean) (cut := ct []) rfl dX6_hasRoomFor_17 rfl, rsum, cg_int, cg_ref, cg_null, nby0, strd, mStr, onAL, true_imp_iff, false_imp_iff, not_true_eq_false, not_false_eq_true, Classical.not_not, eq_self, e10, e01, em1, Int32.reduceLT, Int32.reduceLE, onBoat, onGale, onOut, onPort, onRep, onWarn, yn, mI, mS, b0, okA, rcvd, nb0, nb1, ini, List.map_cons, List.map_nil, List.replicate_zero, List.replicate_succ, List.append_nil, ldI, ldA, incK, getK, putK, oldK, castK, inv1, nwO, nwA, nwR, alen, ald, bald, ast, lald, last, rald, rast, goTo, nth, sto, setN, popN, okv, cat1_int, cat1_ref, cat1_null, cat1_rf, va_rf, hup_same, hup_hup, List.length_cons, List.length_nil, List.nil_append, List.cons_append, Option.toList, true_and, and_true, Nat.reduceAdd, Nat.reduceSub, Nat.reduceLT, Nat.reduceLeDiff, Nat.zero_le, Nat.sub_zero, Nat.zero_lt_succ, Nat.lt_add_left_iff_pos, Nat.succ_lt_succ_iff, sp_X6_hasRoomFor, ht, e1]
      exact ⟨fun h => hT2 (by omega), fun h => hT1 (by omega)⟩
  · exact hT.elim
set_option maxRecDepth 100000 in
theorem con_X6_hasRoomFor {l : Launch} {s0 : State} {D : va_G} {cy : Nat → ClassId} {P : Pm} {a0 : Array Value} (hE : E0 l s0 D cy P a0) : Con l s0 D yX6_hasRoomFor (Cond.code yX6_hasRoomFor cX6_hasRoomFor 2 (some .boolean)) 0 0 (sp_X6_hasRoomFor cy P) := by
  refine con_of (clok_X6 hE _) (by decide) (fun as σ K KX h => okA_cat h.1) (Nat.le_of_ble_eq_true rfl) ?_ ?_ (m_X6_hasRoomFor cy P hE.2.2.2.1)
  · intro p e R s m args below meth c A Q hfr hlo hW B kd j g hg
    cases hg
  · intro p e R s m args below meth c A K KX hfr hlo hW B htab
    exact xok_none htab
def iv_X6_isReadUp (cy : Nat → ClassId) (P : Pm) : Nat → Nat → Option Sg
  | _, _ => none
def sp_X6_isReadUp (cy : Nat → ClassId) (P : Pm) : Sg := mI 7 [] b0 (fun as σ K _ => match as with
  | [.ref t] => ∃ b L p f, TP cy σ t b L p f ∧ yn (p = L) K σ
  | _ => False)
set_option maxHeartbeats 2000000 in
theorem m_X6_isReadUp (cy : Nat → ClassId) (P : Pm) (hP : PmOK P) : MOK (cl_X6 P) cy P.2.1 obj cX6_isReadUp (iv_X6_isReadUp cy P) (fun _ => none) (fun _ => some none) (some .boolean) 1 (sp_X6_isReadUp cy P) := by
  intro as σ K KX J hlen hT hJ hOld
  obtain ⟨-, -, hT⟩ := hT
  split at hT
  · rename_i t
    obtain ⟨b, L, p, f, ⟨ht, hb, hL, hp⟩, hT1, hT2⟩ := hT
    have e1 : (nI p < nI L) = (p < L) := propext (nI_ltI (by omega) (by omega))
    all_goals
      refine wp_of_S hJ (ct []) 400 _ _ _ _ _ _ ?_
      simp only [w_aload_n (cut := ct []) (pc' := 1) (i := 0) rfl dX6_isReadUp_0 rfl rfl, w_getfield (cut := ct []) (pc' := 4) rfl dX6_isReadUp_1 rfl (q_X6_f19 P), w_aload_n (cut := ct []) (pc' := 5) (i := 0) rfl dX6_isReadUp_4 rfl rfl, w_getfield (cut := ct []) (pc' := 8) rfl dX6_isReadUp_5 rfl (q_X6_f15 P), w_icmp_lt (cut := ct []) (pc' := 11) (t := 15) rfl dX6_isReadUp_8 rfl (by decide) rfl, w_iconst (cut := ct []) (pc' := 12) (v := 1) rfl dX6_isReadUp_11 rfl rfl, w_goto (cut := ct []) (t := 16) rfl dX6_isReadUp_12 (by decide) rfl, w_iconst (cut := ct []) (pc' := 16) (v := 0) rfl dX6_isReadUp_15 rfl rfl, w_ireturn (ty := .boolean) (cut := ct []) rfl dX6_isReadUp_16 rfl, rsum, cg_int, cg_ref, cg_null, nby0, strd, mStr, onAL, true_imp_iff, false_imp_iff, not_true_eq_false, not_false_eq_true, Classical.not_not, eq_self, e10, e01, em1, Int32.reduceLT, Int32.reduceLE, onBoat, onGale, onOut, onPort, onRep, onWarn, yn, mI, mS, b0, okA, rcvd, nb0, nb1, ini, List.map_cons, List.map_nil, List.replicate_zero, List.replicate_succ, List.append_nil, ldI, ldA, incK, getK, putK, oldK, castK, inv1, nwO, nwA, nwR, alen, ald, bald, ast, lald, last, rald, rast, goTo, nth, sto, setN, popN, okv, cat1_int, cat1_ref, cat1_null, cat1_rf, va_rf, hup_same, hup_hup, List.length_cons, List.length_nil, List.nil_append, List.cons_append, Option.toList, true_and, and_true, Nat.reduceAdd, Nat.reduceSub, Nat.reduceLT, Nat.reduceLeDiff, Nat.zero_le, Nat.sub_zero, Nat.zero_lt_succ, Nat.lt_add_left_iff_pos, Nat.succ_lt_succ_iff, sp_X6_isReadUp, ht, e1]
      exact ⟨fun h => hT2 (by omega), fun h => hT1 (by omega)⟩
  · exact hT.elim
set_option maxRecDepth 100000 in
theorem con_X6_isReadUp {l : Launch} {s0 : State} {D : va_G} {cy : Nat → ClassId} {P : Pm} {a0 : Array Value} (hE : E0 l s0 D cy P a0) : Con l s0 D yX6_isReadUp (Cond.code yX6_isReadUp cX6_isReadUp 1 (some .boolean)) 0 0 (sp_X6_isReadUp cy P) := by
  refine con_of (clok_X6 hE _) (by decide) (fun as σ K KX h => okA_cat h.1) (Nat.le_of_ble_eq_true rfl) ?_ ?_ (m_X6_isReadUp cy P hE.2.2.2.1)
  · intro p e R s m args below meth c A Q hfr hlo hW B kd j g hg
    cases hg
  · intro p e R s m args below meth c A K KX hfr hlo hW B htab
    exact xok_none htab
def iv_X6_cutTo (cy : Nat → ClassId) (P : Pm) : Nat → Nat → Option Sg
  | _, _ => none
def sp_X6_cutTo (cy : Nat → ClassId) (P : Pm) : Sg := mI 7 [0] b0 (fun as σ K _ => match as with
  | [.ref t, .int n] => ∃ b ln pl, σ t = some (oTape b ln pl) ∧ (¬ (n < 0 ∨ ln < n) → K (some (.int 1)) (hup σ t (oTape b n pl))) ∧ ((n < 0 ∨ ln < n) → K (some (.int 0)) σ)
  | _ => False)
set_option maxHeartbeats 2000000 in
theorem m_X6_cutTo (cy : Nat → ClassId) (P : Pm) (hP : PmOK P) : MOK (cl_X6 P) cy P.2.1 obj cX6_cutTo (iv_X6_cutTo cy P) (fun _ => none) (fun _ => some none) (some .boolean) 2 (sp_X6_cutTo cy P) := by
  intro as σ K KX J hlen hT hJ hOld
  obtain ⟨-, -, hT⟩ := hT
  split at hT
  · rename_i t n
    obtain ⟨b, ln, pl, ht, hT1, hT2⟩ := hT
    refine wp_of_S hJ (ct []) 400 _ _ _ _ _ _ ?_
    simp only [w_iload_n (cut := ct []) (pc' := 1) (i := 1) rfl dX6_cutTo_0 rfl rfl, w_if_lt (cut := ct []) (pc' := 4) (t := 12) rfl dX6_cutTo_1 rfl (by decide) rfl, w_iload_n (cut := ct []) (pc' := 5) (i := 1) rfl dX6_cutTo_4 rfl rfl, w_aload_n (cut := ct []) (pc' := 6) (i := 0) rfl dX6_cutTo_5 rfl rfl, w_getfield (cut := ct []) (pc' := 9) rfl dX6_cutTo_6 rfl (q_X6_f15 P), w_icmp_le (cut := ct []) (pc' := 12) (t := 14) rfl dX6_cutTo_9 rfl (by decide) rfl, w_iconst (cut := ct []) (pc' := 13) (v := 0) rfl dX6_cutTo_12 rfl rfl, w_ireturn (ty := .boolean) (cut := ct []) rfl dX6_cutTo_13 rfl, w_aload_n (cut := ct []) (pc' := 15) (i := 0) rfl dX6_cutTo_14 rfl rfl, w_iload_n (cut := ct []) (pc' := 16) (i := 1) rfl dX6_cutTo_15 rfl rfl, w_putfield (cut := ct []) (pc' := 19) rfl dX6_cutTo_16 rfl (q_X6_f15 P), w_iconst (cut := ct []) (pc' := 20) (v := 1) rfl dX6_cutTo_19 rfl rfl, w_ireturn (ty := .boolean) (cut := ct []) rfl dX6_cutTo_20 rfl, rsum, cg_int, cg_ref, cg_null, nby0, strd, mStr, onAL, true_imp_iff, false_imp_iff, not_true_eq_false, not_false_eq_true, Classical.not_not, eq_self, e10, e01, em1, Int32.reduceLT, Int32.reduceLE, onBoat, onGale, onOut, onPort, onRep, onWarn, yn, mI, mS, b0, okA, rcvd, nb0, nb1, ini, List.map_cons, List.map_nil, List.replicate_zero, List.replicate_succ, List.append_nil, ldI, ldA, incK, getK, putK, oldK, castK, inv1, nwO, nwA, nwR, alen, ald, bald, ast, lald, last, rald, rast, goTo, nth, sto, setN, popN, okv, cat1_int, cat1_ref, cat1_null, cat1_rf, va_rf, hup_same, hup_hup, List.length_cons, List.length_nil, List.nil_append, List.cons_append, Option.toList, true_and, and_true, Nat.reduceAdd, Nat.reduceSub, Nat.reduceLT, Nat.reduceLeDiff, Nat.zero_le, Nat.sub_zero, Nat.zero_lt_succ, Nat.lt_add_left_iff_pos, Nat.succ_lt_succ_iff, sp_X6_cutTo, ht]
    grind
  · exact hT.elim
set_option maxRecDepth 100000 in
theorem con_X6_cutTo {l : Launch} {s0 : State} {D : va_G} {cy : Nat → ClassId} {P : Pm} {a0 : Array Value} (hE : E0 l s0 D cy P a0) : Con l s0 D yX6_cutTo (Cond.code yX6_cutTo cX6_cutTo 2 (some .boolean)) 0 0 (sp_X6_cutTo cy P) := by
  refine con_of (clok_X6 hE _) (by decide) (fun as σ K KX h => okA_cat h.1) (Nat.le_of_ble_eq_true rfl) ?_ ?_ (m_X6_cutTo cy P hE.2.2.2.1)
  · intro p e R s m args below meth c A Q hfr hlo hW B kd j g hg
    cases hg
  · intro p e R s m args below meth c A K KX hfr hlo hW B htab
    exact xok_none htab
/-- a byte of the tape, -1 behind it -/
def bt (f : Nat → Int32) (L k : Nat) : Int32 := if k < L then f k else -1
def iv_X6_byteAt (cy : Nat → ClassId) (P : Pm) : Nat → Nat → Option Sg
  | _, _ => none
def sp_X6_byteAt (cy : Nat → ClassId) (P : Pm) : Sg := mI 7 [0] b0 (fun as σ K _ => match as with
  | [.ref t, .int i] => ∃ b L p f k, TP cy σ t b L p f ∧ i = nI k ∧ k ≤ 1000 ∧ K (some (.int (bt f L k))) σ
  | _ => False)
set_option maxHeartbeats 2000000 in
theorem m_X6_byteAt (cy : Nat → ClassId) (P : Pm) (hP : PmOK P) : MOK (cl_X6 P) cy P.2.1 obj cX6_byteAt (iv_X6_byteAt cy P) (fun _ => none) (fun _ => some none) (some .int) 2 (sp_X6_byteAt cy P) := by
  intro as σ K KX J hlen hT hJ hOld
  obtain ⟨-, -, hT⟩ := hT
  split at hT
  · rename_i t i
    obtain ⟨b, L, p, f, k, ⟨ht, hb, hL, hp⟩, rfl, hk, hT⟩ := hT
    have h0 : (nI k < 0) = False := eq_false (nI_pos (by omega))
    have h1 : (nI L ≤ nI k) = (L ≤ k) := propext (nI_leI (by omega) (by omega))
    have h2 : (Int32.ofNat 400 ≤ nI k) = (400 ≤ k) := propext (nI_leI (a := 400) (by omega) (by omega))
    have hbz : (b = P.2.1.1) = False := eq_false (fun z => by rw [z, hOld.1] at hb; cases hb)
    have hcl : (nI k).toNatClampNeg = k := nI_clamp (by omega)
    refine wp_of_S hJ (ct []) 400 _ _ _ _ _ _ ?_
    simp only [w_iload_n (cut := ct []) (pc' := 1) (i := 1) rfl dX6_byteAt_0 rfl rfl, w_if_lt (cut := ct []) (pc' := 4) (t := 30) rfl dX6_byteAt_1 rfl (by decide) rfl, w_iload_n (cut := ct []) (pc' := 5) (i := 1) rfl dX6_byteAt_4 rfl rfl, w_aload_n (cut := ct []) (pc' := 6) (i := 0) rfl dX6_byteAt_5 rfl rfl, w_getfield (cut := ct []) (pc' := 9) rfl dX6_byteAt_6 rfl (q_X6_f15 P), w_icmp_ge (cut := ct []) (pc' := 12) (t := 30) rfl dX6_byteAt_9 rfl (by decide) rfl, w_iload_n (cut := ct []) (pc' := 13) (i := 1) rfl dX6_byteAt_12 rfl rfl, w_aload_n (cut := ct []) (pc' := 14) (i := 0) rfl dX6_byteAt_13 rfl rfl, w_getfield (cut := ct []) (pc' := 17) rfl dX6_byteAt_14 rfl (q_X6_f9 P), w_arraylength (cut := ct []) rfl dX6_byteAt_17, w_icmp_ge (cut := ct []) (pc' := 21) (t := 30) rfl dX6_byteAt_18 rfl (by decide) rfl, w_aload_n (cut := ct []) (pc' := 22) (i := 0) rfl dX6_byteAt_21 rfl rfl, w_getfield (cut := ct []) (pc' := 25) rfl dX6_byteAt_22 rfl (q_X6_f9 P), w_iload_n (cut := ct []) (pc' := 26) (i := 1) rfl dX6_byteAt_25 rfl rfl, w_iaload (cut := ct []) rfl dX6_byteAt_26, w_goto (cut := ct []) (t := 31) rfl dX6_byteAt_27 (by decide) rfl, w_iconst (cut := ct []) (pc' := 31) (v := (-1)) rfl dX6_byteAt_30 rfl rfl, w_ireturnI (cut := ct []) rfl dX6_byteAt_31 rfl, rsum, cg_int, cg_ref, cg_null, nby0, strd, mStr, onAL, true_imp_iff, false_imp_iff, not_true_eq_false, not_false_eq_true, Classical.not_not, eq_self, e10, e01, em1, Int32.reduceLT, Int32.reduceLE, onBoat, onGale, onOut, onPort, onRep, onWarn, yn, mI, mS, b0, okA, rcvd, nb0, nb1, ini, List.map_cons, List.map_nil, List.replicate_zero, List.replicate_succ, List.append_nil, ldI, ldA, incK, getK, putK, oldK, castK, inv1, nwO, nwA, nwR, alen, ald, bald, ast, lald, last, rald, rast, goTo, nth, sto, setN, popN, okv, cat1_int, cat1_ref, cat1_null, cat1_rf, va_rf, hup_same, hup_hup, List.length_cons, List.length_nil, List.nil_append, List.cons_append, Option.toList, true_and, and_true, Nat.reduceAdd, Nat.reduceSub, Nat.reduceLT, Nat.reduceLeDiff, Nat.zero_le, Nat.sub_zero, Nat.zero_lt_succ, Nat.lt_add_left_iff_pos, Nat.succ_lt_succ_iff, sp_X6_byteAt, ht, hb, h0, h1, h2, hbz, hcl, ite_false, true_or]
    unfold bt at hT
    refine ⟨fun h => ?_, fun h => ⟨fun h3 => ?_, fun h3 => ⟨vp_in_nI (by omega) (by omega), ?_⟩⟩⟩
    · rw [if_neg (by omega)] at hT; exact hT
    · omega
    · rw [if_pos (by omega)] at hT; exact hT
  · exact hT.elim
set_option maxRecDepth 100000 in
theorem con_X6_byteAt {l : Launch} {s0 : State} {D : va_G} {cy : Nat → ClassId} {P : Pm} {a0 : Array Value} (hE : E0 l s0 D cy P a0) : Con l s0 D yX6_byteAt (Cond.code yX6_byteAt cX6_byteAt 2 (some .int)) 0 0 (sp_X6_byteAt cy P) := by
  refine con_of (clok_X6 hE _) (by decide) (fun as σ K KX h => okA_cat h.1) (Nat.le_of_ble_eq_true rfl) ?_ ?_ (m_X6_byteAt cy P hE.2.2.2.1)
  · intro p e R s m args below meth c A Q hfr hlo hW B kd j g hg
    cases hg
  · intro p e R s m args below meth c A K KX hfr hlo hW B htab
    exact xok_none htab

def iv_X6_append (cy : Nat → ClassId) (P : Pm) : Nat → Nat → Option Sg
  | _, _ => none
/-- four bytes of a number behind the tape, the highest first -/
def by4 (v : Int32) (i : Nat) : Int32 := (v.toUInt32 >>> ((nI (3 - i) * 8).toUInt32 &&& Int32.toUInt32 31)).toInt32 &&& 255
def put4 (f : Nat → Int32) (L : Nat) (v : Int32) : Nat → Nat → Int32
  | 0 => f
  | k + 1 => upd (put4 f L v k) (L + k) (by4 v k)
def sp_X6_append (cy : Nat → ClassId) (P : Pm) : Sg := mI 7 [0] b0 (fun as σ K _ => match as with
  | [.ref t, .int v] => ∃ b L p f, TQ cy σ t b L p f ∧ L + 4 ≤ 400 ∧ K none (hup (hup σ b (oInts cy 400 (put4 f L v 4))) t (oTape b (nI (L + 4)) p))
  | _ => False)
set_option maxHeartbeats 4000000 in
theorem m_X6_append (cy : Nat → ClassId) (P : Pm) (hP : PmOK P) : MOK (cl_X6 P) cy P.2.1 obj cX6_append (iv_X6_append cy P) (fun _ => none) (fun _ => some none) (none) 3 (sp_X6_append cy P) := by
  intro as σ K KX J hlen hT hJ hOld
  obtain ⟨-, -, hT⟩ := hT
  split at hT
  · rename_i t v
    obtain ⟨b, L, p, f, ⟨ht, hb, hL⟩, hL4, hT⟩ := hT
    have htb : t ≠ b := kne ht hb (by intro z; cases z)
    have hbz : (b = P.2.1.1) = False := eq_false (fun z => by rw [z, hOld.1] at hb; cases hb)
    have hbt : (b = t) = False := eq_false (Ne.symm htb)
    have htb' : (t = b) = False := eq_false htb
    have key : ∀ (m k : Nat), k + m = 4 → J 2 [some (.ref t), some (.int v), some (.int (nI m + (-1)))] [] (hup (hup σ b (oInts cy 400 (put4 f L v k))) t (oTape b (nI (L + k)) p)) 0 0 := by
      intro m
      induction m with
      | zero =>
        intro k hk
        have : k = 4 := by omega
        subst this
        have h0 : (nI 0 + (-1) < 0) = True := eq_true (by decide)
        refine hJ (ct [2]) 400 _ _ _ _ _ _ ((s_iload_n (pc' := 3) (i := 2) dX6_append_2 rfl rfl).mpr ?_)
        simp only [w_iconst (cut := ct [2]) (pc' := 1) (v := 3) rfl dX6_append_0 rfl rfl, w_istore_n (cut := ct [2]) (pc' := 2) (i := 2) rfl dX6_append_1 rfl rfl, w_cut (cut := ct [2]) (pc := 2) rfl, w_if_lt (cut := ct [2]) (pc' := 6) (t := 53) rfl dX6_append_3 rfl (by decide) rfl, w_aload_n (cut := ct [2]) (pc' := 7) (i := 0) rfl dX6_append_6 rfl rfl, w_getfield (cut := ct [2]) (pc' := 10) rfl dX6_append_7 rfl (q_X6_f15 P), w_aload_n (cut := ct [2]) (pc' := 11) (i := 0) rfl dX6_append_10 rfl rfl, w_getfield (cut := ct [2]) (pc' := 14) rfl dX6_append_11 rfl (q_X6_f9 P), w_arraylength (cut := ct [2]) rfl dX6_append_14, w_icmp_ge (cut := ct [2]) (pc' := 18) (t := 47) rfl dX6_append_15 rfl (by decide) rfl, w_aload_n (cut := ct [2]) (pc' := 19) (i := 0) rfl dX6_append_18 rfl rfl, w_getfield (cut := ct [2]) (pc' := 22) rfl dX6_append_19 rfl (q_X6_f9 P), w_aload_n (cut := ct [2]) (pc' := 23) (i := 0) rfl dX6_append_22 rfl rfl, w_getfield (cut := ct [2]) (pc' := 26) rfl dX6_append_23 rfl (q_X6_f15 P), w_iload_n (cut := ct [2]) (pc' := 27) (i := 1) rfl dX6_append_26 rfl rfl, w_iload_n (cut := ct [2]) (pc' := 28) (i := 2) rfl dX6_append_27 rfl rfl, w_bipush (cut := ct [2]) (pc' := 30) (v := 8) rfl dX6_append_28 rfl rfl, w_imul (cut := ct [2]) (pc' := 31) rfl dX6_append_30 rfl, w_iushr (cut := ct [2]) (pc' := 32) rfl dX6_append_31 rfl, w_sipush (cut := ct [2]) (pc' := 35) (v := 255) rfl dX6_append_32 rfl rfl, w_iand (cut := ct [2]) (pc' := 36) rfl dX6_append_35 rfl, w_iastore (cut := ct [2]) rfl dX6_append_36, w_aload_n (cut := ct [2]) (pc' := 38) (i := 0) rfl dX6_append_37 rfl rfl, w_dup (cut := ct [2]) (pc' := 39) rfl dX6_append_38 rfl, w_getfield (cut := ct [2]) (pc' := 42) rfl dX6_append_39 rfl (q_X6_f15 P), w_iconst (cut := ct [2]) (pc' := 43) (v := 1) rfl dX6_append_42 rfl rfl, w_iadd (cut := ct [2]) (pc' := 44) rfl dX6_append_43 rfl, w_putfield (cut := ct [2]) (pc' := 47) rfl dX6_append_44 rfl (q_X6_f15 P), w_iinc (cut := ct [2]) (pc' := 50) (d := (-1)) rfl dX6_append_47 rfl rfl, w_goto (cut := ct [2]) (t := 2) rfl dX6_append_50 (by decide) rfl, w_return (cut := ct [2]) rfl dX6_append_53 rfl, rsum, cg_int, cg_ref, cg_null, nby0, strd, mStr, onAL, true_imp_iff, false_imp_iff, not_true_eq_false, not_false_eq_true, Classical.not_not, eq_self, e10, e01, em1, Int32.reduceLT, Int32.reduceLE, onBoat, onGale, onOut, onPort, onRep, onWarn, yn, mI, mS, b0, okA, rcvd, nb0, nb1, ini, List.map_cons, List.map_nil, List.replicate_zero, List.replicate_succ, List.append_nil, ldI, ldA, incK, getK, putK, oldK, castK, inv1, nwO, nwA, nwR, alen, ald, bald, ast, lald, last, rald, rast, goTo, nth, sto, setN, popN, okv, cat1_int, cat1_ref, cat1_null, cat1_rf, va_rf, hup_same, hup_hup, List.length_cons, List.length_nil, List.nil_append, List.cons_append, Option.toList, true_and, and_true, Nat.reduceAdd, Nat.reduceSub, Nat.reduceLT, Nat.reduceLeDiff, Nat.zero_le, Nat.sub_zero, Nat.zero_lt_succ, Nat.lt_add_left_iff_pos, Nat.succ_lt_succ_iff, h0]
        exact hT
      | succ m ih =>
        intro k hk
        have hm : nI (m + 1) + (-1) = nI m := pk_m1 m
        have h0 : (nI m < 0) = False := eq_false (nI_pos (by omega))
        have h1 : (Int32.ofNat 400 ≤ nI (L + k)) = False := eq_false (nI_ge (a := L + k) (b := 400) (by omega) (by omega))
        have hin : vp_in (nI (L + k)) 400 = True := eq_true (vp_in_nI (by omega) (by omega))
        have hcl : (nI (L + k)).toNatClampNeg = L + k := nI_clamp (by omega)
        have hnx : nI (L + k) + 1 = nI (L + (k + 1)) := nI_1 (L + k)
        have h4 := ih (k + 1) (by omega)
        have e4 : by4 v k = (v.toUInt32 >>> ((nI m * 8).toUInt32 &&& Int32.toUInt32 31)).toInt32 &&& 255 := by unfold by4; rw [show 3 - k = m by omega]
        rw [hm]
        refine hJ (ct [2]) 400 _ _ _ _ _ _ ((s_iload_n (pc' := 3) (i := 2) dX6_append_2 rfl rfl).mpr ?_)
        simp only [w_iconst (cut := ct [2]) (pc' := 1) (v := 3) rfl dX6_append_0 rfl rfl, w_istore_n (cut := ct [2]) (pc' := 2) (i := 2) rfl dX6_append_1 rfl rfl, w_cut (cut := ct [2]) (pc := 2) rfl, w_if_lt (cut := ct [2]) (pc' := 6) (t := 53) rfl dX6_append_3 rfl (by decide) rfl, w_aload_n (cut := ct [2]) (pc' := 7) (i := 0) rfl dX6_append_6 rfl rfl, w_getfield (cut := ct [2]) (pc' := 10) rfl dX6_append_7 rfl (q_X6_f15 P), w_aload_n (cut := ct [2]) (pc' := 11) (i := 0) rfl dX6_append_10 rfl rfl, w_getfield (cut := ct [2]) (pc' := 14) rfl dX6_append_11 rfl (q_X6_f9 P), w_arraylength (cut := ct [2]) rfl dX6_append_14, w_icmp_ge (cut := ct [2]) (pc' := 18) (t := 47) rfl dX6_append_15 rfl (by decide) rfl, w_aload_n (cut := ct [2]) (pc' := 19) (i := 0) rfl dX6_append_18 rfl rfl, w_getfield (cut := ct [2]) (pc' := 22) rfl dX6_append_19 rfl (q_X6_f9 P), w_aload_n (cut := ct [2]) (pc' := 23) (i := 0) rfl dX6_append_22 rfl rfl, w_getfield (cut := ct [2]) (pc' := 26) rfl dX6_append_23 rfl (q_X6_f15 P), w_iload_n (cut := ct [2]) (pc' := 27) (i := 1) rfl dX6_append_26 rfl rfl, w_iload_n (cut := ct [2]) (pc' := 28) (i := 2) rfl dX6_append_27 rfl rfl, w_bipush (cut := ct [2]) (pc' := 30) (v := 8) rfl dX6_append_28 rfl rfl, w_imul (cut := ct [2]) (pc' := 31) rfl dX6_append_30 rfl, w_iushr (cut := ct [2]) (pc' := 32) rfl dX6_append_31 rfl, w_sipush (cut := ct [2]) (pc' := 35) (v := 255) rfl dX6_append_32 rfl rfl, w_iand (cut := ct [2]) (pc' := 36) rfl dX6_append_35 rfl, w_iastore (cut := ct [2]) rfl dX6_append_36, w_aload_n (cut := ct [2]) (pc' := 38) (i := 0) rfl dX6_append_37 rfl rfl, w_dup (cut := ct [2]) (pc' := 39) rfl dX6_append_38 rfl, w_getfield (cut := ct [2]) (pc' := 42) rfl dX6_append_39 rfl (q_X6_f15 P), w_iconst (cut := ct [2]) (pc' := 43) (v := 1) rfl dX6_append_42 rfl rfl, w_iadd (cut := ct [2]) (pc' := 44) rfl dX6_append_43 rfl, w_putfield (cut := ct [2]) (pc' := 47) rfl dX6_append_44 rfl (q_X6_f15 P), w_iinc (cut := ct [2]) (pc' := 50) (d := (-1)) rfl dX6_append_47 rfl rfl, w_goto (cut := ct [2]) (t := 2) rfl dX6_append_50 (by decide) rfl, w_return (cut := ct [2]) rfl dX6_append_53 rfl, rsum, cg_int, cg_ref, cg_null, nby0, strd, mStr, onAL, true_imp_iff, false_imp_iff, not_true_eq_false, not_false_eq_true, Classical.not_not, eq_self, e10, e01, em1, Int32.reduceLT, Int32.reduceLE, onBoat, onGale, onOut, onPort, onRep, onWarn, yn, mI, mS, b0, okA, rcvd, nb0, nb1, ini, List.map_cons, List.map_nil, List.replicate_zero, List.replicate_succ, List.append_nil, ldI, ldA, incK, getK, putK, oldK, castK, inv1, nwO, nwA, nwR, alen, ald, bald, ast, lald, last, rald, rast, goTo, nth, sto, setN, popN, okv, cat1_int, cat1_ref, cat1_null, cat1_rf, va_rf, hup_same, hup_hup, List.length_cons, List.length_nil, List.nil_append, List.cons_append, Option.toList, true_and, and_true, Nat.reduceAdd, Nat.reduceSub, Nat.reduceLT, Nat.reduceLeDiff, Nat.zero_le, Nat.sub_zero, Nat.zero_lt_succ, Nat.lt_add_left_iff_pos, Nat.succ_lt_succ_iff, h0, h1, hin, hcl, hbz, hbt, htb', hnx, hup_app, ite_false, ite_true, true_or]
        have eσ : ∀ x, hup (hup (hup (hup σ b (oInts cy 400 (put4 f L v k))) t (oTape b (nI (L + k)) p)) b (.inl (cy 0, 400, .inl (upd (put4 f L v k) (L + k) ((v.toUInt32 >>> ((nI m * 8).toUInt32 &&& Int32.toUInt32 31)).toInt32 &&& 255))))) t (.inr (7, [.ref b, .int (nI (L + (k + 1))), .int p])) x = hup (hup σ b (oInts cy 400 (put4 f L v (k + 1)))) t (oTape b (nI (L + (k + 1))) p) x := by
          intro x
          by_cases hx : x = t
          · subst hx; rw [hup_same, hup_same]
          · rw [hup_ne _ _ hx, hup_ne _ _ hx]
            by_cases hx2 : x = b
            · subst hx2; rw [hup_same, hup_same, put4, e4]
            · rw [hup_ne _ _ hx2, hup_ne _ _ hx, hup_ne _ _ hx2, hup_ne _ _ hx2]
        rw [funext eσ]
        exact h4
    have hk := key 4 0 rfl
    have e0 : hup (hup σ b (oInts cy 400 (put4 f L v 0))) t (oTape b (nI (L + 0)) p) = σ := by
      funext x
      by_cases hx : x = t
      · subst hx; rw [hup_same]; exact ht.symm
      · rw [hup_ne _ _ hx]
        by_cases hx2 : x = b
        · subst hx2; rw [hup_same]; exact hb.symm
        · rw [hup_ne _ _ hx2]
    rw [e0, show nI 4 + (-1) = 3 by decide] at hk
    refine wp_of_S hJ (ct [2]) 400 _ _ _ _ _ _ ?_
    simp only [w_iconst (cut := ct [2]) (pc' := 1) (v := 3) rfl dX6_append_0 rfl rfl, w_istore_n (cut := ct [2]) (pc' := 2) (i := 2) rfl dX6_append_1 rfl rfl, w_cut (cut := ct [2]) (pc := 2) rfl, w_if_lt (cut := ct [2]) (pc' := 6) (t := 53) rfl dX6_append_3 rfl (by decide) rfl, w_aload_n (cut := ct [2]) (pc' := 7) (i := 0) rfl dX6_append_6 rfl rfl, w_getfield (cut := ct [2]) (pc' := 10) rfl dX6_append_7 rfl (q_X6_f15 P), w_aload_n (cut := ct [2]) (pc' := 11) (i := 0) rfl dX6_append_10 rfl rfl, w_getfield (cut := ct [2]) (pc' := 14) rfl dX6_append_11 rfl (q_X6_f9 P), w_arraylength (cut := ct [2]) rfl dX6_append_14, w_icmp_ge (cut := ct [2]) (pc' := 18) (t := 47) rfl dX6_append_15 rfl (by decide) rfl, w_aload_n (cut := ct [2]) (pc' := 19) (i := 0) rfl dX6_append_18 rfl rfl, w_getfield (cut := ct [2]) (pc' := 22) rfl dX6_append_19 rfl (q_X6_f9 P), w_aload_n (cut := ct [2]) (pc' := 23) (i := 0) rfl dX6_append_22 rfl rfl, w_getfield (cut := ct [2]) (pc' := 26) rfl dX6_append_23 rfl (q_X6_f15 P), w_iload_n (cut := ct [2]) (pc' := 27) (i := 1) rfl dX6_append_26 rfl rfl, w_iload_n (cut := ct [2]) (pc' := 28) (i := 2) rfl dX6_append_27 rfl rfl, w_bipush (cut := ct [2]) (pc' := 30) (v := 8) rfl dX6_append_28 rfl rfl, w_imul (cut := ct [2]) (pc' := 31) rfl dX6_append_30 rfl, w_iushr (cut := ct [2]) (pc' := 32) rfl dX6_append_31 rfl, w_sipush (cut := ct [2]) (pc' := 35) (v := 255) rfl dX6_append_32 rfl rfl, w_iand (cut := ct [2]) (pc' := 36) rfl dX6_append_35 rfl, w_iastore (cut := ct [2]) rfl dX6_append_36, w_aload_n (cut := ct [2]) (pc' := 38) (i := 0) rfl dX6_append_37 rfl rfl, w_dup (cut := ct [2]) (pc' := 39) rfl dX6_append_38 rfl, w_getfield (cut := ct [2]) (pc' := 42) rfl dX6_append_39 rfl (q_X6_f15 P), w_iconst (cut := ct [2]) (pc' := 43) (v := 1) rfl dX6_append_42 rfl rfl, w_iadd (cut := ct [2]) (pc' := 44) rfl dX6_append_43 rfl, w_putfield (cut := ct [2]) (pc' := 47) rfl dX6_append_44 rfl (q_X6_f15 P), w_iinc (cut := ct [2]) (pc' := 50) (d := (-1)) rfl dX6_append_47 rfl rfl, w_goto (cut := ct [2]) (t := 2) rfl dX6_append_50 (by decide) rfl, w_return (cut := ct [2]) rfl dX6_append_53 rfl, rsum, cg_int, cg_ref, cg_null, nby0, strd, mStr, onAL, true_imp_iff, false_imp_iff, not_true_eq_false, not_false_eq_true, Classical.not_not, eq_self, e10, e01, em1, Int32.reduceLT, Int32.reduceLE, onBoat, onGale, onOut, onPort, onRep, onWarn, yn, mI, mS, b0, okA, rcvd, nb0, nb1, ini, List.map_cons, List.map_nil, List.replicate_zero, List.replicate_succ, List.append_nil, ldI, ldA, incK, getK, putK, oldK, castK, inv1, nwO, nwA, nwR, alen, ald, bald, ast, lald, last, rald, rast, goTo, nth, sto, setN, popN, okv, cat1_int, cat1_ref, cat1_null, cat1_rf, va_rf, hup_same, hup_hup, List.length_cons, List.length_nil, List.nil_append, List.cons_append, Option.toList, true_and, and_true, Nat.reduceAdd, Nat.reduceSub, Nat.reduceLT, Nat.reduceLeDiff, Nat.zero_le, Nat.sub_zero, Nat.zero_lt_succ, Nat.lt_add_left_iff_pos, Nat.succ_lt_succ_iff, sp_X6_append]
    exact hk
  · exact hT.elim
set_option maxRecDepth 100000 in
theorem con_X6_append {l : Launch} {s0 : State} {D : va_G} {cy : Nat → ClassId} {P : Pm} {a0 : Array Value} (hE : E0 l s0 D cy P a0) : Con l s0 D yX6_append (Cond.code yX6_append cX6_append 3 none) 0 0 (sp_X6_append cy P) := by
  refine con_of (clok_X6 hE _) (by decide) (fun as σ K KX h => okA_cat h.1) (Nat.le_of_ble_eq_true rfl) ?_ ?_ (m_X6_append cy P hE.2.2.2.1)
  · intro p e R s m args below meth c A Q hfr hlo hW B kd j g hg
    cases hg
  · intro p e R s m args below meth c A K KX hfr hlo hW B htab
    exact xok_none htab
theorem TQ_pl {cy : Nat → ClassId} {σ : Hp} {t b L q : Nat} {p : Int32} {f : Nat → Int32} (h : TQ cy σ t b L p f) (hq : q ≤ L) : TP cy (hup σ t (oTape b (nI L) (nI q))) t b L q f :=
  ⟨hup_same _ _ _, by rw [hup_ne _ _ (kne h.2.1 h.1 (by intro z; cases z))]; exact h.2.1, h.2.2, hq⟩
theorem TP_pl {cy : Nat → ClassId} {σ : Hp} {t b L p q : Nat} {f : Nat → Int32} (h : TP cy σ t b L p f) (hq : q ≤ L) : TP cy (hup σ t (oTape b (nI L) (nI q))) t b L q f :=
  ⟨hup_same _ _ _, by rw [hup_ne _ _ (kne h.2.1 h.1 (by intro z; cases z))]; exact h.2.1, h.2.2.1, hq⟩
def iv_X6_moveTo (cy : Nat → ClassId) (P : Pm) : Nat → Nat → Option Sg
  | 0, 26 => some (sp_X6_byteAt cy P)
  | _, _ => none
def sp_X6_moveTo (cy : Nat → ClassId) (P : Pm) : Sg := mI 7 [0] b0 (fun as σ K _ => match as with
  | [.ref t, .int i] => ∃ b L p f k, TQ cy σ t b L p f ∧ i = nI k ∧ k ≤ L ∧ K none (hup σ t (oTape b (nI L) (nI (adw isB f L k))))
  | _ => False)
set_option maxHeartbeats 4000000 in
theorem m_X6_moveTo (cy : Nat → ClassId) (P : Pm) (hP : PmOK P) : MOK (cl_X6 P) cy P.2.1 obj cX6_moveTo (iv_X6_moveTo cy P) (fun _ => none) (fun _ => some none) (none) 2 (sp_X6_moveTo cy P) := by
  intro as σ K KX J hlen hT hJ hOld
  obtain ⟨-, -, hT⟩ := hT
  split at hT
  · rename_i t i
    obtain ⟨b, L, p, f, k, ⟨ht, hb, hL⟩, rfl, hk, hT⟩ := hT
    have htb : t ≠ b := kne ht hb (by intro z; cases z)
    have key : ∀ (m q : Nat), L - q = m → q ≤ L → K none (hup σ t (oTape b (nI L) (nI (adw isB f L q)))) → J 5 [some (.ref t), some (.int (nI k))] [] (hup σ t (oTape b (nI L) (nI q))) 0 0 := by
      intro m
      induction m with
      | zero =>
        intro q hq hqL hK
        have h1 : (nI L ≤ nI q) = True := eq_true (nI_le (by omega) (by omega))
        rw [adw_no (by omega)] at hK
        refine hJ (ct [5]) 400 _ _ _ _ _ _ ((s_aload_n (pc' := 6) (i := 0) dX6_moveTo_5 rfl rfl).mpr ?_)
        simp only [w_aload_n (cut := ct [5]) (pc' := 1) (i := 0) rfl dX6_moveTo_0 rfl rfl, w_iload_n (cut := ct [5]) (pc' := 2) (i := 1) rfl dX6_moveTo_1 rfl rfl, w_putfield (cut := ct [5]) (pc' := 5) rfl dX6_moveTo_2 rfl (q_X6_f19 P), w_cut (cut := ct [5]) (pc := 5) rfl, w_getfield (cut := ct [5]) (pc' := 9) rfl dX6_moveTo_6 rfl (q_X6_f19 P), w_aload_n (cut := ct [5]) (pc' := 10) (i := 0) rfl dX6_moveTo_9 rfl rfl, w_getfield (cut := ct [5]) (pc' := 13) rfl dX6_moveTo_10 rfl (q_X6_f15 P), w_icmp_ge (cut := ct [5]) (pc' := 16) (t := 42) rfl dX6_moveTo_13 rfl (by decide) rfl, w_aload_n (cut := ct [5]) (pc' := 17) (i := 0) rfl dX6_moveTo_16 rfl rfl, w_aload_n (cut := ct [5]) (pc' := 18) (i := 0) rfl dX6_moveTo_17 rfl rfl, w_getfield (cut := ct [5]) (pc' := 21) rfl dX6_moveTo_18 rfl (q_X6_f19 P), w_invoke (inv := iv_X6_moveTo cy P) (kd := 0) (f := 26) (g := sp_X6_byteAt cy P) (cut := ct [5]) rfl dX6_moveTo_21 rfl (by decide) rfl, w_bipush (cut := ct [5]) (pc' := 26) (v := 32) rfl dX6_moveTo_24 rfl rfl, w_icmp_ne (cut := ct [5]) (pc' := 29) (t := 42) rfl dX6_moveTo_26 rfl (by decide) rfl, w_aload_n (cut := ct [5]) (pc' := 30) (i := 0) rfl dX6_moveTo_29 rfl rfl, w_dup (cut := ct [5]) (pc' := 31) rfl dX6_moveTo_30 rfl, w_getfield (cut := ct [5]) (pc' := 34) rfl dX6_moveTo_31 rfl (q_X6_f19 P), w_iconst (cut := ct [5]) (pc' := 35) (v := 1) rfl dX6_moveTo_34 rfl rfl, w_iadd (cut := ct [5]) (pc' := 36) rfl dX6_moveTo_35 rfl, w_putfield (cut := ct [5]) (pc' := 39) rfl dX6_moveTo_36 rfl (q_X6_f19 P), w_goto (cut := ct [5]) (t := 5) rfl dX6_moveTo_39 (by decide) rfl, w_return (cut := ct [5]) rfl dX6_moveTo_42 rfl, rsum, cg_int, cg_ref, cg_null, nby0, strd, mStr, onAL, true_imp_iff, false_imp_iff, not_true_eq_false, not_false_eq_true, Classical.not_not, eq_self, e10, e01, em1, Int32.reduceLT, Int32.reduceLE, onBoat, onGale, onOut, onPort, onRep, onWarn, yn, mI, mS, b0, okA, rcvd, nb0, nb1, ini, List.map_cons, List.map_nil, List.replicate_zero, List.replicate_succ, List.append_nil, ldI, ldA, incK, getK, putK, oldK, castK, inv1, nwO, nwA, nwR, alen, ald, bald, ast, lald, last, rald, rast, goTo, nth, sto, setN, popN, okv, cat1_int, cat1_ref, cat1_null, cat1_rf, va_rf, hup_same, hup_hup, List.length_cons, List.length_nil, List.nil_append, List.cons_append, Option.toList, true_and, and_true, Nat.reduceAdd, Nat.reduceSub, Nat.reduceLT, Nat.reduceLeDiff, Nat.zero_le, Nat.sub_zero, Nat.zero_lt_succ, Nat.lt_add_left_iff_pos, Nat.succ_lt_succ_iff, h1]
        exact hK
      | succ m ih =>
        intro q hq hqL hK
        have h1 : (nI L ≤ nI q) = False := eq_false (nI_ge (by omega) (by omega))
        have hTP := TQ_pl (q := q) ⟨ht, hb, hL⟩ hqL
        refine hJ (ct [5]) 400 _ _ _ _ _ _ ((s_aload_n (pc' := 6) (i := 0) dX6_moveTo_5 rfl rfl).mpr ?_)
        simp only [w_aload_n (cut := ct [5]) (pc' := 1) (i := 0) rfl dX6_moveTo_0 rfl rfl, w_iload_n (cut := ct [5]) (pc' := 2) (i := 1) rfl dX6_moveTo_1 rfl rfl, w_putfield (cut := ct [5]) (pc' := 5) rfl dX6_moveTo_2 rfl (q_X6_f19 P), w_cut (cut := ct [5]) (pc := 5) rfl, w_getfield (cut := ct [5]) (pc' := 9) rfl dX6_moveTo_6 rfl (q_X6_f19 P), w_aload_n (cut := ct [5]) (pc' := 10) (i := 0) rfl dX6_moveTo_9 rfl rfl, w_getfield (cut := ct [5]) (pc' := 13) rfl dX6_moveTo_10 rfl (q_X6_f15 P), w_icmp_ge (cut := ct [5]) (pc' := 16) (t := 42) rfl dX6_moveTo_13 rfl (by decide) rfl, w_aload_n (cut := ct [5]) (pc' := 17) (i := 0) rfl dX6_moveTo_16 rfl rfl, w_aload_n (cut := ct [5]) (pc' := 18) (i := 0) rfl dX6_moveTo_17 rfl rfl, w_getfield (cut := ct [5]) (pc' := 21) rfl dX6_moveTo_18 rfl (q_X6_f19 P), w_invoke (inv := iv_X6_moveTo cy P) (kd := 0) (f := 26) (g := sp_X6_byteAt cy P) (cut := ct [5]) rfl dX6_moveTo_21 rfl (by decide) rfl, w_bipush (cut := ct [5]) (pc' := 26) (v := 32) rfl dX6_moveTo_24 rfl rfl, w_icmp_ne (cut := ct [5]) (pc' := 29) (t := 42) rfl dX6_moveTo_26 rfl (by decide) rfl, w_aload_n (cut := ct [5]) (pc' := 30) (i := 0) rfl dX6_moveTo_29 rfl rfl, w_dup (cut := ct [5]) (pc' := 31) rfl dX6_moveTo_30 rfl, w_getfield (cut := ct [5]) (pc' := 34) rfl dX6_moveTo_31 rfl (q_X6_f19 P), w_iconst (cut := ct [5]) (pc' := 35) (v := 1) rfl dX6_moveTo_34 rfl rfl, w_iadd (cut := ct [5]) (pc' := 36) rfl dX6_moveTo_35 rfl, w_putfield (cut := ct [5]) (pc' := 39) rfl dX6_moveTo_36 rfl (q_X6_f19 P), w_goto (cut := ct [5]) (t := 5) rfl dX6_moveTo_39 (by decide) rfl, w_return (cut := ct [5]) rfl dX6_moveTo_42 rfl, rsum, cg_int, cg_ref, cg_null, nby0, strd, mStr, onAL, true_imp_iff, false_imp_iff, not_true_eq_false, not_false_eq_true, Classical.not_not, eq_self, e10, e01, em1, Int32.reduceLT, Int32.reduceLE, onBoat, onGale, onOut, onPort, onRep, onWarn, yn, mI, mS, b0, okA, rcvd, nb0, nb1, ini, List.map_cons, List.map_nil, List.replicate_zero, List.replicate_succ, List.append_nil, ldI, ldA, incK, getK, putK, oldK, castK, inv1, nwO, nwA, nwR, alen, ald, bald, ast, lald, last, rald, rast, goTo, nth, sto, setN, popN, okv, cat1_int, cat1_ref, cat1_null, cat1_rf, va_rf, hup_same, hup_hup, List.length_cons, List.length_nil, List.nil_append, List.cons_append, Option.toList, true_and, and_true, Nat.reduceAdd, Nat.reduceSub, Nat.reduceLT, Nat.reduceLeDiff, Nat.zero_le, Nat.sub_zero, Nat.zero_lt_succ, Nat.lt_add_left_iff_pos, Nat.succ_lt_succ_iff, h1, sp_X6_byteAt]
        refine ⟨b, L, q, f, q, hTP, rfl, by omega, fun h => ?_, fun h => ?_⟩
        · rw [adw_no (fun z => h (by unfold bt; rw [if_pos z.1]; simpa [isB] using z.2))] at hK
          exact hK
        · unfold bt at h
          rw [if_pos (by omega)] at h
          rw [adw_go (by omega) (by simpa [isB] using h)] at hK
          have := ih (q + 1) (by omega) (by omega) hK
          rw [← nI_1] at this
          exact this
    have hk2 := key (L - k) k rfl hk hT
    refine wp_of_S hJ (ct [5]) 400 _ _ _ _ _ _ ?_
    simp only [w_aload_n (cut := ct [5]) (pc' := 1) (i := 0) rfl dX6_moveTo_0 rfl rfl, w_iload_n (cut := ct [5]) (pc' := 2) (i := 1) rfl dX6_moveTo_1 rfl rfl, w_putfield (cut := ct [5]) (pc' := 5) rfl dX6_moveTo_2 rfl (q_X6_f19 P), w_cut (cut := ct [5]) (pc := 5) rfl, w_getfield (cut := ct [5]) (pc' := 9) rfl dX6_moveTo_6 rfl (q_X6_f19 P), w_aload_n (cut := ct [5]) (pc' := 10) (i := 0) rfl dX6_moveTo_9 rfl rfl, w_getfield (cut := ct [5]) (pc' := 13) rfl dX6_moveTo_10 rfl (q_X6_f15 P), w_icmp_ge (cut := ct [5]) (pc' := 16) (t := 42) rfl dX6_moveTo_13 rfl (by decide) rfl, w_aload_n (cut := ct [5]) (pc' := 17) (i := 0) rfl dX6_moveTo_16 rfl rfl, w_aload_n (cut := ct [5]) (pc' := 18) (i := 0) rfl dX6_moveTo_17 rfl rfl, w_getfield (cut := ct [5]) (pc' := 21) rfl dX6_moveTo_18 rfl (q_X6_f19 P), w_invoke (inv := iv_X6_moveTo cy P) (kd := 0) (f := 26) (g := sp_X6_byteAt cy P) (cut := ct [5]) rfl dX6_moveTo_21 rfl (by decide) rfl, w_bipush (cut := ct [5]) (pc' := 26) (v := 32) rfl dX6_moveTo_24 rfl rfl, w_icmp_ne (cut := ct [5]) (pc' := 29) (t := 42) rfl dX6_moveTo_26 rfl (by decide) rfl, w_aload_n (cut := ct [5]) (pc' := 30) (i := 0) rfl dX6_moveTo_29 rfl rfl, w_dup (cut := ct [5]) (pc' := 31) rfl dX6_moveTo_30 rfl, w_getfield (cut := ct [5]) (pc' := 34) rfl dX6_moveTo_31 rfl (q_X6_f19 P), w_iconst (cut := ct [5]) (pc' := 35) (v := 1) rfl dX6_moveTo_34 rfl rfl, w_iadd (cut := ct [5]) (pc' := 36) rfl dX6_moveTo_35 rfl, w_putfield (cut := ct [5]) (pc' := 39) rfl dX6_moveTo_36 rfl (q_X6_f19 P), w_goto (cut := ct [5]) (t := 5) rfl dX6_moveTo_39 (by decide) rfl, w_return (cut := ct [5]) rfl dX6_moveTo_42 rfl, rsum, cg_int, cg_ref, cg_null, nby0, strd, mStr, onAL, true_imp_iff, false_imp_iff, not_true_eq_false, not_false_eq_true, Classical.not_not, eq_self, e10, e01, em1, Int32.reduceLT, Int32.reduceLE, onBoat, onGale, onOut, onPort, onRep, onWarn, yn, mI, mS, b0, okA, rcvd, nb0, nb1, ini, List.map_cons, List.map_nil, List.replicate_zero, List.replicate_succ, List.append_nil, ldI, ldA, incK, getK, putK, oldK, castK, inv1, nwO, nwA, nwR, alen, ald, bald, ast, lald, last, rald, rast, goTo, nth, sto, setN, popN, okv, cat1_int, cat1_ref, cat1_null, cat1_rf, va_rf, hup_same, hup_hup, List.length_cons, List.length_nil, List.nil_append, List.cons_append, Option.toList, true_and, and_true, Nat.reduceAdd, Nat.reduceSub, Nat.reduceLT, Nat.reduceLeDiff, Nat.zero_le, Nat.sub_zero, Nat.zero_lt_succ, Nat.lt_add_left_iff_pos, Nat.succ_lt_succ_iff, sp_X6_moveTo, ht]
    exact hk2
  · exact hT.elim
set_option maxRecDepth 100000 in
theorem con_X6_moveTo {l : Launch} {s0 : State} {D : va_G} {cy : Nat → ClassId} {P : Pm} {a0 : Array Value} (hE : E0 l s0 D cy P a0) : Con l s0 D yX6_moveTo (Cond.code yX6_moveTo cX6_moveTo 2 none) 1 21 (sp_X6_moveTo cy P) := by
  refine con_of (clok_X6 hE _) (by decide) (fun as σ K KX h => okA_cat h.1) (Nat.le_of_ble_eq_true rfl) ?_ ?_ (m_X6_moveTo cy P hE.2.2.2.1)
  · intro p e R s m args below meth c A Q hfr hlo hW B kd j g hg
    unfold iv_X6_moveTo at hg
    split at hg
    · cases hg; exact inv_V (ci := 7) B (con_X6_byteAt hE) rfl (fun as σ K KX h => rcvd_spec h.2.1) (cw_mk hE hW tw_533 rfl tw_2 ⟨by decide, by decide⟩ rfl) rfl (wd hE hW tw_530 rfl) (wd hE hW tw_532 rfl) (wd hE hW (List.mem_of_getElem? (i := 9) (by decide +kernel)) rfl) (by rw [hfr]; decide) (by rw [hlo]; decide)
    · cases hg
  · intro p e R s m args below meth c A K KX hfr hlo hW B htab
    exact xok_none htab
def iv_X6_rewind (cy : Nat → ClassId) (P : Pm) : Nat → Nat → Option Sg
  | 0, 22 => some (sp_X6_moveTo cy P)
  | _, _ => none
def sp_X6_rewind (cy : Nat → ClassId) (P : Pm) : Sg := mI 7 [] b0 (fun as σ K _ => match as with
  | [.ref t] => ∃ b L p f, TQ cy σ t b L p f ∧ K none (hup σ t (oTape b (nI L) (nI (adw isB f L 0))))
  | _ => False)
set_option maxHeartbeats 2000000 in
theorem m_X6_rewind (cy : Nat → ClassId) (P : Pm) (hP : PmOK P) : MOK (cl_X6 P) cy P.2.1 obj cX6_rewind (iv_X6_rewind cy P) (fun _ => none) (fun _ => some none) (none) 1 (sp_X6_rewind cy P) := by
  intro as σ K KX J hlen hT hJ hOld
  obtain ⟨-, -, hT⟩ := hT
  split at hT
  · rename_i t
    obtain ⟨b, L, p, f, hTP, hT⟩ := hT
    refine wp_of_S hJ (ct []) 400 _ _ _ _ _ _ ?_
    simp only [w_aload_n (cut := ct []) (pc' := 1) (i := 0) rfl dX6_rewind_0 rfl rfl, w_iconst (cut := ct []) (pc' := 2) (v := 0) rfl dX6_rewind_1 rfl rfl, w_invoke (inv := iv_X6_rewind cy P) (kd := 0) (f := 22) (g := sp_X6_moveTo cy P) (cut := ct []) rfl dX6_rewind_2 rfl (by decide) rfl, w_return (cut := ct []) rfl dX6_rewind_5 rfl, rsum, cg_int, cg_ref, cg_null, nby0, strd, mStr, onAL, true_imp_iff, false_imp_iff, not_true_eq_false, not_false_eq_true, Classical.not_not, eq_self, e10, e01, em1, Int32.reduceLT, Int32.reduceLE, onBoat, onGale, onOut, onPort, onRep, onWarn, yn, mI, mS, b0, okA, rcvd, nb0, nb1, ini, List.map_cons, List.map_nil, List.replicate_zero, List.replicate_succ, List.append_nil, ldI, ldA, incK, getK, putK, oldK, castK, inv1, nwO, nwA, nwR, alen, ald, bald, ast, lald, last, rald, rast, goTo, nth, sto, setN, popN, okv, cat1_int, cat1_ref, cat1_null, cat1_rf, va_rf, hup_same, hup_hup, List.length_cons, List.length_nil, List.nil_append, List.cons_append, Option.toList, true_and, and_true, Nat.reduceAdd, Nat.reduceSub, Nat.reduceLT, Nat.reduceLeDiff, Nat.zero_le, Nat.sub_zero, Nat.zero_lt_succ, Nat.lt_add_left_iff_pos, Nat.succ_lt_succ_iff, sp_X6_rewind, sp_X6_moveTo, hTP.1]
    exact ⟨b, L, p, f, 0, hTP, rfl, Nat.zero_le _, hT⟩
  · exact hT.elim
set_option maxRecDepth 100000 in
theorem con_X6_rewind {l : Launch} {s0 : State} {D : va_G} {cy : Nat → ClassId} {P : Pm} {a0 : Array Value} (hE : E0 l s0 D cy P a0) : Con l s0 D yX6_rewind (Cond.code yX6_rewind cX6_rewind 1 none) 2 42 (sp_X6_rewind cy P) := by
  refine con_of (clok_X6 hE _) (by decide) (fun as σ K KX h => okA_cat h.1) (Nat.le_of_ble_eq_true rfl) ?_ ?_ (m_X6_rewind cy P hE.2.2.2.1)
  · intro p e R s m args below meth c A Q hfr hlo hW B kd j g hg
    unfold iv_X6_rewind at hg
    split at hg
    · cases hg; exact inv_V (ci := 7) B (con_X6_moveTo hE) rfl (fun as σ K KX h => rcvd_spec h.2.1) (cw_mk hE hW tw_529 rfl tw_2 ⟨by decide, by decide⟩ rfl) rfl (wd hE hW tw_526 rfl) (wd hE hW tw_528 rfl) (wd hE hW (List.mem_of_getElem? (i := 8) (by decide +kernel)) rfl) (by rw [hfr]; decide) (by rw [hlo]; decide)
    · cases hg
  · intro p e R s m args below meth c A K KX hfr hlo hW B htab
    exact xok_none htab
def iv_X6_endOfRun (cy : Nat → ClassId) (P : Pm) : Nat → Nat → Option Sg
  | 0, 26 => some (sp_X6_byteAt cy P)
  | _, _ => none
def sp_X6_endOfRun (cy : Nat → ClassId) (P : Pm) : Sg := mI 7 [0, 0] b0 (fun as σ K _ => match as with
  | [.ref t, .int lo, .int hi] => ∃ b L p f, TP cy σ t b L p f ∧ K (some (.int (nI (adw (isIn lo hi) f L p)))) σ
  | _ => False)
set_option maxHeartbeats 4000000 in
theorem m_X6_endOfRun (cy : Nat → ClassId) (P : Pm) (hP : PmOK P) : MOK (cl_X6 P) cy P.2.1 obj cX6_endOfRun (iv_X6_endOfRun cy P) (fun _ => none) (fun _ => some none) (some .int) 4 (sp_X6_endOfRun cy P) := by
  intro as σ K KX J hlen hT hJ hOld
  obtain ⟨-, -, hT⟩ := hT
  split at hT
  · rename_i t lo hi
    obtain ⟨b, L, p, f, hTP, hT⟩ := hT
    obtain ⟨ht, hb, hL, hp⟩ := id hTP
    have key : ∀ (m q : Nat), L - q = m → q ≤ L → K (some (.int (nI (adw (isIn lo hi) f L q)))) σ → J 5 [some (.ref t), some (.int lo), some (.int hi), some (.int (nI q))] [] σ 0 0 := by
      intro m
      induction m with
      | zero =>
        intro q hq hqL hK
        have h1 : (nI L ≤ nI q) = True := eq_true (nI_le (by omega) (by omega))
        rw [adw_no (by omega)] at hK
        refine hJ (ct [5]) 400 _ _ _ _ _ _ ((s_iload_n (pc' := 6) (i := 3) dX6_endOfRun_5 rfl rfl).mpr ?_)
        simp only [w_aload_n (cut := ct [5]) (pc' := 1) (i := 0) rfl dX6_endOfRun_0 rfl rfl, w_getfield (cut := ct [5]) (pc' := 4) rfl dX6_endOfRun_1 rfl (q_X6_f19 P), w_istore_n (cut := ct [5]) (pc' := 5) (i := 3) rfl dX6_endOfRun_4 rfl rfl, w_cut (cut := ct [5]) (pc := 5) rfl, w_aload_n (cut := ct [5]) (pc' := 7) (i := 0) rfl dX6_endOfRun_6 rfl rfl, w_getfield (cut := ct [5]) (pc' := 10) rfl dX6_endOfRun_7 rfl (q_X6_f15 P), w_icmp_ge (cut := ct [5]) (pc' := 13) (t := 37) rfl dX6_endOfRun_10 rfl (by decide) rfl, w_aload_n (cut := ct [5]) (pc' := 14) (i := 0) rfl dX6_endOfRun_13 rfl rfl, w_iload_n (cut := ct [5]) (pc' := 15) (i := 3) rfl dX6_endOfRun_14 rfl rfl, w_invoke (inv := iv_X6_endOfRun cy P) (kd := 0) (f := 26) (g := sp_X6_byteAt cy P) (cut := ct [5]) rfl dX6_endOfRun_15 rfl (by decide) rfl, w_iload_n (cut := ct [5]) (pc' := 19) (i := 1) rfl dX6_endOfRun_18 rfl rfl, w_icmp_lt (cut := ct [5]) (pc' := 22) (t := 37) rfl dX6_endOfRun_19 rfl (by decide) rfl, w_aload_n (cut := ct [5]) (pc' := 23) (i := 0) rfl dX6_endOfRun_22 rfl rfl, w_iload_n (cut := ct [5]) (pc' := 24) (i := 3) rfl dX6_endOfRun_23 rfl rfl, w_invoke (inv := iv_X6_endOfRun cy P) (kd := 0) (f := 26) (g := sp_X6_byteAt cy P) (cut := ct [5]) rfl dX6_endOfRun_24 rfl (by decide) rfl, w_iload_n (cut := ct [5]) (pc' := 28) (i := 2) rfl dX6_endOfRun_27 rfl rfl, w_icmp_gt (cut := ct [5]) (pc' := 31) (t := 37) rfl dX6_endOfRun_28 rfl (by decide) rfl, w_iinc (cut := ct [5]) (pc' := 34) (d := 1) rfl dX6_endOfRun_31 rfl rfl, w_goto (cut := ct [5]) (t := 5) rfl dX6_endOfRun_34 (by decide) rfl, w_iload_n (cut := ct [5]) (pc' := 38) (i := 3) rfl dX6_endOfRun_37 rfl rfl, w_ireturnI (cut := ct [5]) rfl dX6_endOfRun_38 rfl, rsum, cg_int, cg_ref, cg_null, nby0, strd, mStr, onAL, true_imp_iff, false_imp_iff, not_true_eq_false, not_false_eq_true, Classical.not_not, eq_self, e10, e01, em1, Int32.reduceLT, Int32.reduceLE, onBoat, onGale, onOut, onPort, onRep, onWarn, yn, mI, mS, b0, okA, rcvd, nb0, nb1, ini, List.map_cons, List.map_nil, List.replicate_zero, List.replicate_succ, List.append_nil, ldI, ldA, incK, getK, putK, oldK, castK, inv1, nwO, nwA, nwR, alen, ald, bald, ast, lald, last, rald, rast, goTo, nth, sto, setN, popN, okv, cat1_int, cat1_ref, cat1_null, cat1_rf, va_rf, hup_same, hup_hup, List.length_cons, List.length_nil, List.nil_append, List.cons_append, Option.toList, true_and, and_true, Nat.reduceAdd, Nat.reduceSub, Nat.reduceLT, Nat.reduceLeDiff, Nat.zero_le, Nat.sub_zero, Nat.zero_lt_succ, Nat.lt_add_left_iff_pos, Nat.succ_lt_succ_iff, h1, ht]
        exact hK
      | succ m ih =>
        intro q hq hqL hK
        have h1 : (nI L ≤ nI q) = False := eq_false (nI_ge (by omega) (by omega))
        have hbt : bt f L q = f q := if_pos (by omega)
        refine hJ (ct [5]) 400 _ _ _ _ _ _ ((s_iload_n (pc' := 6) (i := 3) dX6_endOfRun_5 rfl rfl).mpr ?_)
        simp only [w_aload_n (cut := ct [5]) (pc' := 1) (i := 0) rfl dX6_endOfRun_0 rfl rfl, w_getfield (cut := ct [5]) (pc' := 4) rfl dX6_endOfRun_1 rfl (q_X6_f19 P), w_istore_n (cut := ct [5]) (pc' := 5) (i := 3) rfl dX6_endOfRun_4 rfl rfl, w_cut (cut := ct [5]) (pc := 5) rfl, w_aload_n (cut := ct [5]) (pc' := 7) (i := 0) rfl dX6_endOfRun_6 rfl rfl, w_getfield (cut := ct [5]) (pc' := 10) rfl dX6_endOfRun_7 rfl (q_X6_f15 P), w_icmp_ge (cut := ct [5]) (pc' := 13) (t := 37) rfl dX6_endOfRun_10 rfl (by decide) rfl, w_aload_n (cut := ct [5]) (pc' := 14) (i := 0) rfl dX6_endOfRun_13 rfl rfl, w_iload_n (cut := ct [5]) (pc' := 15) (i := 3) rfl dX6_endOfRun_14 rfl rfl, w_invoke (inv := iv_X6_endOfRun cy P) (kd := 0) (f := 26) (g := sp_X6_byteAt cy P) (cut := ct [5]) rfl dX6_endOfRun_15 rfl (by decide) rfl, w_iload_n (cut := ct [5]) (pc' := 19) (i := 1) rfl dX6_endOfRun_18 rfl rfl, w_icmp_lt (cut := ct [5]) (pc' := 22) (t := 37) rfl dX6_endOfRun_19 rfl (by decide) rfl, w_aload_n (cut := ct [5]) (pc' := 23) (i := 0) rfl dX6_endOfRun_22 rfl rfl, w_iload_n (cut := ct [5]) (pc' := 24) (i := 3) rfl dX6_endOfRun_23 rfl rfl, w_invoke (inv := iv_X6_endOfRun cy P) (kd := 0) (f := 26) (g := sp_X6_byteAt cy P) (cut := ct [5]) rfl dX6_endOfRun_24 rfl (by decide) rfl, w_iload_n (cut := ct [5]) (pc' := 28) (i := 2) rfl dX6_endOfRun_27 rfl rfl, w_icmp_gt (cut := ct [5]) (pc' := 31) (t := 37) rfl dX6_endOfRun_28 rfl (by decide) rfl, w_iinc (cut := ct [5]) (pc' := 34) (d := 1) rfl dX6_endOfRun_31 rfl rfl, w_goto (cut := ct [5]) (t := 5) rfl dX6_endOfRun_34 (by decide) rfl, w_iload_n (cut := ct [5]) (pc' := 38) (i := 3) rfl dX6_endOfRun_37 rfl rfl, w_ireturnI (cut := ct [5]) rfl dX6_endOfRun_38 rfl, rsum, cg_int, cg_ref, cg_null, nby0, strd, mStr, onAL, true_imp_iff, false_imp_iff, not_true_eq_false, not_false_eq_true, Classical.not_not, eq_self, e10, e01, em1, Int32.reduceLT, Int32.reduceLE, onBoat, onGale, onOut, onPort, onRep, onWarn, yn, mI, mS, b0, okA, rcvd, nb0, nb1, ini, List.map_cons, List.map_nil, List.replicate_zero, List.replicate_succ, List.append_nil, ldI, ldA, incK, getK, putK, oldK, castK, inv1, nwO, nwA, nwR, alen, ald, bald, ast, lald, last, rald, rast, goTo, nth, sto, setN, popN, okv, cat1_int, cat1_ref, cat1_null, cat1_rf, va_rf, hup_same, hup_hup, List.length_cons, List.length_nil, List.nil_append, List.cons_append, Option.toList, true_and, and_true, Nat.reduceAdd, Nat.reduceSub, Nat.reduceLT, Nat.reduceLeDiff, Nat.zero_le, Nat.sub_zero, Nat.zero_lt_succ, Nat.lt_add_left_iff_pos, Nat.succ_lt_succ_iff, h1, ht, sp_X6_byteAt]
        refine ⟨b, L, p, f, q, hTP, rfl, by omega, fun h => ?_, fun h => ⟨b, L, p, f, q, hTP, rfl, by omega, fun h2 => ?_, fun h2 => ?_⟩⟩
        · rw [hbt] at h
          rw [adw_no (fun z => by have := z.2; simp [isIn] at this; exact absurd this.1 (Int32.not_le.mpr h))] at hK
          exact hK
        · rw [hbt] at h2
          rw [adw_no (fun z => by have := z.2; simp [isIn] at this; exact absurd this.2 (Int32.not_le.mpr h2))] at hK
          exact hK
        · rw [hbt] at h h2
          rw [adw_go (by omega) (by simp [isIn]; exact ⟨Int32.not_lt.mp h, Int32.not_lt.mp h2⟩)] at hK
          have := ih (q + 1) (by omega) (by omega) hK
          rw [← nI_1] at this
          exact this
    have hk2 := key (L - p) p rfl hp hT
    refine wp_of_S hJ (ct [5]) 400 _ _ _ _ _ _ ?_
    simp only [w_aload_n (cut := ct [5]) (pc' := 1) (i := 0) rfl dX6_endOfRun_0 rfl rfl, w_getfield (cut := ct [5]) (pc' := 4) rfl dX6_endOfRun_1 rfl (q_X6_f19 P), w_istore_n (cut := ct [5]) (pc' := 5) (i := 3) rfl dX6_endOfRun_4 rfl rfl, w_cut (cut := ct [5]) (pc := 5) rfl, w_aload_n (cut := ct [5]) (pc' := 7) (i := 0) rfl dX6_endOfRun_6 rfl rfl, w_getfield (cut := ct [5]) (pc' := 10) rfl dX6_endOfRun_7 rfl (q_X6_f15 P), w_icmp_ge (cut := ct [5]) (pc' := 13) (t := 37) rfl dX6_endOfRun_10 rfl (by decide) rfl, w_aload_n (cut := ct [5]) (pc' := 14) (i := 0) rfl dX6_endOfRun_13 rfl rfl, w_iload_n (cut := ct [5]) (pc' := 15) (i := 3) rfl dX6_endOfRun_14 rfl rfl, w_invoke (inv := iv_X6_endOfRun cy P) (kd := 0) (f := 26) (g := sp_X6_byteAt cy P) (cut := ct [5]) rfl dX6_endOfRun_15 rfl (by decide) rfl, w_iload_n (cut := ct [5]) (pc' := 19) (i := 1) rfl dX6_endOfRun_18 rfl rfl, w_icmp_lt (cut := ct [5]) (pc' := 22) (t := 37) rfl dX6_endOfRun_19 rfl (by decide) rfl, w_aload_n (cut := ct [5]) (pc' := 23) (i := 0) rfl dX6_endOfRun_22 rfl rfl, w_iload_n (cut := ct [5]) (pc' := 24) (i := 3) rfl dX6_endOfRun_23 rfl rfl, w_invoke (inv := iv_X6_endOfRun cy P) (kd := 0) (f := 26) (g := sp_X6_byteAt cy P) (cut := ct [5]) rfl dX6_endOfRun_24 rfl (by decide) rfl, w_iload_n (cut := ct [5]) (pc' := 28) (i := 2) rfl dX6_endOfRun_27 rfl rfl, w_icmp_gt (cut := ct [5]) (pc' := 31) (t := 37) rfl dX6_endOfRun_28 rfl (by decide) rfl, w_iinc (cut := ct [5]) (pc' := 34) (d := 1) rfl dX6_endOfRun_31 rfl rfl, w_goto (cut := ct [5]) (t := 5) rfl dX6_endOfRun_34 (by decide) rfl, w_iload_n (cut := ct [5]) (pc' := 38) (i := 3) rfl dX6_endOfRun_37 rfl rfl, w_ireturnI (cut := ct [5]) rfl dX6_endOfRun_38 rfl, rsum, cg_int, cg_ref, cg_null, nby0, strd, mStr, onAL, true_imp_iff, false_imp_iff, not_true_eq_false, not_false_eq_true, Classical.not_not, eq_self, e10, e01, em1, Int32.reduceLT, Int32.reduceLE, onBoat, onGale, onOut, onPort, onRep, onWarn, yn, mI, mS, b0, okA, rcvd, nb0, nb1, ini, List.map_cons, List.map_nil, List.replicate_zero, List.replicate_succ, List.append_nil, ldI, ldA, incK, getK, putK, oldK, castK, inv1, nwO, nwA, nwR, alen, ald, bald, ast, lald, last, rald, rast, goTo, nth, sto, setN, popN, okv, cat1_int, cat1_ref, cat1_null, cat1_rf, va_rf, hup_same, hup_hup, List.length_cons, List.length_nil, List.nil_append, List.cons_append, Option.toList, true_and, and_true, Nat.reduceAdd, Nat.reduceSub, Nat.reduceLT, Nat.reduceLeDiff, Nat.zero_le, Nat.sub_zero, Nat.zero_lt_succ, Nat.lt_add_left_iff_pos, Nat.succ_lt_succ_iff, sp_X6_endOfRun, ht]
    exact hk2
  · exact hT.elim
set_option maxRecDepth 100000 in
theorem con_X6_endOfRun {l : Launch} {s0 : State} {D : va_G} {cy : Nat → ClassId} {P : Pm} {a0 : Array Value} (hE : E0 l s0 D cy P a0) : Con l s0 D yX6_endOfRun (Cond.code yX6_endOfRun cX6_endOfRun 4 (some .int)) 1 21 (sp_X6_endOfRun cy P) := by
  refine con_of (clok_X6 hE _) (by decide) (fun as σ K KX h => okA_cat h.1) (Nat.le_of_ble_eq_true rfl) ?_ ?_ (m_X6_endOfRun cy P hE.2.2.2.1)
  · intro p e R s m args below meth c A Q hfr hlo hW B kd j g hg
    unfold iv_X6_endOfRun at hg
    split at hg
    · cases hg; exact inv_V (ci := 7) B (con_X6_byteAt hE) rfl (fun as σ K KX h => rcvd_spec h.2.1) (cw_mk hE hW tw_533 rfl tw_2 ⟨by decide, by decide⟩ rfl) rfl (wd hE hW tw_530 rfl) (wd hE hW tw_532 rfl) (wd hE hW (List.mem_of_getElem? (i := 9) (by decide +kernel)) rfl) (by rw [hfr]; decide) (by rw [hlo]; decide)
    · cases hg
  · intro p e R s m args below meth c A K KX hfr hlo hW B htab
    exact xok_none htab
def iv_X6_takeSign (cy : Nat → ClassId) (P : Pm) : Nat → Nat → Option Sg
  | 0, 26 => some (sp_X6_byteAt cy P)
  | 0, 22 => some (sp_X6_moveTo cy P)
  | _, _ => none
def sp_X6_takeSign (cy : Nat → ClassId) (P : Pm) : Sg := mI 7 [0] b0 (fun as σ K _ => match as with
  | [.ref t, .int c] => ∃ b L p f, TP cy σ t b L p f ∧ ¬ c = -1 ∧ (bt f L p = c → K (some (.int 1)) (hup σ t (oTape b (nI L) (nI (adw isB f L (p + 1)))))) ∧ (¬ bt f L p = c → K (some (.int 0)) σ)
  | _ => False)
set_option maxHeartbeats 2000000 in
theorem m_X6_takeSign (cy : Nat → ClassId) (P : Pm) (hP : PmOK P) : MOK (cl_X6 P) cy P.2.1 obj cX6_takeSign (iv_X6_takeSign cy P) (fun _ => none) (fun _ => some none) (some .boolean) 2 (sp_X6_takeSign cy P) := by
  intro as σ K KX J hlen hT hJ hOld
  obtain ⟨-, -, hT⟩ := hT
  split at hT
  · rename_i t c
    obtain ⟨b, L, p, f, hTP, hc, hT1, hT2⟩ := hT
    refine wp_of_S hJ (ct []) 400 _ _ _ _ _ _ ?_
    simp only [w_aload_n (cut := ct []) (pc' := 1) (i := 0) rfl dX6_takeSign_0 rfl rfl, w_aload_n (cut := ct []) (pc' := 2) (i := 0) rfl dX6_takeSign_1 rfl rfl, w_getfield (cut := ct []) (pc' := 5) rfl dX6_takeSign_2 rfl (q_X6_f19 P), w_invoke (inv := iv_X6_takeSign cy P) (kd := 0) (f := 26) (g := sp_X6_byteAt cy P) (cut := ct []) rfl dX6_takeSign_5 rfl (by decide) rfl, w_iload_n (cut := ct []) (pc' := 9) (i := 1) rfl dX6_takeSign_8 rfl rfl, w_icmp_eq (cut := ct []) (pc' := 12) (t := 14) rfl dX6_takeSign_9 rfl (by decide) rfl, w_iconst (cut := ct []) (pc' := 13) (v := 0) rfl dX6_takeSign_12 rfl rfl, w_ireturn (ty := .boolean) (cut := ct []) rfl dX6_takeSign_13 rfl, w_aload_n (cut := ct []) (pc' := 15) (i := 0) rfl dX6_takeSign_14 rfl rfl, w_aload_n (cut := ct []) (pc' := 16) (i := 0) rfl dX6_takeSign_15 rfl rfl, w_getfield (cut := ct []) (pc' := 19) rfl dX6_takeSign_16 rfl (q_X6_f19 P), w_iconst (cut := ct []) (pc' := 20) (v := 1) rfl dX6_takeSign_19 rfl rfl, w_iadd (cut := ct []) (pc' := 21) rfl dX6_takeSign_20 rfl, w_invoke (inv := iv_X6_takeSign cy P) (kd := 0) (f := 22) (g := sp_X6_moveTo cy P) (cut := ct []) rfl dX6_takeSign_21 rfl (by decide) rfl, w_iconst (cut := ct []) (pc' := 25) (v := 1) rfl dX6_takeSign_24 rfl rfl, w_ireturn (ty := .boolean) (cut := ct []) rfl dX6_takeSign_25 rfl, rsum, cg_int, cg_ref, cg_null, nby0, strd, mStr, onAL, true_imp_iff, false_imp_iff, not_true_eq_false, not_false_eq_true, Classical.not_not, eq_self, e10, e01, em1, Int32.reduceLT, Int32.reduceLE, onBoat, onGale, onOut, onPort, onRep, onWarn, yn, mI, mS, b0, okA, rcvd, nb0, nb1, ini, List.map_cons, List.map_nil, List.replicate_zero, List.replicate_succ, List.append_nil, ldI, ldA, incK, getK, putK, oldK, castK, inv1, nwO, nwA, nwR, alen, ald, bald, ast, lald, last, rald, rast, goTo, nth, sto, setN, popN, okv, cat1_int, cat1_ref, cat1_null, cat1_rf, va_rf, hup_same, hup_hup, List.length_cons, List.length_nil, List.nil_append, List.cons_append, Option.toList, true_and, and_true, Nat.reduceAdd, Nat.reduceSub, Nat.reduceLT, Nat.reduceLeDiff, Nat.zero_le, Nat.sub_zero, Nat.zero_lt_succ, Nat.lt_add_left_iff_pos, Nat.succ_lt_succ_iff, sp_X6_takeSign, sp_X6_byteAt, sp_X6_moveTo, hTP.1]
    refine ⟨b, L, p, f, p, hTP, rfl, by have := hTP.2.2; omega, fun h => ⟨b, L, nI p, f, p + 1, TP_Q hTP, nI_1 p, ?_, hT1 h⟩, fun h => hT2 h⟩
    have : p < L := by
      by_cases q : p < L
      · exact q
      · unfold bt at h; rw [if_neg q] at h; exact absurd h.symm hc
    omega
  · exact hT.elim
set_option maxRecDepth 100000 in
theorem con_X6_takeSign {l : Launch} {s0 : State} {D : va_G} {cy : Nat → ClassId} {P : Pm} {a0 : Array Value} (hE : E0 l s0 D cy P a0) : Con l s0 D yX6_takeSign (Cond.code yX6_takeSign cX6_takeSign 2 (some .boolean)) 2 42 (sp_X6_takeSign cy P) := by
  refine con_of (clok_X6 hE _) (by decide) (fun as σ K KX h => okA_cat h.1) (Nat.le_of_ble_eq_true rfl) ?_ ?_ (m_X6_takeSign cy P hE.2.2.2.1)
  · intro p e R s m args below meth c A Q hfr hlo hW B kd j g hg
    unfold iv_X6_takeSign at hg
    split at hg
    · cases hg; exact inv_V (ci := 7) B (con_X6_byteAt hE) rfl (fun as σ K KX h => rcvd_spec h.2.1) (cw_mk hE hW tw_533 rfl tw_2 ⟨by decide, by decide⟩ rfl) rfl (wd hE hW tw_530 rfl) (wd hE hW tw_532 rfl) (wd hE hW (List.mem_of_getElem? (i := 9) (by decide +kernel)) rfl) (by rw [hfr]; decide) (by rw [hlo]; decide)
    · cases hg; exact inv_V (ci := 7) B (con_X6_moveTo hE) rfl (fun as σ K KX h => rcvd_spec h.2.1) (cw_mk hE hW tw_529 rfl tw_2 ⟨by decide, by decide⟩ rfl) rfl (wd hE hW tw_526 rfl) (wd hE hW tw_528 rfl) (wd hE hW (List.mem_of_getElem? (i := 8) (by decide +kernel)) rfl) (by rw [hfr]; decide) (by rw [hlo]; decide)
    · cases hg
  · intro p e R s m args below meth c A K KX hfr hlo hW B htab
    exact xok_none htab
