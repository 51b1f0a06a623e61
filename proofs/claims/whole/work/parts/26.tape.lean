/-! ===== Tape ===== -/
abbrev oTape (b : Nat) (ln pl : Int32) : va_E := .inr (7, [.ref b, .int ln, .int pl])
/-- the tape at t: its row b, how many bytes, the place, what the row holds -/
def TP (cy : Nat → ClassId) (σ : Hp) (t b L p : Nat) (f : Nat → Int32) : Prop := σ t = some (oTape b (nI L) (nI p)) ∧ σ b = some (oInts cy 400 f) ∧ L ≤ 400 ∧ p ≤ L
/-- on from p as long as c holds -/
def adv (c : Int32 → Bool) (f : Nat → Int32) (L : Nat) : Nat → Nat → Nat
  | 0, p => p
  | k + 1, p => if p < L ∧ c (f p) = true then adv c f L k (p + 1) else p
def adw (c : Int32 → Bool) (f : Nat → Int32) (L p : Nat) : Nat := adv c f L (L - p) p
theorem adw_go {c : Int32 → Bool} {f : Nat → Int32} {L p : Nat} (h : p < L) (hc : c (f p) = true) : adw c f L p = adw c f L (p + 1) := by
  unfold adw
  obtain ⟨k, hk⟩ : ∃ k, L - p = k + 1 := ⟨L - p - 1, by omega⟩
  rw [hk, show L - (p + 1) = k by omega, adv, if_pos ⟨h, hc⟩]
theorem adw_no {c : Int32 → Bool} {f : Nat → Int32} {L p : Nat} (h : ¬ (p < L ∧ c (f p) = true)) : adw c f L p = p := by
  unfold adw
  cases L - p with
  | zero => rfl
  | succ k => rw [adv, if_neg h]
theorem adw_le {c : Int32 → Bool} {f : Nat → Int32} {L : Nat} : ∀ (k p : Nat), L - p = k → p ≤ L → p ≤ adw c f L p ∧ adw c f L p ≤ L
  | 0, p, hk, hp => by rw [adw_no (by omega)]; omega
  | k + 1, p, hk, hp => by
    by_cases h : p < L ∧ c (f p) = true
    · rw [adw_go h.1 h.2]
      have := adw_le (c := c) (f := f) k (p + 1) (by omega) (by omega)
      omega
    · rw [adw_no h]; omega
def isB (b : Int32) : Bool := decide (b = 32)
def isIn (lo hi b : Int32) : Bool := decide (lo ≤ b) && decide (b ≤ hi)
def iv_X6_init (cy : Nat → ClassId) (P : Pm) : Nat → Nat → Option Sg
  | 2, 3 => some (sp_OBJINIT cy P)
  | _, _ => none
def sp_X6_init (cy : Nat → ClassId) (P : Pm) : Sg := mI 7 [] (fun _ _ => (1, 400)) (fun as σ K _ => match as with
  | [.ref t] => σ t = some (.inr (7, [.null, .int 0, .int 0])) ∧ ∀ q, σ q = none → q ≠ P.2.1.1 → K none (hup (hup σ q (oInts cy 400 (fun _ => 0))) t (oTape q 0 0))
  | _ => False)
set_option maxHeartbeats 2000000 in
theorem m_X6_init (cy : Nat → ClassId) (P : Pm) (hP : PmOK P) : MOK (cl_X6i P) cy P.2.1 obj cX6_init (iv_X6_init cy P) (fun _ => none) (fun _ => some none) (none) 1 (sp_X6_init cy P) := by
  intro as σ K KX J hlen hT hJ hOld
  obtain ⟨-, -, hT⟩ := hT
  split at hT
  · rename_i t
    obtain ⟨ht, hT⟩ := hT
    have c400 : (400 : Int32).toNatClampNeg = 400 := by decide
    refine wp_of_S hJ (ct []) 400 _ _ _ _ _ _ ?_
    simp only [w_aload_n (cut := ct []) (pc' := 1) (i := 0) rfl dX6_init_0 rfl rfl, w_invoke (inv := iv_X6_init cy P) (kd := 2) (f := 3) (g := sp_OBJINIT cy P) (cut := ct []) rfl dX6_init_1 rfl (by decide) rfl, w_aload_n (cut := ct []) (pc' := 5) (i := 0) rfl dX6_init_4 rfl rfl, w_sipush (cut := ct []) (pc' := 8) (v := 400) rfl dX6_init_5 rfl rfl, w_newarray_int (cut := ct []) rfl dX6_init_8, w_putfield (cut := ct []) (pc' := 13) rfl dX6_init_10 rfl (q_X6i_f9 P), w_aload_n (cut := ct []) (pc' := 14) (i := 0) rfl dX6_init_13 rfl rfl, w_iconst (cut := ct []) (pc' := 15) (v := 0) rfl dX6_init_14 rfl rfl, w_putfield (cut := ct []) (pc' := 18) rfl dX6_init_15 rfl (q_X6i_f15 P), w_aload_n (cut := ct []) (pc' := 19) (i := 0) rfl dX6_init_18 rfl rfl, w_iconst (cut := ct []) (pc' := 20) (v := 0) rfl dX6_init_19 rfl rfl, w_putfield (cut := ct []) (pc' := 23) rfl dX6_init_20 rfl (q_X6i_f19 P), w_return (cut := ct []) rfl dX6_init_23 rfl, nby0, strd, mStr, onAL, true_imp_iff, false_imp_iff, not_true_eq_false, not_false_eq_true, Classical.not_not, eq_self, e10, e01, em1, Int32.reduceLT, Int32.reduceLE, onBoat, onGale, onOut, onPort, onRep, onWarn, yn, mI, mS, b0, okA, rcvd, nb0, nb1, ini, List.map_cons, List.map_nil, List.replicate_zero, List.replicate_succ, List.append_nil, ldI, ldA, incK, getK, putK, oldK, castK, inv1, nwO, nwA, nwR, alen, ald, bald, ast, lald, last, rald, rast, goTo, nth, sto, setN, popN, okv, cat1_int, cat1_ref, cat1_null, cat1_rf, va_rf, hup_same, hup_hup, List.length_cons, List.length_nil, List.nil_append, List.cons_append, Option.toList, true_and, and_true, Nat.reduceAdd, Nat.reduceSub, Nat.reduceLT, Nat.reduceLeDiff, Nat.zero_le, Nat.sub_zero, Nat.zero_lt_succ, Nat.lt_add_left_iff_pos, Nat.succ_lt_succ_iff, sp_X6_init, ht, c400, sp_OBJINIT, Nat.le_refl, Nat.sub_self]
    refine ⟨by decide, fun q h1 h2 => ?_⟩
    have hne : t ≠ q := fr_ne ht h1
    simp only [hup_ne _ _ hne, ht, setN, true_and, List.length_cons, List.length_nil, hup_same, hup_hup]
    exact ⟨by decide, rfl, hT q h1 h2⟩
  · exact hT.elim
def iv_X6_length (cy : Nat → ClassId) (P : Pm) : Nat → Nat → Option Sg
  | _, _ => none
def sp_X6_length (cy : Nat → ClassId) (P : Pm) : Sg := mI 7 [] b0 (fun as σ K _ => match as with
  | [.ref t] => ∃ b L p f, TP cy σ t b L p f ∧ K (some (.int (nI L))) σ
  | _ => False)
set_option maxHeartbeats 2000000 in
theorem m_X6_length (cy : Nat → ClassId) (P : Pm) (hP : PmOK P) : MOK (cl_X6 P) cy P.2.1 obj cX6_length (iv_X6_length cy P) (fun _ => none) (fun _ => some none) (some .int) 1 (sp_X6_length cy P) := by
  intro as σ K KX J hlen hT hJ hOld
  obtain ⟨-, -, hT⟩ := hT
  split at hT
  · rename_i t
    obtain ⟨b, L, p, f, ⟨ht, hb, hL, hp⟩, hT⟩ := hT
    refine wp_of_S hJ (ct []) 400 _ _ _ _ _ _ ?_
    simp only [w_aload_n (cut := ct []) (pc' := 1) (i := 0) rfl dX6_length_0 rfl rfl, w_getfield (cut := ct []) (pc' := 4) rfl dX6_length_1 rfl (q_X6_f15 P), w_ireturnI (cut := ct []) rfl dX6_length_4 rfl, nby0, strd, mStr, onAL, true_imp_iff, false_imp_iff, not_true_eq_false, not_false_eq_true, Classical.not_not, eq_self, e10, e01, em1, Int32.reduceLT, Int32.reduceLE, onBoat, onGale, onOut, onPort, onRep, onWarn, yn, mI, mS, b0, okA, rcvd, nb0, nb1, ini, List.map_cons, List.map_nil, List.replicate_zero, List.replicate_succ, List.append_nil, ldI, ldA, incK, getK, putK, oldK, castK, inv1, nwO, nwA, nwR, alen, ald, bald, ast, lald, last, rald, rast, goTo, nth, sto, setN, popN, okv, cat1_int, cat1_ref, cat1_null, cat1_rf, va_rf, hup_same, hup_hup, List.length_cons, List.length_nil, List.nil_append, List.cons_append, Option.toList, true_and, and_true, Nat.reduceAdd, Nat.reduceSub, Nat.reduceLT, Nat.reduceLeDiff, Nat.zero_le, Nat.sub_zero, Nat.zero_lt_succ, Nat.lt_add_left_iff_pos, Nat.succ_lt_succ_iff, sp_X6_length, ht]
    exact hT
  · exact hT.elim
set_option maxRecDepth 100000 in
theorem con_X6_length {l : Launch} {s0 : State} {D : va_G} {cy : Nat → ClassId} {P : Pm} {a0 : Array Value} (hE : E0 l s0 D cy P a0) : Con l s0 D yX6_length (Cond.code yX6_length cX6_length 1 (some .int)) 0 0 (sp_X6_length cy P) := by
  refine con_of (clok_X6 hE _) (by decide) (fun as σ K KX h => okA_cat h.1) (Nat.le_of_ble_eq_true rfl) ?_ ?_ (m_X6_length cy P hE.2.2.2.1)
  · intro p e R s m args below meth c A Q hfr hlo hW B kd j g hg
    cases hg
  · intro p e R s m args below meth c A K KX hfr hlo hW B htab
    exact xok_none htab
def iv_X6_place (cy : Nat → ClassId) (P : Pm) : Nat → Nat → Option Sg
  | _, _ => none
def sp_X6_place (cy : Nat → ClassId) (P : Pm) : Sg := mI 7 [] b0 (fun as σ K _ => match as with
  | [.ref t] => ∃ b L p f, TP cy σ t b L p f ∧ K (some (.int (nI p))) σ
  | _ => False)
set_option maxHeartbeats 2000000 in
theorem m_X6_place (cy : Nat → ClassId) (P : Pm) (hP : PmOK P) : MOK (cl_X6 P) cy P.2.1 obj cX6_place (iv_X6_place cy P) (fun _ => none) (fun _ => some none) (some .int) 1 (sp_X6_place cy P) := by
  intro as σ K KX J hlen hT hJ hOld
  obtain ⟨-, -, hT⟩ := hT
  split at hT
  · rename_i t
    obtain ⟨b, L, p, f, ⟨ht, hb, hL, hp⟩, hT⟩ := hT
    refine wp_of_S hJ (ct []) 400 _ _ _ _ _ _ ?_
    simp only [w_aload_n (cut := ct []) (pc' := 1) (i := 0) rfl dX6_place_0 rfl rfl, w_getfield (cut := ct []) (pc' := 4) rfl dX6_place_1 rfl (q_X6_f19 P), w_ireturnI (cut := ct []) rfl dX6_place_4 rfl, nby0, strd, mStr, onAL, true_imp_iff, false_imp_iff, not_true_eq_false, not_false_eq_true, Classical.not_not, eq_self, e10, e01, em1, Int32.reduceLT, Int32.reduceLE, onBoat, onGale, onOut, onPort, onRep, onWarn, yn, mI, mS, b0, okA, rcvd, nb0, nb1, ini, List.map_cons, List.map_nil, List.replicate_zero, List.replicate_succ, List.append_nil, ldI, ldA, incK, getK, putK, oldK, castK, inv1, nwO, nwA, nwR, alen, ald, bald, ast, lald, last, rald, rast, goTo, nth, sto, setN, popN, okv, cat1_int, cat1_ref, cat1_null, cat1_rf, va_rf, hup_same, hup_hup, List.length_cons, List.length_nil, List.nil_append, List.cons_append, Option.toList, true_and, and_true, Nat.reduceAdd, Nat.reduceSub, Nat.reduceLT, Nat.reduceLeDiff, Nat.zero_le, Nat.sub_zero, Nat.zero_lt_succ, Nat.lt_add_left_iff_pos, Nat.succ_lt_succ_iff, sp_X6_place, ht]
    exact hT
  · exact hT.elim
set_option maxRecDepth 100000 in
theorem con_X6_place {l : Launch} {s0 : State} {D : va_G} {cy : Nat → ClassId} {P : Pm} {a0 : Array Value} (hE : E0 l s0 D cy P a0) : Con l s0 D yX6_place (Cond.code yX6_place cX6_place 1 (some .int)) 0 0 (sp_X6_place cy P) := by
  refine con_of (clok_X6 hE _) (by decide) (fun as σ K KX h => okA_cat h.1) (Nat.le_of_ble_eq_true rfl) ?_ ?_ (m_X6_place cy P hE.2.2.2.1)
  · intro p e R s m args below meth c A Q hfr hlo hW B kd j g hg
    cases hg
  · intro p e R s m args below meth c A K KX hfr hlo hW B htab
    exact xok_none htab
def iv_X6_hasRoomFor (cy : Nat → ClassId) (P : Pm) : Nat → Nat → Option Sg
  | _, _ => none
def sp_X6_hasRoomFor (cy : Nat → ClassId) (P : Pm) : Sg := mI 7 [0] b0 (fun as σ K _ => match as with
  | [.ref t, .int m] => ∃ b L p f, TP cy σ t b L p f ∧ m = 20 ∧ yn (L + 20 ≤ 400) K σ
  | _ => False)
set_option maxHeartbeats 2000000 in
theorem m_X6_hasRoomFor (cy : Nat → ClassId) (P : Pm) (hP : PmOK P) : MOK (cl_X6 P) cy P.2.1 obj cX6_hasRoomFor (iv_X6_hasRoomFor cy P) (fun _ => none) (fun _ => some none) (some .boolean) 2 (sp_X6_hasRoomFor cy P) := by
  intro as σ K KX J hlen hT hJ hOld
  obtain ⟨-, -, hT⟩ := hT
  split at hT
  · rename_i t m
    obtain ⟨b, L, p, f, ⟨ht, hb, hL, hp⟩, rfl, hT1, hT2⟩ := hT
    have e1 : (400 < nI L + 20) = ¬ (L + 20 ≤ 400) := propext (by rw [show (20 : Int32) = nI 20 from rfl, nI_add, show (400 : Int32) = nI 400 from rfl, nI_ltI (by decide) (by omega)]; omega)
    all_goals
      refine wp_of_S hJ (ct []) 400 _ _ _ _ _ _ ?_
      simp only [w_aload_n (cut := ct []) (pc' := 1) (i := 0) rfl dX6_hasRoomFor_0 rfl rfl, w_getfield (cut := ct []) (pc' := 4) rfl dX6_hasRoomFor_1 rfl (q_X6_f15 P), w_iload_n (cut := ct []) (pc' := 5) (i := 1) rfl dX6_hasRoomFor_4 rfl rfl, w_iadd (cut := ct []) (pc' := 6) rfl dX6_hasRoomFor_5 rfl, w_sipush (cut := ct []) (pc' := 9) (v := 400) rfl dX6_hasRoomFor_6 rfl rfl, w_icmp_gt (cut := ct []) (pc' := 12) (t := 16) rfl dX6_hasRoomFor_9 rfl (by decide) rfl, w_iconst (cut := ct []) (pc' := 13) (v := 1) rfl dX6_hasRoomFor_12 rfl rfl, w_goto (cut := ct []) (t := 17) rfl dX6_hasRoomFor_13 (by decide) rfl, w_iconst (cut := ct []) (pc' := 17) (v := 0) rfl dX6_hasRoomFor_16 rfl rfl, w_ireturn (ty := .boolean) (cut := ct []) rfl dX6_hasRoomFor_17 rfl, nby0, strd, mStr, onAL, true_imp_iff, false_imp_iff, not_true_eq_false, not_false_eq_true, Classical.not_not, eq_self, e10, e01, em1, Int32.reduceLT, Int32.reduceLE, onBoat, onGale, onOut, onPort, onRep, onWarn, yn, mI, mS, b0, okA, rcvd, nb0, nb1, ini, List.map_cons, List.map_nil, List.replicate_zero, List.replicate_succ, List.append_nil, ldI, ldA, incK, getK, putK, oldK, castK, inv1, nwO, nwA, nwR, alen, ald, bald, ast, lald, last, rald, rast, goTo, nth, sto, setN, popN, okv, cat1_int, cat1_ref, cat1_null, cat1_rf, va_rf, hup_same, hup_hup, List.length_cons, List.length_nil, List.nil_append, List.cons_append, Option.toList, true_and, and_true, Nat.reduceAdd, Nat.reduceSub, Nat.reduceLT, Nat.reduceLeDiff, Nat.zero_le, Nat.sub_zero, Nat.zero_lt_succ, Nat.lt_add_left_iff_pos, Nat.succ_lt_succ_iff, sp_X6_hasRoomFor, ht, e1]
      exact ⟨fun h => hT2 h, fun h => hT1 h⟩
  · exact hT.elim
set_option maxRecDepth 100000 in
theorem con_X6_hasRoomFor {l : Launch} {s0 : State} {D : va_G} {cy : Nat → ClassId} {P : Pm} {a0 : Array Value} (hE : E0 l s0 D cy P a0) : Con l s0 D yX6_hasRoomFor (Cond.code yX6_hasRoomFor cX6_hasRoomFor 2 (some .boolean)) 0 0 (sp_X6_hasRoomFor cy P) := by
  refine con_of (clok_X6 hE _) (by decide) (fun as σ K KX h => okA_cat h.1) (Nat.le_of_ble_eq_true rfl) ?_ ?_ (m_X6_hasRoomFor cy P hE.2.2.2.1)
  · intro p e R s m args below meth c A Q hfr hlo hW B kd j g hg
    cases hg
  · intro p e R s m args below meth c A K KX hfr hlo hW B htab
    exact xok_none htab
def iv_X6_isReadUp (cy : Nat → ClassId) (P : Pm) : Nat → Nat → Option Sg
  | _, _ => none
def sp_X6_isReadUp (cy : Nat → ClassId) (P : Pm) : Sg := mI 7 [] b0 (fun as σ K _ => match as with
  | [.ref t] => ∃ b L p f, TP cy σ t b L p f ∧ yn (p = L) K σ
  | _ => False)
set_option maxHeartbeats 2000000 in
theorem m_X6_isReadUp (cy : Nat → ClassId) (P : Pm) (hP : PmOK P) : MOK (cl_X6 P) cy P.2.1 obj cX6_isReadUp (iv_X6_isReadUp cy P) (fun _ => none) (fun _ => some none) (some .boolean) 1 (sp_X6_isReadUp cy P) := by
  intro as σ K KX J hlen hT hJ hOld
  obtain ⟨-, -, hT⟩ := hT
  split at hT
  · rename_i t
    obtain ⟨b, L, p, f, ⟨ht, hb, hL, hp⟩, hT1, hT2⟩ := hT
    have e1 : (nI p < nI L) = (p < L) := propext (nI_ltI (by omega) (by omega))
    all_goals
      refine wp_of_S hJ (ct []) 400 _ _ _ _ _ _ ?_
      simp only [w_aload_n (cut := ct []) (pc' := 1) (i := 0) rfl dX6_isReadUp_0 rfl rfl, w_getfield (cut := ct []) (pc' := 4) rfl dX6_isReadUp_1 rfl (q_X6_f19 P), w_aload_n (cut := ct []) (pc' := 5) (i := 0) rfl dX6_isReadUp_4 rfl rfl, w_getfield (cut := ct []) (pc' := 8) rfl dX6_isReadUp_5 rfl (q_X6_f15 P), w_icmp_lt (cut := ct []) (pc' := 11) (t := 15) rfl dX6_isReadUp_8 rfl (by decide) rfl, w_iconst (cut := ct []) (pc' := 12) (v := 1) rfl dX6_isReadUp_11 rfl rfl, w_goto (cut := ct []) (t := 16) rfl dX6_isReadUp_12 (by decide) rfl, w_iconst (cut := ct []) (pc' := 16) (v := 0) rfl dX6_isReadUp_15 rfl rfl, w_ireturn (ty := .boolean) (cut := ct []) rfl dX6_isReadUp_16 rfl, nby0, strd, mStr, onAL, true_imp_iff, false_imp_iff, not_true_eq_false, not_false_eq_true, Classical.not_not, eq_self, e10, e01, em1, Int32.reduceLT, Int32.reduceLE, onBoat, onGale, onOut, onPort, onRep, onWarn, yn, mI, mS, b0, okA, rcvd, nb0, nb1, ini, List.map_cons, List.map_nil, List.replicate_zero, List.replicate_succ, List.append_nil, ldI, ldA, incK, getK, putK, oldK, castK, inv1, nwO, nwA, nwR, alen, ald, bald, ast, lald, last, rald, rast, goTo, nth, sto, setN, popN, okv, cat1_int, cat1_ref, cat1_null, cat1_rf, va_rf, hup_same, hup_hup, List.length_cons, List.length_nil, List.nil_append, List.cons_append, Option.toList, true_and, and_true, Nat.reduceAdd, Nat.reduceSub, Nat.reduceLT, Nat.reduceLeDiff, Nat.zero_le, Nat.sub_zero, Nat.zero_lt_succ, Nat.lt_add_left_iff_pos, Nat.succ_lt_succ_iff, sp_X6_isReadUp, ht, e1]
      exact ⟨fun h => hT2 (by omega), fun h => hT1 (by omega)⟩
  · exact hT.elim
set_option maxRecDepth 100000 in
theorem con_X6_isReadUp {l : Launch} {s0 : State} {D : va_G} {cy : Nat → ClassId} {P : Pm} {a0 : Array Value} (hE : E0 l s0 D cy P a0) : Con l s0 D yX6_isReadUp (Cond.code yX6_isReadUp cX6_isReadUp 1 (some .boolean)) 0 0 (sp_X6_isReadUp cy P) := by
  refine con_of (clok_X6 hE _) (by decide) (fun as σ K KX h => okA_cat h.1) (Nat.le_of_ble_eq_true rfl) ?_ ?_ (m_X6_isReadUp cy P hE.2.2.2.1)
  · intro p e R s m args below meth c A Q hfr hlo hW B kd j g hg
    cases hg
  · intro p e R s m args below meth c A K KX hfr hlo hW B htab
    exact xok_none htab
def iv_X6_cutTo (cy : Nat → ClassId) (P : Pm) : Nat → Nat → Option Sg
  | _, _ => none
def sp_X6_cutTo (cy : Nat → ClassId) (P : Pm) : Sg := mI 7 [0] b0 (fun as σ K _ => match as with
  | [.ref t, .int n] => ∃ b ln pl, σ t = some (oTape b ln pl) ∧ (¬ (n < 0 ∨ ln < n) → K (some (.int 1)) (hup σ t (oTape b n pl))) ∧ ((n < 0 ∨ ln < n) → K (some (.int 0)) σ)
  | _ => False)
set_option maxHeartbeats 2000000 in
theorem m_X6_cutTo (cy : Nat → ClassId) (P : Pm) (hP : PmOK P) : MOK (cl_X6 P) cy P.2.1 obj cX6_cutTo (iv_X6_cutTo cy P) (fun _ => none) (fun _ => some none) (some .boolean) 2 (sp_X6_cutTo cy P) := by
  intro as σ K KX J hlen hT hJ hOld
  obtain ⟨-, -, hT⟩ := hT
  split at hT
  · rename_i t n
    obtain ⟨b, ln, pl, ht, hT1, hT2⟩ := hT
    refine wp_of_S hJ (ct []) 400 _ _ _ _ _ _ ?_
    simp only [w_iload_n (cut := ct []) (pc' := 1) (i := 1) rfl dX6_cutTo_0 rfl rfl, w_if_lt (cut := ct []) (pc' := 4) (t := 12) rfl dX6_cutTo_1 rfl (by decide) rfl, w_iload_n (cut := ct []) (pc' := 5) (i := 1) rfl dX6_cutTo_4 rfl rfl, w_aload_n (cut := ct []) (pc' := 6) (i := 0) rfl dX6_cutTo_5 rfl rfl, w_getfield (cut := ct []) (pc' := 9) rfl dX6_cutTo_6 rfl (q_X6_f15 P), w_icmp_le (cut := ct []) (pc' := 12) (t := 14) rfl dX6_cutTo_9 rfl (by decide) rfl, w_iconst (cut := ct []) (pc' := 13) (v := 0) rfl dX6_cutTo_12 rfl rfl, w_ireturn (ty := .boolean) (cut := ct []) rfl dX6_cutTo_13 rfl, w_aload_n (cut := ct []) (pc' := 15) (i := 0) rfl dX6_cutTo_14 rfl rfl, w_iload_n (cut := ct []) (pc' := 16) (i := 1) rfl dX6_cutTo_15 rfl rfl, w_putfield (cut := ct []) (pc' := 19) rfl dX6_cutTo_16 rfl (q_X6_f15 P), w_iconst (cut := ct []) (pc' := 20) (v := 1) rfl dX6_cutTo_19 rfl rfl, w_ireturn (ty := .boolean) (cut := ct []) rfl dX6_cutTo_20 rfl, nby0, strd, mStr, onAL, true_imp_iff, false_imp_iff, not_true_eq_false, not_false_eq_true, Classical.not_not, eq_self, e10, e01, em1, Int32.reduceLT, Int32.reduceLE, onBoat, onGale, onOut, onPort, onRep, onWarn, yn, mI, mS, b0, okA, rcvd, nb0, nb1, ini, List.map_cons, List.map_nil, List.replicate_zero, List.replicate_succ, List.append_nil, ldI, ldA, incK, getK, putK, oldK, castK, inv1, nwO, nwA, nwR, alen, ald, bald, ast, lald, last, rald, rast, goTo, nth, sto, setN, popN, okv, cat1_int, cat1_ref, cat1_null, cat1_rf, va_rf, hup_same, hup_hup, List.length_cons, List.length_nil, List.nil_append, List.cons_append, Option.toList, true_and, and_true, Nat.reduceAdd, Nat.reduceSub, Nat.reduceLT, Nat.reduceLeDiff, Nat.zero_le, Nat.sub_zero, Nat.zero_lt_succ, Nat.lt_add_left_iff_pos, Nat.succ_lt_succ_iff, sp_X6_cutTo, ht]
    grind
  · exact hT.elim
set_option maxRecDepth 100000 in
theorem con_X6_cutTo {l : Launch} {s0 : State} {D : va_G} {cy : Nat → ClassId} {P : Pm} {a0 : Array Value} (hE : E0 l s0 D cy P a0) : Con l s0 D yX6_cutTo (Cond.code yX6_cutTo cX6_cutTo 2 (some .boolean)) 0 0 (sp_X6_cutTo cy P) := by
  refine con_of (clok_X6 hE _) (by decide) (fun as σ K KX h => okA_cat h.1) (Nat.le_of_ble_eq_true rfl) ?_ ?_ (m_X6_cutTo cy P hE.2.2.2.1)
  · intro p e R s m args below meth c A Q hfr hlo hW B kd j g hg
    cases hg
  · intro p e R s m args below meth c A K KX hfr hlo hW B htab
    exact xok_none htab
/-- a byte of the tape, -1 behind it -/
def bt (f : Nat → Int32) (L k : Nat) : Int32 := if k < L then f k else -1
def iv_X6_byteAt (cy : Nat → ClassId) (P : Pm) : Nat → Nat → Option Sg
  | _, _ => none
def sp_X6_byteAt (cy : Nat → ClassId) (P : Pm) : Sg := mI 7 [0] b0 (fun as σ K _ => match as with
  | [.ref t, .int i] => ∃ b L p f k, TP cy σ t b L p f ∧ i = nI k ∧ k ≤ 1000 ∧ K (some (.int (bt f L k))) σ
  | _ => False)
set_option maxHeartbeats 2000000 in
theorem m_X6_byteAt (cy : Nat → ClassId) (P : Pm) (hP : PmOK P) : MOK (cl_X6 P) cy P.2.1 obj cX6_byteAt (iv_X6_byteAt cy P) (fun _ => none) (fun _ => some none) (some .int) 2 (sp_X6_byteAt cy P) := by
  intro as σ K KX J hlen hT hJ hOld
  obtain ⟨-, -, hT⟩ := hT
  split at hT
  · rename_i t i
    obtain ⟨b, L, p, f, k, ⟨ht, hb, hL, hp⟩, rfl, hk, hT⟩ := hT
    have h0 : (nI k < 0) = False := eq_false (nI_pos (by omega))
    have h1 : (nI L ≤ nI k) = (L ≤ k) := propext (nI_leI (by omega) (by omega))
    have h2 : (Int32.ofNat 400 ≤ nI k) = (400 ≤ k) := propext (nI_leI (a := 400) (by omega) (by omega))
    have hbz : (b = P.2.1.1) = False := eq_false (fun z => by rw [z, hOld.1] at hb; cases hb)
    have hcl : (nI k).toNatClampNeg = k := nI_clamp (by omega)
    refine wp_of_S hJ (ct []) 400 _ _ _ _ _ _ ?_
    simp only [w_iload_n (cut := ct []) (pc' := 1) (i := 1) rfl dX6_byteAt_0 rfl rfl, w_if_lt (cut := ct []) (pc' := 4) (t := 30) rfl dX6_byteAt_1 rfl (by decide) rfl, w_iload_n (cut := ct []) (pc' := 5) (i := 1) rfl dX6_byteAt_4 rfl rfl, w_aload_n (cut := ct []) (pc' := 6) (i := 0) rfl dX6_byteAt_5 rfl rfl, w_getfield (cut := ct []) (pc' := 9) rfl dX6_byteAt_6 rfl (q_X6_f15 P), w_icmp_ge (cut := ct []) (pc' := 12) (t := 30) rfl dX6_byteAt_9 rfl (by decide) rfl, w_iload_n (cut := ct []) (pc' := 13) (i := 1) rfl dX6_byteAt_12 rfl rfl, w_aload_n (cut := ct []) (pc' := 14) (i := 0) rfl dX6_byteAt_13 rfl rfl, w_getfield (cut := ct []) (pc' := 17) rfl dX6_byteAt_14 rfl (q_X6_f9 P), w_arraylength (cut := ct []) rfl dX6_byteAt_17, w_icmp_ge (cut := ct []) (pc' := 21) (t := 30) rfl dX6_byteAt_18 rfl (by decide) rfl, w_aload_n (cut := ct []) (pc' := 22) (i := 0) rfl dX6_byteAt_21 rfl rfl, w_getfield (cut := ct []) (pc' := 25) rfl dX6_byteAt_22 rfl (q_X6_f9 P), w_iload_n (cut := ct []) (pc' := 26) (i := 1) rfl dX6_byteAt_25 rfl rfl, w_iaload (cut := ct []) rfl dX6_byteAt_26, w_goto (cut := ct []) (t := 31) rfl dX6_byteAt_27 (by decide) rfl, w_iconst (cut := ct []) (pc' := 31) (v := (-1)) rfl dX6_byteAt_30 rfl rfl, w_ireturnI (cut := ct []) rfl dX6_byteAt_31 rfl, nby0, strd, mStr, onAL, true_imp_iff, false_imp_iff, not_true_eq_false, not_false_eq_true, Classical.not_not, eq_self, e10, e01, em1, Int32.reduceLT, Int32.reduceLE, onBoat, onGale, onOut, onPort, onRep, onWarn, yn, mI, mS, b0, okA, rcvd, nb0, nb1, ini, List.map_cons, List.map_nil, List.replicate_zero, List.replicate_succ, List.append_nil, ldI, ldA, incK, getK, putK, oldK, castK, inv1, nwO, nwA, nwR, alen, ald, bald, ast, lald, last, rald, rast, goTo, nth, sto, setN, popN, okv, cat1_int, cat1_ref, cat1_null, cat1_rf, va_rf, hup_same, hup_hup, List.length_cons, List.length_nil, List.nil_append, List.cons_append, Option.toList, true_and, and_true, Nat.reduceAdd, Nat.reduceSub, Nat.reduceLT, Nat.reduceLeDiff, Nat.zero_le, Nat.sub_zero, Nat.zero_lt_succ, Nat.lt_add_left_iff_pos, Nat.succ_lt_succ_iff, sp_X6_byteAt, ht, hb, h0, h1, h2, hbz, hcl, ite_false, true_or]
    unfold bt at hT
    refine ⟨fun h => ?_, fun h => ⟨fun h3 => ?_, fun h3 => ⟨vp_in_nI (by omega) (by omega), ?_⟩⟩⟩
    · rw [if_neg (by omega)] at hT; exact hT
    · omega
    · rw [if_pos (by omega)] at hT; exact hT
  · exact hT.elim
set_option maxRecDepth 100000 in
theorem con_X6_byteAt {l : Launch} {s0 : State} {D : va_G} {cy : Nat → ClassId} {P : Pm} {a0 : Array Value} (hE : E0 l s0 D cy P a0) : Con l s0 D yX6_byteAt (Cond.code yX6_byteAt cX6_byteAt 2 (some .int)) 0 0 (sp_X6_byteAt cy P) := by
  refine con_of (clok_X6 hE _) (by decide) (fun as σ K KX h => okA_cat h.1) (Nat.le_of_ble_eq_true rfl) ?_ ?_ (m_X6_byteAt cy P hE.2.2.2.1)
  · intro p e R s m args below meth c A Q hfr hlo hW B kd j g hg
    cases hg
  · intro p e R s m args below meth c A K KX hfr hlo hW B htab
    exact xok_none htab
