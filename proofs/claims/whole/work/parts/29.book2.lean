/-! ===== RuleBook: a condition ===== -/
theorem adw_all {c : Int32 → Bool} {f : Nat → Int32} {L : Nat} : ∀ (m p : Nat), L - p = m → ∀ i, p ≤ i → i < adw c f L p → c (f i) = true
  | 0, p, hk, i, h1, h2 => by rw [adw_no (by omega)] at h2; omega
  | m + 1, p, hk, i, h1, h2 => by
    by_cases h : p < L ∧ c (f p) = true
    · rw [adw_go h.1 h.2] at h2
      by_cases hi : i = p
      · subst hi; exact h.2
      · exact adw_all m (p + 1) (by omega) i (by omega) h2
    · rw [adw_no h] at h2; omega
theorem numV_nat {f : Nat → Int32} {p : Nat} : ∀ (m : Nat), m ≤ 5 → (∀ i, i < m → isIn 48 57 (f (p + i)) = true) → ∃ v, numV f p m = nI v ∧ v < 10 ^ m
  | 0, _, _ => ⟨0, rfl, by decide⟩
  | m + 1, hm, h => by
    obtain ⟨v, hv, hv2⟩ := numV_nat m (by omega) (fun i hi => h i (by omega))
    have hd := h m (by omega)
    simp [isIn] at hd
    have h0 : ¬ f (p + m) < 0 := fun z => by
      have h1 : (48 : Int32) < 0 := Int32.lt_of_le_of_lt hd.1 z
      exact absurd h1 (by decide)
    obtain ⟨d, hd1, hd2⟩ := nI_of2 (M := 57) (n := 57) (by decide) h0 hd.2
    rw [hd2] at hd
    have hd3 : 48 ≤ d := (nI_leI (a := 48) (b := d) (by omega) (by omega)).mp hd.1
    have hp : 10 ^ m ≤ 10 ^ 4 := Nat.pow_le_pow_right (by decide) (by omega)
    refine ⟨v * 10 + d - 48, ?_, ?_⟩
    · rw [numV, hv, hd2, show (10 : Int32) = nI 10 from rfl, show (48 : Int32) = nI 48 from rfl, pk_mul, nI_add, pk_sub (by omega)]
    · rw [Nat.pow_succ]; omega
/-- a condition at p: the place behind it and what it says, or the place where it fails -/
def rdCond (f : Nat → Int32) (L p : Nat) : Nat × Option (Int32 × Int32) := match rdKind f L p with
  | none => (p, none)
  | some (k, q) => if bt f L q = signC k then (let s := adw isB f L (q + 1); let e := adw (isIn 48 57) f L s; if 1 ≤ e - s ∧ e - s ≤ 5 then (adw isB f L e, some (k, numV f s (e - s))) else (s, none)) else (q, none)
theorem rdKind_vals {f : Nat → Int32} {L p q : Nat} {v : Int32} (h : rdKind f L p = some (v, q)) (hp : p ≤ L) : (v = 0 ∨ v = 1 ∨ v = 2 ∨ v = 3) ∧ q ≤ L ∧ p ≤ q := by
  unfold rdKind at h
  split at h
  · rename_i hw; cases h; exact ⟨Or.inl rfl, aftW_le hw hp⟩
  · split at h
    · rename_i hw; cases h; exact ⟨Or.inr (Or.inl rfl), aftW_le hw hp⟩
    · split at h
      · rename_i hw; cases h; exact ⟨Or.inr (Or.inr (Or.inl rfl)), aftW_le hw hp⟩
      · split at h
        · rename_i hw; cases h; exact ⟨Or.inr (Or.inr (Or.inr rfl)), aftW_le hw hp⟩
        · cases h
theorem signC_ne {k : Int32} : ¬ signC k = -1 := by
  unfold signC
  split
  · decide
  · split <;> decide
theorem bt_lt {f : Nat → Int32} {L q : Nat} {c : Int32} (h : bt f L q = c) (hc : ¬ c = -1) : q < L := by
  unfold bt at h
  by_cases z : q < L
  · exact z
  · rw [if_neg z] at h; exact absurd h.symm hc
def iv_X5_readCondition (cy : Nat → ClassId) (P : Pm) : Nat → Nat → Option Sg
  | 1, 71 => some (sp_X5_readKind cy P)
  | 1, 74 => some (sp_X2_signOf cy P)
  | 0, 53 => some (sp_X6_takeSign cy P)
  | 0, 78 => some (sp_X6_takeNumber cy P)
  | _, _ => none
def sp_X5_readCondition (cy : Nat → ClassId) (P : Pm) : Sg := mI 6 [1, 0, 0] b0 (fun as σ K _ => match as with
  | [.ref r, .ref t, .int ru, .int ix] => ∃ a sz F C Kd Nm b L p f k c, BK cy σ r a sz F C Kd Nm ∧ TP cy σ t b L p f ∧ ru = nI k ∧ k < 8 ∧ ix = nI c ∧ c < 4 ∧
      (∀ kd nm, (rdCond f L p).2 = some (kd, nm) → K (some (.int 1)) (hup (hup (tpAt σ t b L (rdCond f L p).1) (a.2.2.2.2.1 k) (oInts cy 4 (upd (Kd k) c kd))) (a.2.2.2.2.2 k) (oInts cy 4 (upd (Nm k) c nm)))) ∧
      ((rdCond f L p).2 = none → K (some (.int 0)) (tpAt σ t b L (rdCond f L p).1))
  | _ => False)
set_option maxHeartbeats 8000000 in
theorem m_X5_readCondition (cy : Nat → ClassId) (P : Pm) (hP : PmOK P) : MOK (cl_X5 P) cy P.2.1 obj cX5_readCondition (iv_X5_readCondition cy P) (fun _ => none) (fun _ => some none) (some .boolean) 6 (sp_X5_readCondition cy P) := by
  intro as σ K KX J hlen hT hJ hOld
  obtain ⟨-, -, hT⟩ := hT
  split at hT
  · rename_i r t ru ix
    obtain ⟨a, sz, F, C, Kd, Nm, b, L, p, f, k, c, hB, hTP, rfl, hk, rfl, hc, hT1, hT2⟩ := hT
    obtain ⟨b1, b2, b3, b4, b5, b6, b7, b8, b9, b10, b11, b12⟩ := id hB
    have hp := hTP.2.2.2
    have hcl : (nI k).toNatClampNeg = k := nI_clamp (by omega)
    have hin : vp_in (nI k) 8 = True := eq_true (vp_in_nI (by omega) (by omega))
    have hk8 : (k < 8) = True := eq_true (by omega)
    have hc4 : vp_in (nI c) 4 = True := eq_true (vp_in_nI (by omega) (by omega))
    have hcc : (nI c).toNatClampNeg = c := nI_clamp (by omega)
    have hkr := b6 k (by omega)
    have hnr := b7 k (by omega)
    have n1 : (r = t) = False := eq_false (kne b1 hTP.1 (by intro z; cases z))
    have n2 : (a.2.2.1 = t) = False := eq_false (kne b4 hTP.1 (by intro z; cases z))
    have n3 : (a.2.2.2.1 = t) = False := eq_false (kne b5 hTP.1 (by intro z; cases z))
    have n4 : (a.2.2.2.2.1 k = t) = False := eq_false (kne hkr hTP.1 (by intro z; cases z))
    have n5 : (a.2.2.2.2.2 k = t) = False := eq_false (kne hnr hTP.1 (by intro z; cases z))
    have n6 : (r = a.2.2.2.2.1 k) = False := eq_false (kne b1 hkr (by intro z; cases z))
    have n7 : (a.2.2.2.1 = a.2.2.2.2.1 k) = False := eq_false (kne b5 hkr (by intro z; simp at z))
    have n8 : (a.2.2.2.2.2 k = a.2.2.2.2.1 k) = False := eq_false (fun z => b11 k k hk hk z.symm)
    unfold rdCond at hT1 hT2
    refine wp_of_S hJ (ct []) 400 _ _ _ _ _ _ ?_
    simp only [w_aload_n (cut := ct []) (pc' := 1) (i := 1) rfl dX5_readCondition_0 rfl rfl, w_invoke (inv := iv_X5_readCondition cy P) (kd := 1) (f := 71) (g := sp_X5_readKind cy P) (cut := ct []) rfl dX5_readCondition_1 rfl (by decide) rfl, w_istore (cut := ct []) (pc' := 6) (i := 4) rfl dX5_readCondition_4 rfl rfl, w_iload (cut := ct []) (pc' := 8) (i := 4) rfl dX5_readCondition_6 rfl rfl, w_iconst (cut := ct []) (pc' := 9) (v := (-1)) rfl dX5_readCondition_8 rfl rfl, w_icmp_eq (cut := ct []) (pc' := 12) (t := 24) rfl dX5_readCondition_9 rfl (by decide) rfl, w_aload_n (cut := ct []) (pc' := 13) (i := 1) rfl dX5_readCondition_12 rfl rfl, w_iload (cut := ct []) (pc' := 15) (i := 4) rfl dX5_readCondition_13 rfl rfl, w_invoke (inv := iv_X5_readCondition cy P) (kd := 1) (f := 74) (g := sp_X2_signOf cy P) (cut := ct []) rfl dX5_readCondition_15 rfl (by decide) rfl, w_invoke (inv := iv_X5_readCondition cy P) (kd := 0) (f := 53) (g := sp_X6_takeSign cy P) (cut := ct []) rfl dX5_readCondition_18 rfl (by decide) rfl, w_if_ne (cut := ct []) (pc' := 24) (t := 26) rfl dX5_readCondition_21 rfl (by decide) rfl, w_iconst (cut := ct []) (pc' := 25) (v := 0) rfl dX5_readCondition_24 rfl rfl, w_ireturn (ty := .boolean) (cut := ct []) rfl dX5_readCondition_25 rfl, w_aload_n (cut := ct []) (pc' := 27) (i := 1) rfl dX5_readCondition_26 rfl rfl, w_invoke (inv := iv_X5_readCondition cy P) (kd := 0) (f := 78) (g := sp_X6_takeNumber cy P) (cut := ct []) rfl dX5_readCondition_27 rfl (by decide) rfl, w_istore (cut := ct []) (pc' := 32) (i := 5) rfl dX5_readCondition_30 rfl rfl, w_iload (cut := ct []) (pc' := 34) (i := 5) rfl dX5_readCondition_32 rfl rfl, w_iconst (cut := ct []) (pc' := 35) (v := (-1)) rfl dX5_readCondition_34 rfl rfl, w_icmp_ne (cut := ct []) (pc' := 38) (t := 40) rfl dX5_readCondition_35 rfl (by decide) rfl, w_iconst (cut := ct []) (pc' := 39) (v := 0) rfl dX5_readCondition_38 rfl rfl, w_ireturn (ty := .boolean) (cut := ct []) rfl dX5_readCondition_39 rfl, w_aload_n (cut := ct []) (pc' := 41) (i := 0) rfl dX5_readCondition_40 rfl rfl, w_getfield (cut := ct []) (pc' := 44) rfl dX5_readCondition_41 rfl (q_X5_f20 P), w_iload_n (cut := ct []) (pc' := 45) (i := 2) rfl dX5_readCondition_44 rfl rfl, w_aaload (cut := ct []) rfl dX5_readCondition_45, w_iload_n (cut := ct []) (pc' := 47) (i := 3) rfl dX5_readCondition_46 rfl rfl, w_iload (cut := ct []) (pc' := 49) (i := 4) rfl dX5_readCondition_47 rfl rfl, w_iastore (cut := ct []) rfl dX5_readCondition_49, w_aload_n (cut := ct []) (pc' := 51) (i := 0) rfl dX5_readCondition_50 rfl rfl, w_getfield (cut := ct []) (pc' := 54) rfl dX5_readCondition_51 rfl (q_X5_f23 P), w_iload_n (cut := ct []) (pc' := 55) (i := 2) rfl dX5_readCondition_54 rfl rfl, w_aaload (cut := ct []) rfl dX5_readCondition_55, w_iload_n (cut := ct []) (pc' := 57) (i := 3) rfl dX5_readCondition_56 rfl rfl, w_iload (cut := ct []) (pc' := 59) (i := 5) rfl dX5_readCondition_57 rfl rfl, w_iastore (cut := ct []) rfl dX5_readCondition_59, w_iconst (cut := ct []) (pc' := 61) (v := 1) rfl dX5_readCondition_60 rfl rfl, w_ireturn (ty := .boolean) (cut := ct []) rfl dX5_readCondition_61 rfl, rsum, cg_int, cg_ref, cg_null, nby0, strd, mStr, onAL, true_imp_iff, false_imp_iff, not_true_eq_false, not_false_eq_true, Classical.not_not, eq_self, e10, e01, em1, Int32.reduceLT, Int32.reduceLE, onBoat, onGale, onOut, onPort, onRep, onWarn, yn, mI, mS, b0, okA, rcvd, nb0, nb1, ini, List.map_cons, List.map_nil, List.replicate_zero, List.replicate_succ, List.append_nil, ldI, ldA, incK, getK, putK, oldK, castK, inv1, nwO, nwA, nwR, alen, ald, bald, ast, lald, last, rald, rast, goTo, nth, sto, setN, popN, okv, cat1_int, cat1_ref, cat1_null, cat1_rf, va_rf, hup_same, hup_hup, List.length_cons, List.length_nil, List.nil_append, List.cons_append, Option.toList, true_and, and_true, Nat.reduceAdd, Nat.reduceSub, Nat.reduceLT, Nat.reduceLeDiff, Nat.zero_le, Nat.sub_zero, Nat.zero_lt_succ, Nat.lt_add_left_iff_pos, Nat.succ_lt_succ_iff, sp_X5_readCondition, sp_X5_readKind, sp_X2_signOf, sp_X6_takeSign, sp_X6_takeNumber, b1, b4, b5, hkr, hnr, hcl, hin, hk8, hc4, hcc, hTP.1, n1, n2, n3, n4, n5, n6, n7, n8, hup_app, ite_true, ite_false, or_true]
    refine ⟨b, L, p, f, hTP, fun v q hv => ?_, fun hv => ?_⟩
    · obtain ⟨hv4, hq, hpq⟩ := rdKind_vals hv hp
      rw [hv] at hT1 hT2
      dsimp only at hT1 hT2
      refine ⟨fun z => absurd z (by rcases hv4 with rfl | rfl | rfl | rfl <;> decide), fun _ => ⟨hv4, b, L, q, f, TP_pl hTP hq, signC_ne, fun hs => ?_, fun hs => ?_⟩⟩
      · have hql := bt_lt hs signC_ne
        rw [if_pos hs] at hT1 hT2
        have hs2 := adw_le (c := isB) (f := f) (L := L) _ (q + 1) rfl (by omega)
        refine ⟨b, L, adw isB f L (q + 1), f, TP_pl hTP hs2.2, fun hn => ⟨fun _ => ?_, fun z => ?_⟩, fun hn => ?_⟩
        · rw [if_pos hn] at hT1
          exact hT1 v _ rfl
        · obtain ⟨w, hw, hw2⟩ := numV_nat (f := f) (p := adw isB f L (q + 1)) _ hn.2 (fun i hi => adw_all (L - adw isB f L (q + 1)) (adw isB f L (q + 1)) rfl (adw isB f L (q + 1) + i) (by omega) (by omega))
          have hp5 : 10 ^ (adw (isIn 48 57) f L (adw isB f L (q + 1)) - adw isB f L (q + 1)) ≤ 10 ^ 5 := Nat.pow_le_pow_right (by decide) hn.2
          rw [hw] at z
          have := nI_pos (n := w) (by omega)
          rw [z] at this
          exact absurd (by decide) this
        · rw [if_neg hn] at hT2
          exact hT2 rfl
      · rw [if_neg hs] at hT2
        exact hT2 rfl
    · rw [hv] at hT2
      have h9 := hT2 rfl
      rw [tp_same hTP] at h9
      exact h9
  · exact hT.elim
set_option maxRecDepth 100000 in
theorem con_X5_readCondition {l : Launch} {s0 : State} {D : va_G} {cy : Nat → ClassId} {P : Pm} {a0 : Array Value} (hE : E0 l s0 D cy P a0) : Con l s0 D yX5_readCondition (Cond.code yX5_readCondition cX5_readCondition 6 (some .boolean)) 6 128 (sp_X5_readCondition cy P) := by
  refine con_of (clok_X5 hE _) (by decide) (fun as σ K KX h => okA_cat h.1) (Nat.le_of_ble_eq_true rfl) ?_ ?_ (m_X5_readCondition cy P hE.2.2.2.1)
  · intro p e R s m args below meth c A Q hfr hlo hW B kd j g hg
    unfold iv_X5_readCondition at hg
    split at hg
    · cases hg; exact inv_S B (con_X5_readKind hE) (cw_mk hE hW tw_607 rfl tw_7 ⟨by decide, by decide⟩ rfl) (wd hE hW tw_605 rfl) (wd hE hW tw_606 rfl) (by rw [hfr]; decide) (by rw [hlo]; decide)
    · cases hg; exact inv_S B (con_X2_signOf hE) (cw_mk hE hW tw_614 rfl tw_6 ⟨by decide, by decide⟩ rfl) (wd hE hW tw_612 rfl) (wd hE hW tw_613 rfl) (by rw [hfr]; decide) (by rw [hlo]; decide)
    · cases hg; exact inv_V (ci := 7) B (con_X6_takeSign hE) rfl (fun as σ K KX h => rcvd_spec h.2.1) (cw_mk hE hW tw_618 rfl tw_2 ⟨by decide, by decide⟩ rfl) rfl (wd hE hW tw_615 rfl) (wd hE hW tw_616 rfl) (wd hE hW tw_617 rfl) (by rw [hfr]; decide) (by rw [hlo]; decide)
    · cases hg; exact inv_V (ci := 7) B (con_X6_takeNumber hE) rfl (fun as σ K KX h => rcvd_spec h.2.1) (cw_mk hE hW tw_622 rfl tw_2 ⟨by decide, by decide⟩ rfl) rfl (wd hE hW tw_619 rfl) (wd hE hW tw_620 rfl) (wd hE hW tw_621 rfl) (by rw [hfr]; decide) (by rw [hlo]; decide)
    · cases hg
  · intro p e R s m args below meth c A K KX hfr hlo hW B htab
    exact xok_none htab
theorem rdCond_le {f : Nat → Int32} {L p : Nat} (hp : p ≤ L) : (rdCond f L p).1 ≤ L := by
  unfold rdCond
  split
  · exact hp
  · rename_i k q hk
    obtain ⟨-, hq, -⟩ := rdKind_vals hk hp
    split
    · rename_i hs
      have hql := bt_lt hs signC_ne
      have hs2 := adw_le (c := isB) (f := f) (L := L) _ (q + 1) rfl (by omega)
      have he := adw_le (c := isIn 48 57) (f := f) (L := L) _ (adw isB f L (q + 1)) rfl hs2.2
      have hb := adw_le (c := isB) (f := f) (L := L) _ (adw (isIn 48 57) f L (adw isB f L (q + 1))) rfl he.2
      dsimp only
      split
      · exact hb.2
      · exact hs2.2
    · exact hq
theorem rdCond_kind {f : Nat → Int32} {L p : Nat} {kd nm : Int32} (hp : p ≤ L) (h : (rdCond f L p).2 = some (kd, nm)) : kd = 0 ∨ kd = 1 ∨ kd = 2 ∨ kd = 3 := by
  unfold rdCond at h
  split at h
  · cases h
  · rename_i k q hk
    obtain ⟨hv, -, -⟩ := rdKind_vals hk hp
    split at h
    · dsimp only at h
      split at h
      · cases h; exact hv
      · cases h
    · cases h
/-- at most m conditions from p on -/
def rdConds (f : Nat → Int32) (L : Nat) : Nat → Nat → Nat × Option (List (Int32 × Int32))
  | 0, p => (p, some [])
  | m + 1, p => match rdCond f L p with
    | (q, none) => (q, none)
    | (q, some c) => if m = 0 then (q, some [c]) else if isWdb f L q 6 then (match rdConds f L m (aftW f L q 6) with
      | (q', none) => (q', none)
      | (q', some cs) => (q', some (c :: cs))) else (q, some [c])
def rdRule (f : Nat → Int32) (L p : Nat) : Nat × Option (Int32 × List (Int32 × Int32)) := match rdFlag f L p with
  | none => (p, none)
  | some (fl, q) => match rdConds f L 4 q with
    | (q', none) => (q', none)
    | (q', some cs) => (q', some (fl, cs))
/-- nothing but the tape and the book's rows has changed -/
def BFr (σ σ' : Hp) (t : Nat) (a : BA) : Prop := ∀ x, x ≠ t → x ≠ a.1 → x ≠ a.2.1 → (∀ i, i < 8 → x ≠ a.2.2.2.2.1 i) → (∀ i, i < 8 → x ≠ a.2.2.2.2.2 i) → σ' x = σ x
/-- row k of a book is a rule -/
def rowIs (k : Nat) (F C : Nat → Int32) (Kd Nm : Nat → Nat → Int32) (fl : Int32) (cs : List (Int32 × Int32)) : Prop := F k = fl ∧ C k = nI cs.length ∧ ∀ c x, cs[c]? = some x → Kd k c = x.1 ∧ Nm k c = x.2
theorem BK_tq {cy : Nat → ClassId} {σ : Hp} {r t b L q : Nat} {p : Int32} {a : BA} {sz : Nat} {F C : Nat → Int32} {Kd Nm : Nat → Nat → Int32} {f : Nat → Int32} (h : BK cy σ r a sz F C Kd Nm) (ht : TQ cy σ t b L p f) : BK cy (tpAt σ t b L q) r a sz F C Kd Nm := by
  obtain ⟨b1, b2, b3, b4, b5, b6, b7, b8⟩ := h
  have ne : ∀ {x : Nat} {e : va_E}, σ x = some e → (∀ y z w, e ≠ oTape y z w) → tpAt σ t b L q x = σ x := fun hx he => hup_ne _ _ (kne hx ht.1 (he _ _ _))
  exact ⟨by rw [ne b1 (by intro _ _ _ z; cases z)]; exact b1, by rw [ne b2 (by intro _ _ _ z; cases z)]; exact b2, by rw [ne b3 (by intro _ _ _ z; cases z)]; exact b3, by rw [ne b4 (by intro _ _ _ z; cases z)]; exact b4, by rw [ne b5 (by intro _ _ _ z; cases z)]; exact b5,
    fun i hi => by rw [ne (b6 i hi) (by intro _ _ _ z; cases z)]; exact b6 i hi, fun i hi => by rw [ne (b7 i hi) (by intro _ _ _ z; cases z)]; exact b7 i hi, b8⟩
theorem BK_tp {cy : Nat → ClassId} {σ : Hp} {r t b L p q : Nat} {a : BA} {sz : Nat} {F C : Nat → Int32} {Kd Nm : Nat → Nat → Int32} {f : Nat → Int32} (h : BK cy σ r a sz F C Kd Nm) (ht : TP cy σ t b L p f) : BK cy (tpAt σ t b L q) r a sz F C Kd Nm := by
  obtain ⟨b1, b2, b3, b4, b5, b6, b7, b8⟩ := h
  have ne : ∀ {x : Nat} {e : va_E}, σ x = some e → (∀ y z w, e ≠ oTape y z w) → tpAt σ t b L q x = σ x := fun hx he => hup_ne _ _ (kne hx ht.1 (he _ _ _))
  exact ⟨by rw [ne b1 (by intro _ _ _ z; cases z)]; exact b1, by rw [ne b2 (by intro _ _ _ z; cases z)]; exact b2, by rw [ne b3 (by intro _ _ _ z; cases z)]; exact b3, by rw [ne b4 (by intro _ _ _ z; cases z)]; exact b4, by rw [ne b5 (by intro _ _ _ z; cases z)]; exact b5,
    fun i hi => by rw [ne (b6 i hi) (by intro _ _ _ z; cases z)]; exact b6 i hi, fun i hi => by rw [ne (b7 i hi) (by intro _ _ _ z; cases z)]; exact b7 i hi, b8⟩
