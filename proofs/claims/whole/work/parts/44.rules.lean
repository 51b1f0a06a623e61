/-! ===== StormFlags: rules ===== -/
section RD
variable {f g : Nat → Int32} {L : Nat}
theorem bOK_in {u v lo hi : Int32} (h : bOK u v) (h0 : 0 ≤ lo) (h1 : hi ≤ 127) : isIn lo hi u = isIn lo hi v := by
  rcases h with ⟨-, -, e⟩ | ⟨a, b⟩
  · rw [e]
  · have n1 : isIn lo hi u = false := by
      unfold isIn
      rw [decide_eq_false (p := u ≤ hi) (fun z => absurd (Int32.le_trans a (Int32.le_trans z h1)) (by decide)), Bool.and_false]
    have n2 : isIn lo hi v = false := by
      unfold isIn
      rw [decide_eq_false (p := lo ≤ v) (fun z => absurd (Int32.lt_of_le_of_lt (Int32.le_trans h0 z) b) (by decide)), Bool.false_and]
    rw [n1, n2]
theorem bOK_eq {u v c : Int32} (h : bOK u v) (h0 : 0 ≤ c) (h1 : c ≤ 127) : u = c ↔ v = c := by
  rcases h with ⟨-, -, e⟩ | ⟨a, b⟩
  · rw [e]
  · constructor
    · intro z; subst z; exact absurd (Int32.le_trans a h1) (by decide)
    · intro z; subst z; exact absurd (Int32.lt_of_le_of_lt h0 b) (by decide)
theorem bOK_same {u v lo hi : Int32} (h : bOK u v) (h1 : hi ≤ 127) (hi9 : isIn lo hi u = true) : u = v := by
  rcases h with ⟨-, -, e⟩ | ⟨a, b⟩
  · exact e.symm
  · simp [isIn] at hi9
    exact absurd (Int32.le_trans a (Int32.le_trans hi9.2 h1)) (by decide)
theorem adv_congr {c : Int32 → Bool} (h : ∀ i, i < L → c (f i) = c (g i)) : ∀ k p, adv c f L k p = adv c g L k p
  | 0, _ => rfl
  | k + 1, p => by
    rw [adv, adv, adv_congr h k (p + 1)]
    by_cases hp : p < L
    · rw [h p hp]
    · rw [if_neg (fun z => hp z.1), if_neg (fun z => hp z.1)]
theorem adw_congr {c : Int32 → Bool} (h : ∀ i, i < L → c (f i) = c (g i)) (p : Nat) : adw c f L p = adw c g L p := adv_congr h _ p
theorem adw_B (h : BYR f g L) (p : Nat) : adw isB f L p = adw isB g L p := adw_congr (fun i hi => by
  unfold isB
  exact decide_eq_decide.mpr (bOK_eq (h i hi) (by decide) (by decide))) p
theorem adw_I {lo hi : Int32} (h : BYR f g L) (h0 : 0 ≤ lo) (h1 : hi ≤ 127) (p : Nat) : adw (isIn lo hi) f L p = adw (isIn lo hi) g L p := adw_congr (fun i hi => bOK_in (h i hi) h0 h1) p
theorem txt_rng : ∀ k, k < 7 → ∀ j, j < (txt k).length → 0 ≤ (txt k).getD j 0 ∧ (txt k).getD j 0 ≤ 127 := by decide
theorem isWdb_congr {k : Nat} (h : BYR f g L) (hk : k < 7) (p : Nat) : isWdb f L p k = isWdb g L p k := by
  unfold isWdb
  rw [adw_I h (by decide) (by decide) p]
  by_cases hA : adw (isIn 97 122) g L p = p + (txt k).length
  · rw [decide_eq_true hA, Bool.true_and, Bool.true_and]
    have hln := txt_len k hk
    have hpL : p < L := by
      by_cases z : p < L
      · exact z
      · rw [adw_no (fun q => z q.1)] at hA; omega
    have hle := adw_le (c := isIn 97 122) (f := g) (L := L) (L - p) p rfl (by omega)
    rw [hA] at hle
    rw [Bool.eq_iff_iff, List.all_eq_true, List.all_eq_true]
    constructor
    · intro z j hj
      have hj2 := List.mem_range.mp hj
      have hr := txt_rng k hk j hj2
      exact decide_eq_true ((bOK_eq (h (p + j) (by omega)) hr.1 hr.2).mp (of_decide_eq_true (z j hj)))
    · intro z j hj
      have hj2 := List.mem_range.mp hj
      have hr := txt_rng k hk j hj2
      exact decide_eq_true ((bOK_eq (h (p + j) (by omega)) hr.1 hr.2).mpr (of_decide_eq_true (z j hj)))
  · rw [decide_eq_false hA, Bool.false_and, Bool.false_and]
theorem aftW_congr (h : BYR f g L) (p k : Nat) : aftW f L p k = aftW g L p k := adw_B h _
theorem rdFlag_congr (h : BYR f g L) (p : Nat) : rdFlag f L p = rdFlag g L p := by
  unfold rdFlag
  rw [isWdb_congr h (by decide), isWdb_congr h (by decide), aftW_congr h, aftW_congr h]
theorem rdKind_congr (h : BYR f g L) (p : Nat) : rdKind f L p = rdKind g L p := by
  unfold rdKind
  rw [isWdb_congr (k := 2) h (by decide), isWdb_congr (k := 3) h (by decide), isWdb_congr (k := 4) h (by decide), isWdb_congr (k := 5) h (by decide), aftW_congr h, aftW_congr h, aftW_congr h, aftW_congr h]
theorem bt_congr {c : Int32} (h : BYR f g L) (h0 : 0 ≤ c) (h1 : c ≤ 127) (q : Nat) : (bt f L q = c) = (bt g L q = c) := by
  unfold bt
  by_cases hq : q < L
  · rw [if_pos hq, if_pos hq]; exact propext (bOK_eq (h q hq) h0 h1)
  · rw [if_neg hq, if_neg hq]
theorem numV_congr {p : Nat} : ∀ m, (∀ i, i < m → f (p + i) = g (p + i)) → numV f p m = numV g p m
  | 0, _ => rfl
  | m + 1, h => by rw [numV, numV, numV_congr m (fun i hi => h i (by omega)), h m (by omega)]
theorem signC_rng (k : Int32) : 0 ≤ signC k ∧ signC k ≤ 127 := by
  unfold signC
  split
  · decide
  · split <;> decide
theorem rdCond_congr (h : BYR f g L) (p : Nat) : rdCond f L p = rdCond g L p := by
  unfold rdCond
  rw [rdKind_congr h]
  cases hk : rdKind g L p with
  | none => rfl
  | some kq =>
    obtain ⟨k, q⟩ := kq
    dsimp only
    have e1 := bt_congr (c := signC k) h (signC_rng k).1 (signC_rng k).2 q
    by_cases hs : bt g L q = signC k
    · rw [if_pos hs, if_pos (by rw [e1]; exact hs), adw_B h, adw_I h (by decide) (by decide)]
      have hql := bt_lt hs signC_ne
      have hs2 := adw_le (c := isB) (f := g) (L := L) _ (q + 1) rfl (by omega)
      generalize adw isB g L (q + 1) = s at hs2 ⊢
      have he := adw_le (c := isIn 48 57) (f := g) (L := L) _ s rfl hs2.2
      have hal := adw_all (c := isIn 48 57) (f := g) (L := L) _ s rfl
      generalize adw (isIn 48 57) g L s = e at he hal ⊢
      rw [adw_B h, numV_congr (e - s) (fun i hi => ?_)]
      have h9 := h (s + i) (by omega)
      have h8 := hal (s + i) (by omega) (by omega)
      rw [← bOK_in h9 (by decide) (by decide)] at h8
      exact bOK_same h9 (by decide) h8
    · rw [if_neg hs, if_neg (by rw [e1]; exact hs)]
theorem rdConds_congr (h : BYR f g L) : ∀ m p, rdConds f L m p = rdConds g L m p
  | 0, _ => rfl
  | m + 1, p => by
    rw [rdConds, rdConds, rdCond_congr h]
    cases rdCond g L p with
    | mk q o =>
      cases o with
      | none => rfl
      | some c =>
        dsimp only
        rw [isWdb_congr h (by decide), aftW_congr h, rdConds_congr h m]
theorem rdRule_congr (h : BYR f g L) (p : Nat) : rdRule f L p = rdRule g L p := by
  unfold rdRule
  rw [rdFlag_congr h]
  cases rdFlag g L p with
  | none => rfl
  | some fq =>
    obtain ⟨fl, q⟩ := fq
    dsimp only
    rw [rdConds_congr h]
theorem rdAll_congr (h : BYR f g L) : ∀ m p, rdAll f L m p = rdAll g L m p
  | 0, _ => rfl
  | m + 1, p => by
    rw [rdAll, rdAll, rdRule_congr h]
    cases rdRule g L p with
    | mk q o =>
      cases o with
      | none => rfl
      | some r =>
        dsimp only
        have e1 := bt_congr (c := 59) h (by decide) (by decide) q
        by_cases hs : bt g L q = 59
        · have hs' : bt f L q = 59 := by rw [e1]; exact hs
          rw [if_pos hs, if_pos hs', adw_B h, rdAll_congr h m]
        · have hs' : ¬ bt f L q = 59 := by rw [e1]; exact hs
          rw [if_neg hs, if_neg hs']
theorem rdText_congr (h : BYR f g L) : rdText f L = rdText g L := by
  unfold rdText
  rw [adw_B h, rdAll_congr h]
end RD
def ruleOK (r : Int32 × List (Int32 × Int32)) : Prop := (r.1 = 0 ∨ r.1 = 1) ∧ r.2.length ≤ 4 ∧ ∀ x ∈ r.2, kind4 x.1
theorem rdConds_ok {f : Nat → Int32} {L : Nat} : ∀ (m p : Nat), p ≤ L → (rdConds f L m p).1 ≤ L ∧ ∀ cs, (rdConds f L m p).2 = some cs → cs.length ≤ m ∧ ∀ x ∈ cs, kind4 x.1
  | 0, p, hp => ⟨hp, fun cs h => by cases h; exact ⟨Nat.le_refl _, fun x hx => nomatch hx⟩⟩
  | m + 1, p, hp => by
    rw [rdConds]
    have h1 := rdCond_le (f := f) hp
    have h2 := fun kd nm => rdCond_kind (f := f) (kd := kd) (nm := nm) hp
    cases hc : rdCond f L p with
    | mk q o =>
      rw [hc] at h1 h2
      cases o with
      | none => exact ⟨h1, fun cs h => by cases h⟩
      | some c =>
        obtain ⟨kd, nm⟩ := c
        have hk := h2 kd nm rfl
        dsimp only at h1 ⊢
        split
        · exact ⟨h1, fun cs h => by cases h; exact ⟨by simp, fun x hx => by rw [List.mem_singleton.mp hx]; exact hk⟩⟩
        · split
          · rename_i hw
            have hal := aftW_le hw h1
            obtain ⟨g1, g2⟩ := rdConds_ok (f := f) m (aftW f L q 6) hal.1
            cases hr : rdConds f L m (aftW f L q 6) with
            | mk q' o' =>
              rw [hr] at g1 g2
              cases o' with
              | none => exact ⟨g1, fun cs h => by cases h⟩
              | some cs' =>
                obtain ⟨g3, g4⟩ := g2 cs' rfl
                refine ⟨g1, fun cs h => ?_⟩
                cases h
                refine ⟨by simp; exact g3, fun x hx => ?_⟩
                rcases List.mem_cons.mp hx with rfl | hx
                · exact hk
                · exact g4 x hx
          · exact ⟨h1, fun cs h => by cases h; exact ⟨by simp, fun x hx => by rw [List.mem_singleton.mp hx]; exact hk⟩⟩
theorem rdRule_ok {f : Nat → Int32} {L p : Nat} (hp : p ≤ L) : (rdRule f L p).1 ≤ L ∧ ∀ r, (rdRule f L p).2 = some r → ruleOK r := by
  unfold rdRule
  cases hf : rdFlag f L p with
  | none => exact ⟨hp, fun r h => by cases h⟩
  | some fq =>
    obtain ⟨fl, q⟩ := fq
    obtain ⟨hv, hq, -⟩ := rdFlag_vals hf hp
    dsimp only
    obtain ⟨g1, g2⟩ := rdConds_ok (f := f) 4 q hq
    cases hr : rdConds f L 4 q with
    | mk q' o' =>
      rw [hr] at g1 g2
      cases o' with
      | none => exact ⟨g1, fun r h => by cases h⟩
      | some cs' =>
        obtain ⟨g3, g4⟩ := g2 cs' rfl
        exact ⟨g1, fun r h => by cases h; exact ⟨hv, g3, g4⟩⟩
theorem rdAll_ok {f : Nat → Int32} {L : Nat} : ∀ (m p : Nat), p ≤ L → (rdAll f L m p).2.length ≤ m ∧ ∀ r ∈ (rdAll f L m p).2, ruleOK r
  | 0, p, hp => ⟨Nat.le_refl _, fun x hx => nomatch hx⟩
  | m + 1, p, hp => by
    rw [rdAll]
    obtain ⟨g1, g2⟩ := rdRule_ok (f := f) hp
    cases hr : rdRule f L p with
    | mk q o =>
      rw [hr] at g1 g2
      cases o with
      | none => exact ⟨by simp, fun x hx => nomatch hx⟩
      | some r =>
        have hrk := g2 r rfl
        dsimp only at g1 ⊢
        split
        · exact ⟨by simp, fun x hx => by rw [List.mem_singleton.mp hx]; exact hrk⟩
        · split
          · rename_i hb
            have hql := bt_lt hb (by decide)
            have hal := adw_le (c := isB) (f := f) (L := L) _ (q + 1) rfl (by omega)
            obtain ⟨k1, k2⟩ := rdAll_ok (f := f) m _ hal.2
            refine ⟨by simp; exact k1, fun x hx => ?_⟩
            rcases List.mem_cons.mp hx with rfl | hx
            · exact hrk
            · exact k2 x hx
          · exact ⟨by simp, fun x hx => by rw [List.mem_singleton.mp hx]; exact hrk⟩
theorem rdText_ok {f : Nat → Int32} {L : Nat} : (rdText f L).2.length ≤ 8 ∧ ∀ r ∈ (rdText f L).2, ruleOK r := by
  unfold rdText
  split
  · exact ⟨by simp, fun x hx => nomatch hx⟩
  · exact rdAll_ok 8 _ (adw_le (c := isB) (f := f) (L := L) _ 0 rfl (Nat.zero_le _)).2
def RULs (M : Ms) (rs : List (Int32 × List (Int32 × Int32))) : Prop := ∀ k fl cs, rs[k]? = some (fl, cs) → M 13 k = fl ∧ M 14 k = nI cs.length ∧ ∀ c x, cs[c]? = some x → M 15 (4 * k + c) = x.1 ∧ M 16 (4 * k + c) = x.2
theorem RUL_of {F C : Nat → Int32} {Kd Nm : Nat → Nat → Int32} {M : Ms} {rs : List (Int32 × List (Int32 × Int32))} (h1 : rowsAre F C Kd Nm rs) (h2 : RULs M rs) (h3 : ∀ r ∈ rs, ruleOK r) : RUL F C Kd Nm rs.length M := by
  intro k hk
  have he : rs[k]? = some (rs[k]) := List.getElem?_eq_getElem hk
  have hm : rs[k] ∈ rs := List.getElem_mem hk
  generalize rs[k] = r at he hm
  obtain ⟨fl, cs⟩ := r
  obtain ⟨a1, a2, a3⟩ := h1 k fl cs he
  obtain ⟨b1, b2, b3⟩ := h2 k fl cs he
  obtain ⟨c1, c2, c3⟩ := h3 _ hm
  refine ⟨a1.trans b1.symm, a2.trans b2.symm, cs.length, b2, c2, fun c hc => ?_⟩
  have he2 : cs[c]? = some (cs[c]) := List.getElem?_eq_getElem hc
  have hm2 : cs[c] ∈ cs := List.getElem_mem hc
  generalize cs[c] = x at he2 hm2
  obtain ⟨d1, d2⟩ := a3 c x he2
  obtain ⟨e1, e2⟩ := b3 c x he2
  exact ⟨d1.trans e1.symm, d2.trans e2.symm, by rw [e1]; exact c3 x hm2⟩
