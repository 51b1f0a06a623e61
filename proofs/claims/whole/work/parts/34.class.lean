/-! ===== StormFlags: the whole of its state ===== -/
def setR (M : Ms) (s : Nat) (f : Nat → Int32) : Ms := fun s' => if s' = s then f else M s'
theorem setR_same {M : Ms} {s : Nat} {f : Nat → Int32} : setR M s f s = f := if_pos rfl
theorem setR_ne {M : Ms} {s s' : Nat} {f : Nat → Int32} (h : s' ≠ s) : setR M s f s' = M s' := if_neg h
def cu (N : Nat → Nat) (s v : Nat) : Nat → Nat := fun s' => if s' = s then v else N s'
theorem cu_same {N : Nat → Nat} {s v : Nat} : cu N s v s = v := if_pos rfl
theorem cu_ne {N : Nat → Nat} {s s' v : Nat} (h : s' ≠ s) : cu N s v s' = N s' := if_neg h
section CG
variable {cy : Nat → ClassId} {P : Pm} {σ σ' : Hp} {M M' : Ms}
theorem chI_congr {p : Nat} (h : M' 7 = M 7) : ∀ n, chI M' p n = chI M p n
  | 0 => rfl
  | r + 1 => by rw [chI, chI, chI_congr h r, h]
theorem PV_congr {lp ep np nr : Nat} {pA rA : Nat → Nat} (h : ∀ s, 2 ≤ s → s ≤ 11 → M' s = M s) (hV : PV cy P σ lp ep np pA nr rA M) : PV cy P σ lp ep np pA nr rA M' := by
  refine ⟨hV.1, fun i hi => ?_⟩
  obtain ⟨la, h1, h2⟩ := hV.2 i hi
  refine ⟨la, ?_, ?_⟩
  · rw [h1]
    simp only [oPt, h 2 (by decide) (by decide), h 3 (by decide) (by decide), h 4 (by decide) (by decide), h 5 (by decide) (by decide)]
  · have : rpt M' i rA = rpt M i rA := by
      funext r
      simp only [rpt, h 5 (by decide) (by decide), h 8 (by decide) (by decide), h 9 (by decide) (by decide), h 10 (by decide) (by decide), h 11 (by decide) (by decide)]
    rw [this, chI_congr (h 7 (by decide) (by decide))]
    exact h2
theorem WV_congr {lw ew nw : Nat} {wA : Nat → Nat} (h : M' 25 = M 25) (hV : WV cy P σ lw ew nw wA M) : WV cy P σ lw ew nw wA M' := ⟨hV.1, fun i hi => by rw [h]; exact hV.2 i hi⟩
theorem GV_congr {lg eg ng : Nat} {gA : Nat → Nat} (h : ∀ s, 30 ≤ s → s ≤ 33 → M' s = M s) (hV : GV cy P σ lg eg ng gA M) : GV cy P σ lg eg ng gA M' := ⟨hV.1, fun i hi => by rw [h 30 (by decide) (by decide), h 31 (by decide) (by decide), h 32 (by decide) (by decide), h 33 (by decide) (by decide)]; exact hV.2 i hi⟩
theorem BV_congr {lb eb nb np : Nat} {bA pA : Nat → Nat} (h : M' 35 = M 35) (hV : BV cy P σ lb eb nb bA pA np M) : BV cy P σ lb eb nb bA pA np M' := ⟨hV.1, fun i hi => by
  obtain ⟨k, h1, h2, h3⟩ := hV.2.1 i hi
  refine ⟨k, h1, by rw [h]; exact h2, ?_⟩
  rw [h3]
  simp only [oBt, hrC, h], hV.2.2⟩
theorem BV_np {lb eb nb np np' : Nat} {bA pA pA' : Nat → Nat} (hn : np ≤ np') (hA : ∀ i, i < np → pA' i = pA i) (hV : BV cy P σ lb eb nb bA pA np M) : BV cy P σ lb eb nb bA pA' np' M := ⟨hV.1, fun i hi => by
  obtain ⟨k, h1, h2, h3⟩ := hV.2.1 i hi
  exact ⟨k, by omega, h2, by rw [hA k h1]; exact h3⟩, hV.2.2⟩
theorem BK_keep {r : Nat} {a : BA} {sz : Nat} {F C : Nat → Int32} {Kd Nm : Nat → Nat → Int32} (h : BK cy σ r a sz F C Kd Nm) (hk : ∀ y e, σ y = some e → (y = r ∨ BkIn a y) → σ' y = some e) : BK cy σ' r a sz F C Kd Nm := by
  obtain ⟨b1, b2, b3, b4, b5, b6, b7, b8⟩ := h
  exact ⟨hk _ _ b1 (Or.inl rfl), hk _ _ b2 (Or.inr (Or.inl rfl)), hk _ _ b3 (Or.inr (Or.inr (Or.inl rfl))), hk _ _ b4 (Or.inr (Or.inr (Or.inr (Or.inl rfl)))), hk _ _ b5 (Or.inr (Or.inr (Or.inr (Or.inr (Or.inl rfl))))), fun i hi => hk _ _ (b6 i hi) (Or.inr (Or.inr (Or.inr (Or.inr (Or.inr (Or.inl ⟨i, hi, rfl⟩)))))), fun i hi => hk _ _ (b7 i hi) (Or.inr (Or.inr (Or.inr (Or.inr (Or.inr (Or.inr ⟨i, hi, rfl⟩)))))), b8⟩
/-- the kinds of a book's cells -/
theorem bk_kind {r : Nat} {a : BA} {sz : Nat} {F C : Nat → Int32} {Kd Nm : Nat → Nat → Int32} (h : BK cy σ r a sz F C Kd Nm) {y : Nat} {e : va_E} (hy : σ y = some e) (hi : y = r ∨ BkIn a y) : (∃ vs, e = .inr (6, vs)) ∨ (∃ n f, n ≤ 8 ∧ e = oInts cy n f) ∨ ∃ f, (y = a.2.2.1 ∨ y = a.2.2.2.1) ∧ e = oRows cy f := by
  obtain ⟨b1, b2, b3, b4, b5, b6, b7, b8⟩ := h
  rcases hi with rfl | rfl | rfl | rfl | rfl | ⟨i, hi, rfl⟩ | ⟨i, hi, rfl⟩
  · rw [b1] at hy; cases hy; exact Or.inl ⟨_, rfl⟩
  · rw [b2] at hy; cases hy; exact Or.inr (Or.inl ⟨8, _, by decide, rfl⟩)
  · rw [b3] at hy; cases hy; exact Or.inr (Or.inl ⟨8, _, by decide, rfl⟩)
  · rw [b4] at hy; cases hy; exact Or.inr (Or.inr ⟨_, Or.inl rfl, rfl⟩)
  · rw [b5] at hy; cases hy; exact Or.inr (Or.inr ⟨_, Or.inr rfl, rfl⟩)
  · rw [b6 i hi] at hy; cases hy; exact Or.inr (Or.inl ⟨4, _, by decide, rfl⟩)
  · rw [b7 i hi] at hy; cases hy; exact Or.inr (Or.inl ⟨4, _, by decide, rfl⟩)
/-- a book is kept where an object that is no book is written -/
theorem BK_obj {r : Nat} {a : BA} {sz : Nat} {F C : Nat → Int32} {Kd Nm : Nat → Nat → Int32} (h : BK cy σ r a sz F C Kd Nm) {q k : Nat} {vs : List Value} {e' : va_E} (h0 : σ q = some (.inr (k, vs))) (h6 : k ≠ 6) : BK cy (hup σ q e') r a sz F C Kd Nm := by
  refine BK_keep h (fun y e hy hi => ?_)
  by_cases hq : y = q
  · subst hq
    rw [h0] at hy
    cases hy
    rcases bk_kind h h0 hi with ⟨vs', z⟩ | ⟨n, f, -, z⟩ | ⟨f, -, z⟩
    · cases z; exact absurd rfl h6
    · cases z
    · cases z
  · rw [hup_ne _ _ hq]; exact hy
theorem BK_tape {r : Nat} {a : BA} {sz : Nat} {F C : Nat → Int32} {Kd Nm : Nat → Nat → Int32} (h : BK cy σ r a sz F C Kd Nm) {q : Nat} {f : Nat → Int32} {e' : va_E} (h0 : σ q = some (oInts cy 400 f)) : BK cy (hup σ q e') r a sz F C Kd Nm := by
  refine BK_keep h (fun y e hy hi => ?_)
  by_cases hq : y = q
  · subst hq
    rw [h0] at hy
    cases hy
    rcases bk_kind h h0 hi with ⟨vs', z⟩ | ⟨n, f, hn, z⟩ | ⟨f, -, z⟩
    · cases z
    · simp only [Sum.inl.injEq, Prod.mk.injEq] at z
      omega
    · simp at z
  · rw [hup_ne _ _ hq]; exact hy
theorem BK_new {r : Nat} {a : BA} {sz : Nat} {F C : Nat → Int32} {Kd Nm : Nat → Nat → Int32} (h : BK cy σ r a sz F C Kd Nm) (hk : ∀ y e, σ y = some e → σ' y = some e) : BK cy σ' r a sz F C Kd Nm := BK_keep h (fun y e h1 _ => hk y e h1)
/-- the rows of two lists of other things lie apart -/
theorem el_ne {q1 el1 n1 c1 q2 el2 n2 c2 : Nat} {g1 g2 : Nat → Nat} (h1 : AL cy P σ q1 el1 n1 g1 c1) (h2 : AL cy P σ q2 el2 n2 g2 c2) (hc : c1 ≠ c2) (hn : 0 < n1) : el1 ≠ el2 := by
  intro e
  rcases h1.2.2.1 with ⟨h, -⟩ | ⟨-, z1, f1, hf1, hg1⟩
  · omega
  rcases h2.2.2.1 with ⟨-, h⟩ | ⟨hn2, -, f2, hf2, hg2⟩
  · exact z1 (e.trans h)
  rw [e, hf2] at hf1
  simp only [Option.some.injEq, Sum.inl.injEq, Prod.mk.injEq, Sum.inr.injEq, true_and] at hf1
  have := hg1 0 hn
  rw [← hf1.2, hg2 0 hn2] at this
  obtain ⟨v1, k1⟩ := h1.2.2.2 0 hn
  obtain ⟨v2, k2⟩ := h2.2.2.2 0 hn2
  rw [← Option.some.inj this, k2] at k1
  cases k1
  exact hc rfl
theorem bk_el {r q el n ci : Nat} {g : Nat → Nat} {a : BA} {sz : Nat} {F C : Nat → Int32} {Kd Nm : Nat → Nat → Int32} (h : BK cy σ r a sz F C Kd Nm) (hA : AL cy P σ q el n g ci) (hn : 0 < n) : el ≠ a.2.2.1 ∧ el ≠ a.2.2.2.1 := by
  rcases hA.2.2.1 with ⟨h, -⟩ | ⟨-, z1, f1, hf1, hg1⟩
  · omega
  obtain ⟨v, hv⟩ := hA.2.2.2 0 hn
  constructor
  · intro e
    rw [e, h.2.2.2.1] at hf1
    simp only [Option.some.injEq, Sum.inl.injEq, Prod.mk.injEq, Sum.inr.injEq] at hf1
    have h1 := hg1 0 hn
    rw [← hf1.2.2] at h1
    have h2 := h.2.2.2.2.2.1 0 (by decide)
    rw [Option.some.inj h1, hv] at h2
    cases h2
  · intro e
    rw [e, h.2.2.2.2.1] at hf1
    simp only [Option.some.injEq, Sum.inl.injEq, Prod.mk.injEq, Sum.inr.injEq] at hf1
    have h1 := hg1 0 hn
    rw [← hf1.2.2] at h1
    have h2 := h.2.2.2.2.2.2.1 0 (by decide)
    rw [Option.some.inj h1, hv] at h2
    cases h2
/-- what an add to a list leaves as it was -/
theorem keep_add {q el el' n ci x : Nat} {g : Nat → Nat} {F : Nat → va_E → Prop} (hA : AL cy P σ q el n g ci) (hAd : Added cy P σ σ' q el el' n g x) (hq : ∀ vs, ¬ F q (.inr (0, vs))) (hel : 0 < n → ∀ cap f, ¬ F el (oRefs cy cap f)) : ∀ y e, σ y = some e → F y e → σ' y = some e := by
  intro y e hy hF
  obtain ⟨-, -, hz, h4, h5⟩ := hAd
  by_cases h1 : y = q
  · subst h1
    obtain ⟨mc, h6⟩ := hA.1
    rw [h6] at hy
    cases hy
    exact absurd hF (hq _)
  · by_cases h2 : y = el'
    · subst h2
      rcases h4 with h4 | h4
      · subst h4
        rcases hA.2.2.1 with ⟨-, h⟩ | ⟨hn, -, f, hf, -⟩
        · exact absurd h hz
        · rw [hf] at hy
          cases hy
          exact absurd hF (hel hn _ _)
      · rw [h4] at hy; cases hy
    · rw [h5 y h1 h2]; exact hy
theorem AL_add {q el el' n ci x : Nat} {g : Nat → Nat} {vs : List Value} (hA : AL cy P σ q el n g ci) (hAd : Added cy P σ σ' q el el' n g x) (hx : σ x = some (.inr (ci, vs))) (h0 : ci ≠ 0) (hn : n < 244) : AL cy P σ' q el' (n + 1) (fun i => if i = n then x else g i) ci := by
  have hk : ∀ y e, σ y = some e → (∃ vs, e = .inr (ci, vs)) → σ' y = some e := keep_add (F := fun y e => ∃ vs, e = .inr (ci, vs)) hA hAd (fun vs z => by obtain ⟨v, z⟩ := z; cases z; exact h0 rfl) (fun _ cap f z => by obtain ⟨v, z⟩ := z; cases z)
  obtain ⟨a1, ⟨f, a2, a3⟩, a4, -, -⟩ := hAd
  refine ⟨a1, by omega, Or.inr ⟨by omega, a4, f, a2, a3⟩, fun i hi => ?_⟩
  by_cases h : i = n
  · simp only [if_pos h]; exact ⟨vs, hk _ _ hx ⟨vs, rfl⟩⟩
  · simp only [if_neg h]
    obtain ⟨v, hv⟩ := hA.2.2.2 i (by omega)
    exact ⟨v, hk _ _ hv ⟨v, rfl⟩⟩
theorem BK_add {q el el' n ci x r : Nat} {g : Nat → Nat} {a : BA} {sz : Nat} {F C : Nat → Int32} {Kd Nm : Nat → Nat → Int32} (h : BK cy σ r a sz F C Kd Nm) (hA : AL cy P σ q el n g ci) (hAd : Added cy P σ σ' q el el' n g x) : BK cy σ' r a sz F C Kd Nm := by
  refine BK_keep h (fun y e hy hi => keep_add (F := fun y e => σ y = some e ∧ (y = r ∨ BkIn a y)) hA hAd (fun vs z => ?_) (fun hn cap f z => ?_) y e hy ⟨hy, hi⟩)
  · rcases bk_kind h z.1 z.2 with ⟨vs', z⟩ | ⟨n, f, -, z⟩ | ⟨f, -, z⟩
    · cases z
    · cases z
    · cases z
  · have hne := bk_el h hA hn
    rcases bk_kind h z.1 z.2 with ⟨vs', z⟩ | ⟨n, f, -, z⟩ | ⟨f, z1, -⟩
    · cases z
    · simp at z
    · rcases z1 with z1 | z1
      · exact hne.1 z1
      · exact hne.2 z1
end CG
