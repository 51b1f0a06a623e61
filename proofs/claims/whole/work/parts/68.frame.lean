/-! ===== the frame rule: a contract holds beside whatever else lies in the heap ===== -/
def sub (σ1 σ : Hp) : Prop := ∀ a e, σ1 a = some e → σ a = some e
def mrg (τ σ1 σ : Hp) : Hp := fun a => match τ a with
  | some e => some e
  | none => if (σ1 a).isSome then none else σ a
def fresh (τ σ1 σ : Hp) : Prop := ∀ a, τ a ≠ none → σ1 a ≠ none ∨ σ a = none
theorem Okh_to {s0 : State} {D : va_G} {σ : Hp} {H : Heap} (h : Okh s0 D σ H) : ∃ L : List Nat, L.Nodup ∧ (∀ a, σ a ≠ none ↔ a ∈ L) ∧ (∀ a e, σ a = some e → va_at D vwCl (a, e) H) ∧ ∀ a, σ a ≠ none → s0.heap.size ≤ a := by
  obtain ⟨L, f, i1, hP, hD⟩ := h
  refine ⟨L, ?_, fun a => ?_, fun a e he => ?_, fun a ha => ?_⟩
  · unfold List.Nodup
    rw [List.pairwise_iff_getElem]
    intro i j hi hj hij e
    have h1 : (va_pl L f)[i]? = some (L[i], f L[i]) := by unfold va_pl; rw [List.getElem?_map, List.getElem?_eq_getElem hi]; rfl
    have h2 : (va_pl L f)[j]? = some (L[j], f L[j]) := by unfold va_pl; rw [List.getElem?_map, List.getElem?_eq_getElem hj]; rfl
    have := hD.1 i j _ _ h1 h2 e
    omega
  · cases hv : σ a with
    | none =>
      refine ⟨fun z => absurd rfl z, fun z => ?_⟩
      have := (i1 a (f a)).mpr ⟨z, rfl⟩
      rw [hv] at this; cases this
    | some e => exact ⟨fun _ => ((i1 a e).mp hv).1, fun _ z => by cases z⟩
  · obtain ⟨ha, rfl⟩ := (i1 a e).mp he
    obtain ⟨k, hk⟩ := pl_at (f := f) ha
    exact hP k _ hk
  · cases hv : σ a with
    | none => exact absurd hv ha
    | some e =>
      obtain ⟨k, hk⟩ := pl_at (f := f) ((i1 a e).mp hv).1
      exact hD.2 k _ hk
theorem Okh_of {s0 : State} {D : va_G} {σ : Hp} {H : Heap} {L : List Nat} (h1 : L.Nodup) (h2 : ∀ a, σ a ≠ none ↔ a ∈ L) (h3 : ∀ a e, σ a = some e → va_at D vwCl (a, e) H) (h4 : ∀ a, σ a ≠ none → s0.heap.size ≤ a) : Okh s0 D σ H := by
  have hs : ∀ a ∈ L, σ a = some ((σ a).getD (.inr (0, []))) := fun a ha => by
    cases hv : σ a with
    | none => exact absurd hv ((h2 a).mpr ha)
    | some e => rfl
  refine ⟨L, fun a => (σ a).getD (.inr (0, [])), fun a e => ⟨fun he => ⟨(h2 a).mp (by rw [he]; exact fun z => by cases z), by dsimp only; rw [he]; rfl⟩, fun ⟨ha, he⟩ => by dsimp only at he; rw [hs a ha, he]⟩, fun k q hk => ?_, fun i j p q hi hj e => ?_, fun k q hk => ?_⟩
  · obtain ⟨ha, e⟩ := pl_mem hk
    have := h3 q.1 _ (hs q.1 ha)
    rw [← e] at this
    exact this
  · unfold va_pl at hi hj
    rw [List.getElem?_map] at hi hj
    cases li : L[i]? with
    | none => rw [li] at hi; cases hi
    | some a =>
      cases lj : L[j]? with
      | none => rw [lj] at hj; cases hj
      | some b =>
        rw [li] at hi; rw [lj] at hj
        cases hi; cases hj
        obtain ⟨hi', ei⟩ := List.getElem?_eq_some_iff.mp li
        obtain ⟨hj', ej⟩ := List.getElem?_eq_some_iff.mp lj
        unfold List.Nodup at h1
        rw [List.pairwise_iff_getElem] at h1
        rcases Nat.lt_trichotomy i j with z | z | z
        · exact absurd (by rw [ei, ej]; exact e) (h1 i j hi' hj' z)
        · exact z
        · exact absurd (by rw [ei, ej]; exact e.symm) (h1 j i hj' hi' z)
  · exact h4 q.1 ((h2 q.1).mpr (pl_mem hk).1)
theorem Okh_sub {s0 : State} {D : va_G} {σ σ1 : Hp} {H : Heap} (h : Okh s0 D σ H) (hs : sub σ1 σ) : Okh s0 D σ1 H := by
  obtain ⟨L, g1, g2, g3, g4⟩ := Okh_to h
  have hn : ∀ a, σ1 a ≠ none → σ a ≠ none := fun a ha => by
    cases hv : σ1 a with
    | none => exact absurd hv ha
    | some e => rw [hs a e hv]; exact fun z => by cases z
  refine Okh_of (L := L.filter (fun a => (σ1 a).isSome)) (List.Pairwise.filter _ g1) (fun a => ?_) (fun a e he => g3 a e (hs a e he)) (fun a ha => g4 a (hn a ha))
  rw [List.mem_filter]
  constructor
  · intro ha
    refine ⟨(g2 a).mp (hn a ha), ?_⟩
    cases hv : σ1 a with
    | none => exact absurd hv ha
    | some e => rfl
  · intro ha z
    rw [z] at ha
    exact absurd ha.2 (by simp)
theorem Okh_mrg {s0 : State} {D : va_G} {σ σ1 τ : Hp} {H H' : Heap} (h : Okh s0 D σ H) (hs : sub σ1 σ) (ht : Okh s0 D τ H') (hd : ∀ a, τ a ≠ none → Aof σ1 H.size a) (hf : ∀ q : Nat, q < H.size → ¬ Aof σ1 H.size q → H'[q]? = H[q]?) : Okh s0 D (mrg τ σ1 σ) H' ∧ fresh τ σ1 σ := by
  obtain ⟨L, g1, g2, g3, g4⟩ := Okh_to h
  obtain ⟨L', k1, k2, k3, k4⟩ := Okh_to ht
  have hlt : ∀ a, σ a ≠ none → a < H.size := fun a ha => by
    cases hv : σ a with
    | none => exact absurd hv ha
    | some e => exact (g3 a e hv).lt
  have hm : ∀ a, mrg τ σ1 σ a ≠ none ↔ τ a ≠ none ∨ (σ1 a = none ∧ σ a ≠ none) := fun a => by
    unfold mrg
    cases hv : τ a with
    | some e => simp
    | none =>
      cases h1 : σ1 a with
      | some e => simp
      | none => simp
  refine ⟨Okh_of (L := L' ++ L.filter (fun a => (σ1 a).isNone)) ?_ (fun a => ?_) (fun a e he => ?_) (fun a ha => ?_), fun a ha => ?_⟩
  · rw [List.nodup_append]
    refine ⟨k1, List.Pairwise.filter _ g1, fun a ha b hb e => ?_⟩
    subst e
    rw [List.mem_filter] at hb
    have h1 : σ1 a = none := by simpa using hb.2
    rcases hd a ((k2 a).mpr ha) with z | z
    · exact z h1
    · have := hlt a ((g2 a).mpr hb.1); omega
  · rw [hm, List.mem_append, List.mem_filter, ← k2, ← g2]
    simp
    exact or_congr Iff.rfl And.comm
  · unfold mrg at he
    cases hv : τ a with
    | some e' =>
      rw [hv] at he
      cases he
      exact k3 a e hv
    | none =>
      rw [hv] at he
      dsimp only at he
      split at he
      · cases he
      · rename_i h1
        have hn1 : σ1 a = none := by simpa using h1
        have hl := hlt a (by rw [he]; exact fun z => by cases z)
        refine (g3 a e he).kept (hf a hl (fun z => ?_))
        rcases z with z | z
        · exact z hn1
        · omega
  · rcases (hm a).mp ha with z | z
    · exact k4 a z
    · exact g4 a z.2
  · rcases hd a ha with z | z
    · exact Or.inl z
    · right
      cases hv : σ a with
      | none => rfl
      | some e => have := hlt a (by rw [hv]; exact fun z => by cases z); omega
/-- a method, seen beside the rest of the heap -/
def fr (g : Sg) : Sg := (g.1, g.2.1, fun as σ K KX => ∃ σ1, sub σ1 σ ∧ g.2.1 as σ1 = g.2.1 as σ ∧ g.2.2 as σ1 (fun v τ => fresh τ σ1 σ → K v (mrg τ σ1 σ)) (fun E τ => fresh τ σ1 σ → KX E (mrg τ σ1 σ)))
theorem con_fr {l : Launch} {s0 : State} {D : va_G} {y : MethodName} {w : Cond} {frn lo : Nat} {g : Sg} (h : Con l s0 D y w frn lo g) : Con l s0 D y w frn lo (fr g) := by
  intro as σ K KX sz hlen hT
  obtain ⟨σ1, hs, hb, hT⟩ := hT
  have hm := h as σ1 _ _ sz hlen hT
  rw [hb] at hm
  have hAof : ∀ q, Aof σ1 sz q → Aof σ sz q := fun q hq => by
    rcases hq with z | z
    · left
      cases hv : σ1 q with
      | none => exact absurd hv z
      | some e => rw [hs q e hv]; exact fun z => by cases z
    · exact Or.inr z
  intro p e h1 h2 h3 s m args below h4 h5 h6 h7
  obtain ⟨rfl, hsz, hw1, hw2, hw3, hw4⟩ := h6
  obtain ⟨n, o, a1, a2, a3, a4⟩ := hm p e h1 h2 h3 s m as.toArray below h4 h5 ⟨rfl, hsz, hw1, hw2, hw3, Okh_sub hw4 hs⟩ h7
  refine ⟨n, o, a1, a2, a3, ?_⟩
  subst hsz
  rcases a4 with ⟨⟨⟨v, τ, hv, hK, hO, hd⟩, hF⟩, L, hL, hfree⟩ | ⟨q, hq, E, ce, L, ⟨⟨τ, hK, hO, hd⟩, hF⟩, c1, c2, c3, c4, c5, c6⟩
  · obtain ⟨m1, m2⟩ := Okh_mrg hw4 hs hO hd hF.2
    refine Or.inl ⟨⟨⟨v, mrg τ σ1 σ, hv, hK m2, m1, fun a ha => ?_⟩, hF.1, fun q hq hA => hF.2 q hq (fun z => hA (hAof q z))⟩, L, hL, fun q hq => hAof _ (hfree q hq)⟩
    unfold mrg at ha
    cases ht : τ a with
    | some e => exact hAof a (hd a (by rw [ht]; exact fun z => by cases z))
    | none =>
      rw [ht] at ha
      dsimp only at ha
      split at ha
      · exact absurd rfl ha
      · exact Or.inl ha
  · obtain ⟨m1, m2⟩ := Okh_mrg hw4 hs hO hd hF.2
    refine Or.inr ⟨q, hq, E, ce, L, ⟨⟨mrg τ σ1 σ, hK m2, m1, fun a ha => ?_⟩, hF.1, fun q hq hA => hF.2 q hq (fun z => hA (hAof q z))⟩, c1, c2, c3, c4, c5, fun z hz => hAof _ (c6 z hz)⟩
    unfold mrg at ha
    cases ht : τ a with
    | some e => exact hAof a (hd a (by rw [ht]; exact fun z => by cases z))
    | none =>
      rw [ht] at ha
      dsimp only at ha
      split at ha
      · exact absurd rfl ha
      · exact Or.inl ha
