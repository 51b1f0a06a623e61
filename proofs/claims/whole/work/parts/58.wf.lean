/-! ===== what holds of every state is kept ===== -/
theorem WF_tick {N : Nat → Nat} {M : Ms} (h : WF N M) (h1 : N 1 < 2000) : WF (tickM (N, M)).1 (tickM (N, M)).2 := ⟨NB_tick (S := (N, M)) h.1 h1, h.2⟩
theorem snd_ok {M : Ms} {np w0 : Nat} {now co gb gl wi : Int32} (hnow : rng now 0 2000) (h0 : ∀ w, w < w0 → rng (M 25 (5 * w)) 0 2000 ∧ (M 25 (5 * w + 2) = 0 ∨ M 25 (5 * w + 2) = 1)) : ∀ k, (∀ i, i < k → M 13 i = 0 ∨ M 13 i = 1) → ∀ w, w < (sndM M np w0 now co gb gl wi k).1 → rng ((sndM M np w0 now co gb gl wi k).2 (5 * w)) 0 2000 ∧ ((sndM M np w0 now co gb gl wi k).2 (5 * w + 2) = 0 ∨ (sndM M np w0 now co gb gl wi k).2 (5 * w + 2) = 1)
  | 0, _, w, hw => h0 w hw
  | k + 1, hk, w, hw => by
    have ih := snd_ok (np := np) (co := co) (gb := gb) (gl := gl) (wi := wi) hnow h0 k (fun i hi => hk i (by omega))
    rw [sndM] at hw ⊢
    generalize sndM M np w0 now co gb gl wi k = S at ih hw ⊢
    split at hw
    · rename_i hc
      rw [if_pos hc]
      dsimp only at hw ⊢
      by_cases h : w = S.1
      · subst h
        obtain ⟨e1, e2, e3, e4, e5⟩ := addW_new (f := S.2) (w := S.1) (a := now) (b := co) (c := M 13 k) (d := nI k) (e := nI np)
        rw [e1, e3]
        exact ⟨hnow, hk k (by omega)⟩
      · rw [addW_old (by omega), addW_old (by omega)]
        exact ih w (by omega)
    · rename_i hc
      rw [if_neg hc]
      exact ih w hw
theorem WF_coast {N : Nat → Nat} {M : Ms} {w : Int32} {c : Nat} (h : WF N M) : WF (coastM w (N, M) c).1 (coastM w (N, M) c).2 := by
  unfold coastM
  split
  · obtain ⟨h1, h2, h3, h4, h5, h6, h7⟩ := h
    dsimp only
    refine ⟨⟨h1.1, h1.2.1, h1.2.2.1, h1.2.2.2.1, h1.2.2.2.2.1, ?_, h1.2.2.2.2.2.2⟩, h2, h3, fun v hv => ?_, h5, h6, h7⟩
    · rw [cu_same]; exact sndM_le h1.2.2.2.2.2.1 _
    · rw [cu_same] at hv
      rw [setR_same]
      exact snd_ok ⟨N 1, by omega, h1.1, rfl⟩ h4 (N 17) (fun i hi => (h5 i hi).1) v hv
  · exact h
theorem WF_off {N : Nat → Nat} {M : Ms} {w : Int32} (h : WF N M) : ∀ c, WF (offM w (N, M) c).1 (offM w (N, M) c).2
  | 0 => h
  | c + 1 => WF_coast (N := (offM w (N, M) c).1) (M := (offM w (N, M) c).2) (WF_off h c)
/-- a change of a boat's numbers but its port -/
def okB (n i : Nat) (f g : Nat → Int32) : Prop := ∀ j, (j ≤ 8 * i ∨ 8 * i + 8 ≤ j) → g j = f j
theorem WF_row {N : Nat → Nat} {M : Ms} {i : Nat} {g : Nat → Int32} (h : WF N M) (hi : i < N 36) (hg : okB (N 36) i (M 35) g) : WF N (setR M 35 g) := by
  obtain ⟨h1, h2, h3, h4, h5, h6, h7⟩ := h
  refine ⟨h1, h2, h3, h4, h5, fun b hb => ?_, fun j hj => ?_⟩
  · rw [setR_same, hg (8 * b) (by omega)]; exact h6 b hb
  · rw [setR_same, hg j (by omega)]; exact h7 j hj
theorem WF_go {N : Nat → Nat} {M : Ms} {i : Nat} (h : WF N M) (hi : i < N 36) : WF N (goM (N, M) i).2 := by
  have a1 : ∀ {M : Ms}, WF N M → WF N (homeM (nI (N 1)) i M) := fun {M} h => by
    unfold homeM
    split
    · exact WF_row h hi (fun j hj => pk_un (by omega))
    · exact h
  have a2 : ∀ {M : Ms} {k : Nat}, WF N M → WF N (sailM (N 26) (nI (N 1)) k i M) := fun {M k} h => by
    unfold sailM
    split
    · split
      · exact WF_row h hi (fun j hj => by rw [pk_un (by omega), pk_un (by omega)])
      · exact WF_row h hi (fun j hj => by rw [pk_un (by omega), pk_un (by omega)])
    · exact h
  have a3 : ∀ {M : Ms} {k : Nat}, WF N M → WF N (downM (N 34) (nI (N 1)) k i M) := fun {M k} h => by
    unfold downM
    split
    · exact WF_row h hi (fun j hj => by rw [pk_un (by omega), pk_un (by omega)])
    · exact h
  exact a3 (a2 (a1 h))
theorem WF_boats {N : Nat → Nat} {M : Ms} (h : WF N M) : ∀ i, i ≤ N 36 → WF (boatsM (N, M) i).1 (boatsM (N, M) i).2
  | 0, _ => h
  | i + 1, hi => by
    have ih := WF_boats h i (by omega)
    have e : (boatsM (N, M) i).1 = N := boatsM_1 i
    have := WF_go (i := i) ih (by rw [e]; omega)
    exact this
theorem WF_offi {N : Nat → Nat} {M : Ms} (h : WF N M) : WF (offiM (N, M)).1 (offiM (N, M)).2 := by
  unfold offiM
  split
  · exact WF_off h 4
  · exact h
theorem WF_hour {N : Nat → Nat} {M : Ms} (h : WF N M) (h1 : N 1 < 2000) : WF (hourM (N, M)).1 (hourM (N, M)).2 := by
  have a := WF_offi (WF_tick h h1)
  unfold hourM
  refine WF_boats a _ ?_
  show N 36 ≤ (offiM (tickM (N, M))).1 36
  rw [offiM_n.1 36 (by decide), tick_ne (by decide)]
  exact Nat.le_refl _
theorem WF_hrs : ∀ {n : Nat} {S : Sx}, WF S.1 S.2 → WF (hrsM n S).1 (hrsM n S).2
  | 0, S, h => h
  | n + 1, S, h => by
    unfold hrsM
    split
    · rename_i h2
      exact WF_hrs (WF_hour (N := S.1) (M := S.2) h h2)
    · exact h
theorem WF_port {N : Nat → Nat} {M : Ms} {a b c d : Int32} (h : WF N M) (hc : portC a b c d) (hn : N 6 < 12) : WF (cu N 6 (N 6 + 1)) (portM M (N 6) a b c d) := by
  obtain ⟨h1, h2, h3, h4, h5, h6, h7⟩ := h
  have e := fun s hs => portM_ne (M := M) (n := N 6) (a := a) (b := b) (c := c) (d := d) (s := s) hs
  have rg : ∀ {v : Int32} {z : Int32} {k : Nat}, z.toInt = k → 0 ≤ v → v ≤ z → rng v 0 k := fun hz v0 v1 => by
    obtain ⟨j, hj, ej⟩ := nI_of2 hz (fun q => absurd v0 (Int32.not_le.mpr q)) v1
    exact ⟨j, by omega, hj, ej⟩
  refine ⟨⟨h1.1, ?_, h1.2.2⟩, fun p hp => ?_, fun r hr => ?_, fun w hw => ?_, fun k hk => ?_, fun q hq => ?_, fun j hj => ?_⟩
  · rw [cu_same]; omega
  · rw [cu_same] at hp
    by_cases hpn : p = N 6
    · subst hpn
      obtain ⟨e1, e2, e3, e4⟩ := portM_new (M := M) (n := N 6) (a := a) (b := b) (c := c) (d := d)
      rw [e1, e2, e3, e4]
      exact ⟨rg (z := 15) (by decide) hc.1.1.1 hc.1.1.2, rg (z := 15) (by decide) hc.1.2.1 hc.1.2.2, rg (z := 3) (by decide) hc.2.1.1 hc.2.1.2, rg (z := 12) (by decide) hc.2.2.1 hc.2.2.2⟩
    · obtain ⟨e1, e2, e3, e4⟩ := portM_at (M := M) (n := N 6) (i := p) (a := a) (b := b) (c := c) (d := d) hpn
      rw [e1, e2, e3, e4]
      exact h2 p (by omega)
  · rw [e 7 (by decide), e 9 (by decide), e 10 (by decide)]
    obtain ⟨⟨p, hp, ep⟩, g2⟩ := h3 r hr
    exact ⟨⟨p, by rw [cu_same]; omega, ep⟩, g2⟩
  · rw [e 25 (by decide)]; exact h4 w hw
  · rw [e 13 (by decide), e 14 (by decide), e 15 (by decide)]; exact h5 k hk
  · rw [e 35 (by decide)]
    obtain ⟨p, hp, ep⟩ := h6 q hq
    exact ⟨p, by rw [cu_same]; omega, ep⟩
  · rw [e 35 (by decide)]; exact h7 j hj
theorem WF_rep {N : Nat → Nat} {M : Ms} {k : Nat} {a b c : Int32} (h : WF N M) (hc : repC (nI (N 1)) a b c) (hk : k < N 6) (hn : N 12 < 300) : WF (cu N 12 (N 12 + 1)) (repM M (N 12) (nI k) a b c (nI (N 1))) := by
  obtain ⟨h1, h2, h3, h4, h5, h6, h7⟩ := h
  have e := fun s hs => repM_ne (M := M) (n := N 12) (a := nI k) (b := a) (c := b) (d := c) (e := nI (N 1)) (s := s) hs
  refine ⟨⟨h1.1, h1.2.1, ?_, h1.2.2.2⟩, fun p hp => ?_, fun r hr => ?_, fun w hw => ?_, fun q hq => ?_, fun q hq => ?_, fun j hj => ?_⟩
  · rw [cu_same]; omega
  · rw [e 2 (by decide), e 3 (by decide), e 4 (by decide), e 5 (by decide)]; exact h2 p hp
  · rw [cu_same] at hr
    show (∃ p, p < N 6 ∧ upd (M 7) (N 12) (nI k) r = nI p) ∧ rng (upd (M 9) (N 12) b r) 9000 10500 ∧ rng (upd (M 10) (N 12) c r) 0 12
    by_cases hrn : r = N 12
    · subst hrn
      rw [pk_us, pk_us, pk_us]
      obtain ⟨j, hj, ej⟩ := nI_of2 (M := 10500) (n := 10500) (by decide) (fun q => absurd (Int32.le_trans (by decide) hc.2.1.1 : (0 : Int32) ≤ b) (Int32.not_le.mpr q)) hc.2.1.2
      obtain ⟨j2, hj2, ej2⟩ := nI_of2 (M := 12) (n := 12) (by decide) (fun q => absurd hc.2.2.1 (Int32.not_le.mpr q)) hc.2.2.2
      have hj9 : 9000 ≤ j := by
        have := hc.2.1.1
        rw [ej] at this
        exact (nI_leI (a := 9000) (by decide) (by omega)).mp this
      exact ⟨⟨k, hk, rfl⟩, ⟨j, hj9, hj, ej⟩, ⟨j2, by omega, hj2, ej2⟩⟩
    · rw [pk_un hrn, pk_un hrn, pk_un hrn]
      exact h3 r (by omega)
  · rw [e 25 (by decide)]; exact h4 w hw
  · rw [e 13 (by decide), e 14 (by decide), e 15 (by decide)]; exact h5 q hq
  · rw [e 35 (by decide)]; exact h6 q hq
  · rw [e 35 (by decide)]; exact h7 j hj
theorem WF_gale {N : Nat → Nat} {M : Ms} {a b c d : Int32} (h : WF N M) (hn : N 34 < 30) : WF (cu N 34 (N 34 + 1)) (galeM M (N 34) a b c d) := by
  obtain ⟨h1, h2, h3, h4, h5, h6, h7⟩ := h
  refine ⟨⟨h1.1, h1.2.1, h1.2.2.1, h1.2.2.2.1, h1.2.2.2.2.1, h1.2.2.2.2.2.1, ?_, h1.2.2.2.2.2.2.2⟩, h2, h3, h4, h5, h6, h7⟩
  rw [cu_same]; omega
theorem WF_boat {N : Nat → Nat} {M : Ms} {k : Nat} {b c : Int32} (h : WF N M) (hk : k < N 6) (hn : N 36 < 12) : WF (cu N 36 (N 36 + 1)) (boatM M (N 36) (nI k) b c) := by
  obtain ⟨h1, h2, h3, h4, h5, h6, h7⟩ := h
  refine ⟨⟨h1.1, h1.2.1, h1.2.2.1, h1.2.2.2.1, h1.2.2.2.2.1, h1.2.2.2.2.2.1, h1.2.2.2.2.2.2.1, ?_⟩, h2, h3, h4, h5, fun q hq => ?_, fun j hj => ?_⟩
  · rw [cu_same]; omega
  · rw [cu_same] at hq
    unfold boatM
    rw [setR_same]
    by_cases hqn : q = N 36
    · subst hqn
      rw [pk_un (by omega), pk_un (by omega), pk_us]
      exact ⟨k, hk, rfl⟩
    · rw [pk_un (by omega), pk_un (by omega), pk_un (by omega)]
      exact h6 q (by omega)
  · rw [cu_same] at hj
    unfold boatM
    rw [setR_same, pk_un (by omega), pk_un (by omega), pk_un (by omega)]
    exact h7 j (by omega)
theorem WF_trip {N : Nat → Nat} {M : Ms} {i : Nat} {x n : Int32} (h : WF N M) (hi : i < N 36) : WF N (tripM M i x n) := WF_row h hi (fun j hj => by rw [pk_un (by omega), pk_un (by omega), pk_un (by omega)])
theorem WF_end {N : Nat → Nat} {M : Ms} {k : Nat} (h : WF N M) (hk : k ≤ N 19) : WF (cu N 19 k) M := by
  obtain ⟨h1, h2⟩ := h
  refine ⟨⟨h1.1, h1.2.1, h1.2.2.1, h1.2.2.2.1, ?_, h1.2.2.2.2.2⟩, h2⟩
  rw [cu_same]
  have := h1.2.2.2.2.1
  omega
theorem WF_0 : WF (fun _ => 0) M0 := ⟨⟨by decide, by decide, by decide, by decide, by decide, by decide, by decide, by decide⟩, fun p hp => absurd hp (Nat.not_lt_zero _), fun p hp => absurd hp (Nat.not_lt_zero _), fun p hp => absurd hp (Nat.not_lt_zero _), fun p hp => absurd hp (Nat.not_lt_zero _), fun p hp => absurd hp (Nat.not_lt_zero _), fun j _ => rfl⟩
