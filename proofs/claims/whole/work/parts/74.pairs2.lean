/-! ===== rules, hours, and what needs no wrapper, on both sides ===== -/
theorem WF_cg {N N' : Nat → Nat} {M M' : Ms} (h : WF N M) (hB : NB N') (h6 : N' 6 = N 6) (h12 : N' 12 = N 12) (h26 : N' 26 = N 26) (h36 : N' 36 = N 36) (hs : ∀ s, (s < 13 ∨ s = 25 ∨ s = 35) → M' s = M s)
    (hr : ∀ k, k < N' 17 → (M' 13 k = 0 ∨ M' 13 k = 1) ∧ ∃ n, n ≤ 4 ∧ M' 14 k = nI n ∧ ∀ c, c < n → kind4 (M' 15 (4 * k + c))) : WF N' M' := by
  obtain ⟨-, g1, g2, g3, -, g4, g5⟩ := h
  refine ⟨hB, ?_, ?_, ?_, hr, ?_, ?_⟩
  · rw [h6, hs 2 (by decide), hs 3 (by decide), hs 4 (by decide), hs 5 (by decide)]; exact g1
  · rw [h12, h6, hs 7 (by decide), hs 9 (by decide), hs 10 (by decide)]; exact g2
  · rw [h26, hs 25 (by decide)]; exact g3
  · rw [h36, h6, hs 35 (by decide)]; exact g4
  · rw [h36, hs 35 (by decide)]; exact g5
theorem NB_19 {N : Nat → Nat} {v : Nat} (h : NB N) (hv : v ≤ 400) : NB (cu N 19 v) := ⟨h.1, h.2.1, h.2.2.1, h.2.2.2.1, hv, h.2.2.2.2.2⟩
theorem WF_feed {N : Nat → Nat} {M M' : Ms} (h : WF N M) (hn : N 19 + 20 ≤ 400) (hs : ∀ s, s ≠ 18 → s ≠ 24 → M' s = M s) : WF (cu N 19 (N 19 + 20)) M' := by
  refine WF_cg h (NB_19 h.1 hn) rfl rfl rfl rfl (fun s q => hs s (by omega) (by omega)) ?_
  rw [hs 13 (by decide) (by decide), hs 14 (by decide) (by decide), hs 15 (by decide) (by decide)]
  exact h.2.2.2.2.1
theorem WF_rlf {N : Nat → Nat} {M M' : Ms} (h : WF N M) (hs : sameX M M') (hu : sameU 8 M M') : WF (cu N 19 0) M' := by
  refine WF_cg h (NB_19 h.1 (by decide)) rfl rfl rfl rfl (fun s q => hs s (by omega) (by omega) (by omega) (by omega) (by omega)) (fun k hk => ?_)
  obtain ⟨g1, n, g2, g3, g4⟩ := h.2.2.2.2.1 k hk
  obtain ⟨u1, u2, u3⟩ := hu k (Nat.lt_of_lt_of_le hk h.1.2.2.2.1)
  exact ⟨by rw [u1]; exact g1, n, g2, by rw [u2]; exact g3, fun c hc => by rw [(u3 c (by omega)).1]; exact g4 c hc⟩
theorem WF_rlt {N : Nat → Nat} {M M' : Ms} (h : WF N M) (hs : sameX M M') (hr : RULs M' (rdText (M 18) (N 19)).2) : WF (cu (cu N 19 0) 17 (rdText (M 18) (N 19)).2.length) M' := by
  have hok := rdText_ok (f := M 18) (L := N 19)
  refine WF_cg h ⟨h.1.1, h.1.2.1, h.1.2.2.1, hok.1, Nat.zero_le _, h.1.2.2.2.2.2⟩ rfl rfl rfl rfl (fun s q => hs s (by omega) (by omega) (by omega) (by omega) (by omega)) (fun k hk => ?_)
  have hk' : k < (rdText (M 18) (N 19)).2.length := hk
  have he : (rdText (M 18) (N 19)).2[k]? = some ((rdText (M 18) (N 19)).2[k]) := List.getElem?_eq_getElem hk'
  obtain ⟨q1, q2, q3⟩ := hok.2 _ (List.getElem_mem hk')
  obtain ⟨r1, r2, r3⟩ := hr k _ _ he
  refine ⟨by rw [r1]; exact q1, _, q2, r2, fun c hc => ?_⟩
  rw [(r3 c _ (List.getElem?_eq_getElem hc)).1]
  exact q3 _ (List.getElem_mem hc)
theorem CX_24 {cy : Nat → ClassId} {P : Pm} {σ : Hp} {x : Nat} {N : Nat → Nat} {M M' : Ms} (h : CX cy P σ x N M) (hs : ∀ s, s ≠ 24 → M' s = M s) : CX cy P σ x N M' := by
  obtain ⟨co, gb, gl, wi, h⟩ := h
  obtain ⟨t, tb, pl, f, lp, ep, pA, rA, lw, ew, wA, lg, eg, gA, lb, eb, bA, o, b1, a1, F, C, Kd, Nm, b2, a2, s2, F2, C2, K2, N2, hx, h⟩ := h
  refine ⟨co, gb, gl, wi, t, tb, pl, f, lp, ep, pA, rA, lw, ew, wA, lg, eg, gA, lb, eb, bA, o, b1, a1, F, C, Kd, Nm, b2, a2, s2, F2, C2, K2, N2, by rw [hs 23 (by decide)]; exact hx, ?_⟩
  obtain ⟨hT, hf, hP, hW, hG, hB, ho, h1, hR, h2, hD, hL⟩ := h
  refine ⟨hT, by rw [hs 18 (by decide)]; exact hf, PV_congr (fun s _ _ => hs s (by omega)) hP, WV_congr (hs 25 (by decide)) hW, GV_congr (fun s _ _ => hs s (by omega)) hG, BV_congr (hs 35 (by decide)) hB, ho, h1, ?_, h2, hD, hL⟩
  unfold RUL
  rw [hs 13 (by decide), hs 14 (by decide), hs 15 (by decide), hs 16 (by decide)]
  exact hR
section PAIRS3
variable {cy : Nat → ClassId} {P : Pm} {o x m : Nat} {σ σc σm : Hp} {f : Nat → Int64} {N : Nat → Nat} {M : Ms} {th : Int32} {K1 : Option Value → Hp → Prop} {KX1 : String → Hp → Prop}
theorem pair_rules (hQ : LQ cy o σ σc σm f) (hC : CX cy P σc x N M) (hM : MX cy σm m th N M) (hW : WF N M) (h : ∀ e σ', MidL cy P o x m (N 1) (sp_X9_rules cy P) [.ref m] e σ' → K1 (some (.int e)) σ') : (sp_L_rules cy P).2.2 [.ref x, .ref o] σ K1 KX1 := by
  refine ⟨rfl, wr_go hQ rfl (fun K' KX' hK hX => ⟨rfl, CX_rcv hC, N, M, hC, ?_⟩)⟩
  by_cases hc : (rdText (M 18) (N 19)).1 = -1
  · exact ⟨fun z => absurd hc z, fun _ τ hC' => hK _ _ (fun σ' f' hQ' e9 => h _ _ (fun K2 KX2 h2 => fr_m hQ' rfl (fun K3 KX3 h3 => ⟨rfl, MX_rcv hM, N, M, th, hM, hW.1, fun z => absurd hc z, fun _ τ' M' hM' k1 k2 k3 => h3 _ _ (fun σ'' hQ'' => h2 _ _ ⟨_, _, _, _, _, hQ'', hC' M' k1 k2 k3, hM', WF_rlt hW k1 k3, rfl, fun _ => e9⟩)⟩)))⟩
  · exact ⟨fun _ τ hC' => hX 0 1 _ _ rfl rfl (fun σ' f' hQ' => h _ _ (fun K2 KX2 h2 => fr_m hQ' rfl (fun K3 KX3 h3 => ⟨rfl, MX_rcv hM, N, M, th, hM, hW.1, fun _ τ' M' hM' k1 k2 k3 => h3 _ _ (fun σ'' hQ'' => h2 _ _ ⟨_, _, _, _, _, hQ'', hC' M' k1 k2 (fun k hk => k3 k (Nat.lt_of_lt_of_le hk hW.1.2.2.2.1)), hM', WF_rlf hW k1 k3, rfl, fun z => absurd z (by decide)⟩), fun z => absurd z hc⟩))), fun z => absurd z hc⟩
theorem CX_now (hs : sub σc σ) (hC : CX cy P σc x N M) (h1 : N 1 ≤ 2000) : nowOf σc x = N 1 ∧ nowOf σ x = N 1 := by
  obtain ⟨co, gb, gl, wi, hC⟩ := hC
  obtain ⟨t, tb, pl, f, lp, ep, pA, rA, lw, ew, wA, lg, eg, gA, lb, eb, bA, o, b1, a1, F, C, Kd, Nm, b2, a2, s2, F2, C2, K2, N2, hx, -⟩ := hC
  have hx2 := hs _ _ hx
  unfold nowOf
  rw [hx, hx2]
  exact ⟨nI_clamp (by omega), nI_clamp (by omega)⟩
theorem pair_hours {n : Int32} {n1 : Nat} (hQ : LQ cy o σ σc σm f) (hC : CX cy P σc x N M) (hM : MX cy σm m th N M) (hW : WF N M) (g1 : ¬ (0 ≤ n ∧ n ≤ 200) → n1 = N 1) (g2 : ∀ k, n = nI k → k ≤ 200 → n1 = (hrsM k (N, M)).1 1) (h : ∀ e σ', MidL cy P o x m n1 (sp_X9_hours cy P) [.ref m, .int n] e σ' → K1 (some (.int e)) σ') : (sp_L_hours cy P).2.2 [.ref x, .int n, .ref o] σ K1 KX1 := by
  have hnow := CX_now hQ.1 hC hW.1.1
  have hb : (sp_X8_hours cy P).2.1 [.ref x, .int n] σc = (sp_X8_hours cy P).2.1 [.ref x, .int n] σ := by
    have e : ∀ τ : Hp, (sp_X8_hours cy P).2.1 [.ref x, .int n] τ = bHours [.ref x, .int n] τ := fun _ => rfl
    rw [e, e]
    unfold bHours
    dsimp only
    rw [hnow.1, hnow.2]
  refine ⟨rfl, wr_go hQ hb (fun K' KX' hK hX => ⟨rfl, CX_rcv hC, N, M, hC, hW.1, ?_⟩)⟩
  by_cases hc : 0 ≤ n ∧ n ≤ 200
  · refine ⟨fun z => absurd hc z, fun k e hk τ hC' => hK _ _ (fun σ' f' hQ' e9 => h _ _ (fun K2 KX2 h2 => fr_m hQ' rfl (fun K3 KX3 h3 => ⟨rfl, MX_rcv hM, N, M, th, hM, hW, fun z => absurd hc z, fun k2 e2 hk2 => ?_⟩)))⟩
    obtain rfl := nuq (n := 201) e e2 (by omega) (by omega) (by decide)
    exact fun τ' hM' => h3 _ _ (fun σ'' hQ'' => h2 _ _ ⟨_, _, _, _, _, hQ'', hC', hM', WF_hrs (S := (N, M)) hW, (g2 _ e hk).symm, fun _ => e9⟩)
  · have hno : ∀ k, n = nI k → k ≤ 200 → False := fun k e hk => hc (by subst e; exact ⟨nI_pos' (by omega), nI_le (b := 200) hk (by decide)⟩)
    exact ⟨fun _ => hX 0 1 _ _ rfl rfl (fun σ' f' hQ' => h _ _ (fun K2 KX2 h2 => fr_m hQ' rfl (fun K3 KX3 h3 => ⟨rfl, MX_rcv hM, N, M, th, hM, hW, fun _ τ' hM' => h3 _ _ (fun σ'' hQ'' => h2 _ _ ⟨_, _, _, _, _, hQ'', hC, hM', hW, (g1 hc).symm, fun z => absurd z (by decide)⟩), fun k e hk => (hno k e hk).elim⟩))), fun k e hk => (hno k e hk).elim⟩
/-- after a call on both sides without a wrapper -/
def EndD (cy : Nat → ClassId) (P : Pm) (o x m n1 : Nat) (r1 r2 : Int32) (σ : Hp) : Prop := r1 = r2 ∧ ∃ σc σm f N M th, LQ cy o σ σc σm f ∧ CX cy P σc x N M ∧ MX cy σm m th N M ∧ WF N M ∧ N 1 = n1
def MidD (cy : Nat → ClassId) (P : Pm) (o x m n1 : Nat) (g : Sg) (args : List Value) (r1 : Int32) (σ : Hp) : Prop := ∀ (K2 : Option Value → Hp → Prop) (KX2 : String → Hp → Prop), (∀ r σ', EndD cy P o x m n1 r1 r σ' → K2 (some (.int r)) σ') → (fr g).2.2 args σ K2 KX2
theorem duo_feed {a b c d e : Int32} (hQ : LQ cy o σ σc σm f) (hC : CX cy P σc x N M) (hM : MX cy σm m th N M) (hW : WF N M) (h : ∀ r σ', MidD cy P o x m (N 1) (sp_X9_feed cy P) [.ref m, .int a, .int b, .int c, .int d, .int e] r σ' → K1 (some (.int r)) σ') : (fr (sp_X8_feed cy P)).2.2 [.ref x, .int a, .int b, .int c, .int d, .int e] σ K1 KX1 := by
  refine fr_c hQ rfl (fun K' KX' hK => ⟨rfl, CX_rcv hC, N, M, hC, ?_⟩)
  by_cases hn : N 19 + 20 ≤ 400
  · refine ⟨fun z => absurd hn z, fun _ τ hC' => hK _ _ (fun σ' hQ' => h _ _ (fun K2 KX2 h2 => fr_m hQ' rfl (fun K3 KX3 h3 => ⟨rfl, MX_rcv hM, N, M, th, hM, hW.1, fun z => absurd hn z, fun _ τ' M' hM' k1 k2 k3 => h3 _ _ (fun σ'' hQ'' => h2 _ _ ⟨rfl, _, _, _, _, _, _, hQ'', CX_24 (hC' (M' 18) k2 k3) (fun s hs => ?_), hM', WF_feed hW hn k1, rfl⟩)⟩)))⟩
    by_cases h18 : s = 18
    · subst h18; simp [setR]
    · rw [k1 s h18 hs]; simp [setR, h18]
  · exact ⟨fun _ => hK _ _ (fun σ' hQ' => h _ _ (fun K2 KX2 h2 => fr_m hQ' rfl (fun K3 KX3 h3 => ⟨rfl, MX_rcv hM, N, M, th, hM, hW.1, fun _ τ' hM' => h3 _ _ (fun σ'' hQ'' => h2 _ _ ⟨rfl, _, _, _, _, _, _, hQ'', hC, hM', hW, rfl⟩), fun z => absurd z hn⟩))), fun z => absurd z hn⟩
theorem duo_end {n : Int32} (hQ : LQ cy o σ σc σm f) (hC : CX cy P σc x N M) (hM : MX cy σm m th N M) (hW : WF N M) (h : ∀ r σ', MidD cy P o x m (N 1) (sp_X9_end cy P) [.ref m, .int n] r σ' → K1 (some (.int r)) σ') : (fr (sp_X8_end cy P)).2.2 [.ref x, .int n] σ K1 KX1 := by
  refine fr_c hQ rfl (fun K' KX' hK => ⟨rfl, CX_rcv hC, N, M, hC, ?_⟩)
  have h19 := hW.1.2.2.2.2.1
  by_cases hn : n < 0 ∨ nI (N 19) < n
  · have hno : ∀ k, n = nI k → k ≤ N 19 → False := fun k e hk => by
      subst e
      rcases hn with z | z
      · exact absurd z (nI_pos (by omega))
      · exact absurd z (nI_nlt hk (by omega))
    exact ⟨fun _ => hK _ _ (fun σ' hQ' => h _ _ (fun K2 KX2 h2 => fr_m hQ' rfl (fun K3 KX3 h3 => ⟨rfl, MX_rcv hM, N, M, th, hM, hW.1, fun _ τ' hM' => h3 _ _ (fun σ'' hQ'' => h2 _ _ ⟨rfl, _, _, _, _, _, _, hQ'', hC, hM', hW, rfl⟩), fun k e hk => (hno k e hk).elim⟩))), fun k e hk => (hno k e hk).elim⟩
  · refine ⟨fun z => absurd z hn, fun k e hk τ hC' => hK _ _ (fun σ' hQ' => h _ _ (fun K2 KX2 h2 => fr_m hQ' rfl (fun K3 KX3 h3 => ⟨rfl, MX_rcv hM, N, M, th, hM, hW.1, fun z => absurd z hn, fun k2 e2 hk2 => ?_⟩)))⟩
    obtain rfl := nuq (n := 401) e e2 (by omega) (by omega) (by decide)
    exact fun τ' hM' => h3 _ _ (fun σ'' hQ'' => h2 _ _ ⟨rfl, _, _, _, _, _, _, hQ'', hC', hM', WF_end hW hk, rfl⟩)
theorem duo_fault (hQ : LQ cy o σ σc σm f) (hC : CX cy P σc x N M) (hM : MX cy σm m th N M) (hW : WF N M) (h : ∀ r σ', MidD cy P o x m (N 1) (sp_X9_fault cy P) [.ref m] r σ' → K1 (some (.int r)) σ') : (fr (sp_X8_fault cy P)).2.2 [.ref x] σ K1 KX1 := by
  refine fr_c hQ rfl (fun K' KX' hK => ⟨rfl, CX_rcv hC, N, M, hC, hK _ _ (fun σ' hQ' => h _ _ (fun K2 KX2 h2 => fr_m hQ' rfl (fun K3 KX3 h3 => ⟨rfl, MX_rcv hM, ?_⟩)))⟩)
  obtain ⟨A, I, hD, -, hI⟩ := hM
  exact ⟨A, I, hD.1, h3 _ _ (fun σ'' hQ'' => h2 _ _ ⟨hI.2.2.2.2.2.1.symm, _, _, _, _, _, _, hQ'', hC, MX_0 hD hI, hW, rfl⟩)⟩
theorem duo_count {n : Int32} (hQ : LQ cy o σ σc σm f) (hC : CX cy P σc x N M) (hM : MX cy σm m th N M) (hW : WF N M) (h : ∀ r σ', MidD cy P o x m (N 1) (sp_X9_count cy P) [.ref m, .int n] r σ' → K1 (some (.int r)) σ') : (fr (sp_X8_count cy P)).2.2 [.ref x, .int n] σ K1 KX1 :=
  fr_c hQ rfl (fun K' KX' hK => ⟨rfl, CX_rcv hC, N, M, hC, hK _ _ (fun σ' hQ' => h _ _ (fun K2 KX2 h2 => fr_m hQ' rfl (fun K3 KX3 h3 => ⟨rfl, MX_rcv hM, N, M, th, hM, hW.1, fun τ' hM' => h3 _ _ (fun σ'' hQ'' => h2 _ _ ⟨rfl, _, _, _, _, _, _, hQ'', hC, hM', hW, rfl⟩)⟩)))⟩)
theorem thr_L {c r : Int32} {n1 : Nat} (hE : EndL cy P o x m n1 c r σ) (h : ∀ σ', EndL cy P o x m n1 c r σ' → K1 (some (.int c)) σ') : (fr (sp_X9_thrown cy P)).2.2 [.ref m] σ K1 KX1 := by
  obtain ⟨σc, σm, f, N, M, hQ, hC, hM, hW, h1, h2⟩ := hE
  refine fr_m hQ rfl (fun K3 KX3 h3 => ⟨rfl, MX_rcv hM, ?_⟩)
  obtain ⟨A, I, hD, hc, hI⟩ := hM
  exact ⟨A, I, hD.1, h3 _ _ (fun σ'' hQ'' => by rw [hc]; exact h _ ⟨_, _, _, _, _, hQ'', hC, ⟨A, I, hD, hc, hI⟩, hW, h1, h2⟩)⟩
end PAIRS3
