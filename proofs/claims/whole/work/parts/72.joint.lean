/-! ===== the law's heap: the class's part, the model's part, the array of answers ===== -/
def LQ (cy : Nat → ClassId) (o : Nat) (σ σc σm : Hp) (f : Nat → Int64) : Prop := sub σc σ ∧ sub σm σ ∧ (∀ a, σc a ≠ none → σm a = none) ∧ σ o = some (oJ cy f) ∧ σc o = none ∧ σm o = none
section LQS
variable {cy : Nat → ClassId} {P : Pm} {o : Nat} {σ σc σm τ : Hp} {f f' : Nat → Int64}
theorem mrg_at {σ1 : Hp} {a : Nat} {e : va_E} (ha : σ a = some e) (hn : σ1 a = none) (hf : fresh τ σ1 σ) : τ a = none ∧ mrg τ σ1 σ a = some e := by
  have h : τ a = none := by
    cases hv : τ a with
    | none => rfl
    | some e' =>
      rcases hf a (by rw [hv]; exact fun z => by cases z) with z | z
      · exact absurd hn z
      · rw [ha] at z; cases z
  exact ⟨h, mrg_o ha hn hf⟩
theorem sub_mrg {σ1 : Hp} : sub τ (mrg τ σ1 σ) := fun a e h => by unfold mrg; rw [h]
theorem LQ_c (h : LQ cy o σ σc σm f) (hf : fresh τ σc σ) : LQ cy o (mrg τ σc σ) τ σm f := by
  obtain ⟨h1, h2, h3, h4, h5, h6⟩ := h
  have hc : ∀ a e, σm a = some e → σc a = none := fun a e ha => by
    cases hv : σc a with
    | none => rfl
    | some e' => have := h3 a (by rw [hv]; exact fun z => by cases z); rw [ha] at this; cases this
  refine ⟨sub_mrg, fun a e ha => (mrg_at (h2 a e ha) (hc a e ha) hf).2, fun a ha => ?_, mrg_o h4 h5 hf, (mrg_at h4 h5 hf).1, h6⟩
  cases hv : σm a with
  | none => rfl
  | some e => exact absurd (mrg_at (h2 a e hv) (hc a e hv) hf).1 ha
theorem LQ_m (h : LQ cy o σ σc σm f) (hf : fresh τ σm σ) : LQ cy o (mrg τ σm σ) σc τ f := by
  obtain ⟨h1, h2, h3, h4, h5, h6⟩ := h
  have hc : ∀ a e, σc a = some e → σm a = none := fun a e ha => h3 a (by rw [ha]; exact fun z => by cases z)
  refine ⟨fun a e ha => (mrg_at (h1 a e ha) (hc a e ha) hf).2, sub_mrg, fun a ha => ?_, mrg_o h4 h6 hf, h5, (mrg_at h4 h6 hf).1⟩
  cases hv : σc a with
  | none => exact absurd hv ha
  | some e => exact (mrg_at (h1 a e hv) (hc a e hv) hf).1
theorem LQ_o (h : LQ cy o σ σc σm f) : LQ cy o (hup σ o (oJ cy f')) σc σm f' := by
  obtain ⟨h1, h2, h3, h4, h5, h6⟩ := h
  refine ⟨fun a e ha => ?_, fun a e ha => ?_, h3, hup_same _ _ _, h5, h6⟩
  · rw [hup_ne _ _ (fun z => by rw [z, h5] at ha; cases ha)]; exact h1 a e ha
  · rw [hup_ne _ _ (fun z => by rw [z, h6] at ha; cases ha)]; exact h2 a e ha
/-- a wrapper's call, on the class's part -/
theorem wr_go {g : Sg} {hh : List (Nat × Nat × Nat × Nat)} {oc : Int32 → Int64} {args : List Value} {K : Option Value → Hp → Prop} (hQ : LQ cy o σ σc σm f) (hb : g.2.1 args σc = g.2.1 args σ)
    (h : ∀ K' KX', (∀ n τ, (∀ σ' f', LQ cy o σ' τ σm f' → f' 0 = oc n → K (some (.int 0)) σ') → K' (some (.int n)) τ) → (∀ k c z τ, hh[k]? = some z → nI (k + 1) = c → (∀ σ' f', LQ cy o σ' τ σm f' → K (some (.int c)) σ') → KX' (exN z.2.2.2) τ) → g.2.2 args σc K' KX') : wrb cy g hh oc args σ o K :=
  ⟨f, σc, hQ.2.2.2.1, hQ.2.2.2.2.1, hQ.1, hb, fun K' KX' h1 h2 => h K' KX' (fun n τ q => h1 n τ (fun hf f' e => q _ f' (LQ_o (LQ_c hQ hf)) e)) (fun k c z τ e hc q => h2 k z τ e (fun hf => by rw [hc]; exact q _ f (LQ_c hQ hf)))⟩
/-- a call of the model, on the model's part -/
theorem fr_m {g : Sg} {args : List Value} {K : Option Value → Hp → Prop} {KX : String → Hp → Prop} (hQ : LQ cy o σ σc σm f) (hb : g.2.1 args σm = g.2.1 args σ) (h : ∀ K' KX', (∀ v τ, (∀ σ', LQ cy o σ' σc τ f → K v σ') → K' v τ) → g.2.2 args σm K' KX') : (fr g).2.2 args σ K KX :=
  ⟨σm, hQ.2.1, hb, h _ _ (fun v τ q hf => q _ (LQ_m hQ hf))⟩
/-- a call of the class, on the class's part -/
theorem fr_c {g : Sg} {args : List Value} {K : Option Value → Hp → Prop} {KX : String → Hp → Prop} (hQ : LQ cy o σ σc σm f) (hb : g.2.1 args σc = g.2.1 args σ) (h : ∀ K' KX', (∀ v τ, (∀ σ', LQ cy o σ' τ σm f → K v σ') → K' v τ) → g.2.2 args σc K' KX') : (fr g).2.2 args σ K KX :=
  ⟨σc, hQ.1, hb, h _ _ (fun v τ q hf => q _ (LQ_c hQ hf))⟩
theorem CX_rcv {x : Nat} {N : Nat → Nat} {M : Ms} {as : List Value} (h : CX cy P σ x N M) : rcvd 9 (.ref x :: as) σ := by
  obtain ⟨co, gb, gl, wi, h⟩ := h
  obtain ⟨t, tb, pl, f, lp, ep, pA, rA, lw, ew, wA, lg, eg, gA, lb, eb, bA, o, b1, a1, F, C, Kd, Nm, b2, a2, s2, F2, C2, K2, N2, hx, -⟩ := h
  simp only [rcvd, hx, oSF]
theorem MX_rcv {m : Nat} {th : Int32} {N : Nat → Nat} {M : Ms} {as : List Value} (h : MX cy σ m th N M) : rcvd 10 (.ref m :: as) σ := by
  obtain ⟨A, I, h, -⟩ := h
  rw [MD_rc h]; trivial
/-- after a call on both sides: c is what was thrown, r what the model answered -/
def EndL (cy : Nat → ClassId) (P : Pm) (o x m n1 : Nat) (c r : Int32) (σ : Hp) : Prop := ∃ σc σm f N M, LQ cy o σ σc σm f ∧ CX cy P σc x N M ∧ MX cy σm m c N M ∧ WF N M ∧ N 1 = n1 ∧ (c = 0 → f 0 = r.toInt64)
/-- the model's call that follows -/
def MidL (cy : Nat → ClassId) (P : Pm) (o x m n1 : Nat) (g : Sg) (args : List Value) (c : Int32) (σ : Hp) : Prop := ∀ (K2 : Option Value → Hp → Prop) (KX2 : String → Hp → Prop), (∀ r σ', EndL cy P o x m n1 c r σ' → K2 (some (.int r)) σ') → (fr g).2.2 args σ K2 KX2
end LQS
section PAIRS
variable {cy : Nat → ClassId} {P : Pm} {o x m : Nat} {σ σc σm : Hp} {f : Nat → Int64} {N : Nat → Nat} {M : Ms} {th : Int32} {K1 : Option Value → Hp → Prop} {KX1 : String → Hp → Prop}
theorem pair_port {a b c d : Int32} (hQ : LQ cy o σ σc σm f) (hC : CX cy P σc x N M) (hM : MX cy σm m th N M) (hW : WF N M) (h : ∀ e σ', MidL cy P o x m (N 1) (sp_X9_port cy P) [.ref m, .int a, .int b, .int c, .int d] e σ' → K1 (some (.int e)) σ') : (sp_L_port cy P).2.2 [.ref x, .int a, .int b, .int c, .int d, .ref o] σ K1 KX1 := by
  refine ⟨rfl, wr_go hQ rfl (fun K' KX' hK hX => ⟨rfl, CX_rcv hC, N, M, hC, hW.1.2.1, fun r hr => (hW.2.2.1 r hr).1, ?_⟩)⟩
  by_cases hc : portC a b c d
  · rcases Nat.lt_or_eq_of_le hW.1.2.1 with hn | hn
    · refine ⟨fun z => absurd hc z, fun _ => ⟨fun z => by omega, fun _ τ hC' => hK _ _ (fun σ' f' hQ' e => h _ _ (fun K2 KX2 h2 => fr_m hQ' rfl (fun K3 KX3 h3 => ⟨rfl, MX_rcv hM, N, M, th, hM, hW.1, ?_⟩)))⟩⟩
      exact ⟨fun z => absurd hc z, fun _ => ⟨fun z => by omega, fun _ τ' hM' => h3 _ _ (fun σ'' hQ'' => h2 _ _ ⟨_, _, _, _, _, hQ'', hC', hM', WF_port hW hc hn, rfl, fun _ => e⟩)⟩⟩
    · refine ⟨fun z => absurd hc z, fun _ => ⟨fun _ => hX 1 2 _ _ rfl rfl (fun σ' f' hQ' => h _ _ (fun K2 KX2 h2 => fr_m hQ' rfl (fun K3 KX3 h3 => ⟨rfl, MX_rcv hM, N, M, th, hM, hW.1, ?_⟩))), fun z => by omega⟩⟩
      exact ⟨fun z => absurd hc z, fun _ => ⟨fun _ τ' hM' => h3 _ _ (fun σ'' hQ'' => h2 _ _ ⟨_, _, _, _, _, hQ'', hC, hM', hW, rfl, fun z => absurd z (by decide)⟩), fun z => by omega⟩⟩
  · refine ⟨fun _ => hX 0 1 _ _ rfl rfl (fun σ' f' hQ' => h _ _ (fun K2 KX2 h2 => fr_m hQ' rfl (fun K3 KX3 h3 => ⟨rfl, MX_rcv hM, N, M, th, hM, hW.1, ?_⟩))), fun z => absurd z hc⟩
    exact ⟨fun _ τ' hM' => h3 _ _ (fun σ'' hQ'' => h2 _ _ ⟨_, _, _, _, _, hQ'', hC, hM', hW, rfl, fun z => absurd z (by decide)⟩), fun z => absurd z hc⟩
end PAIRS
