/-! ===== the other methods on both sides ===== -/
theorem nbad {p : Int32} {n k : Nat} (e : p = nI k) (hk : k < n) (hn : n < 2 ^ 31) : ¬ badIx p n := by
  subst e
  intro z
  rcases z with z | z
  · exact absurd z (nI_pos (by omega))
  · exact absurd (nI_lt hk hn) (Int32.not_lt.mpr z)
theorem nuq {p : Int32} {n k j : Nat} (e : p = nI k) (e2 : p = nI j) (hk : k < n) (hj : j < n) (hn : n < 2 ^ 31) : j = k := (nI_eq (by omega) (by omega)).mp (e2.symm.trans e)
section PAIRS2
variable {cy : Nat → ClassId} {P : Pm} {o x m : Nat} {σ σc σm : Hp} {f : Nat → Int64} {N : Nat → Nat} {M : Ms} {th : Int32} {K1 : Option Value → Hp → Prop} {KX1 : String → Hp → Prop}
theorem pair_report {p a b c : Int32} (hQ : LQ cy o σ σc σm f) (hC : CX cy P σc x N M) (hM : MX cy σm m th N M) (hW : WF N M) (h : ∀ e σ', MidL cy P o x m (N 1) (sp_X9_report cy P) [.ref m, .int p, .int a, .int b, .int c] e σ' → K1 (some (.int e)) σ') : (sp_L_report cy P).2.2 [.ref x, .int p, .int a, .int b, .int c, .ref o] σ K1 KX1 := by
  refine ⟨rfl, wr_go hQ rfl (fun K' KX' hK hX => ⟨rfl, CX_rcv hC, N, M, hC, hW.1.2.2.1, hW.1.2.1, ?_⟩)⟩
  by_cases hb : badIx p (N 6)
  · refine ⟨fun _ => ?_, fun k e hk => absurd hb (nbad e hk (Nat.lt_of_le_of_lt hW.1.2.1 (by decide)))⟩
    refine hX 0 1 _ _ rfl rfl (fun σ' f' hQ' => h _ _ (fun K2 KX2 h2 => fr_m hQ' rfl (fun K3 KX3 h3 => ⟨rfl, MX_rcv hM, N, M, th, hM, hW.1, ?_⟩)))
    refine ⟨fun _ => ?_, fun k e hk => absurd hb (nbad e hk (Nat.lt_of_le_of_lt hW.1.2.1 (by decide)))⟩
    exact fun τ' hM' => h3 _ _ (fun σ'' hQ'' => h2 _ _ ⟨_, _, _, _, _, hQ'', hC, hM', hW, rfl, fun z => absurd z (by decide)⟩)
  · refine ⟨fun z => absurd z hb, fun k e hk => ?_⟩
    by_cases hc : repC (nI (N 1)) a b c
    · refine ⟨fun z => absurd hc z, fun _ => ?_⟩
      rcases Nat.lt_or_eq_of_le hW.1.2.2.1 with hn | hn
      · refine ⟨fun z => by omega, fun _ => ?_⟩
        refine fun τ hC' => hK _ _ (fun σ' f' hQ' e9 => h _ _ (fun K2 KX2 h2 => fr_m hQ' rfl (fun K3 KX3 h3 => ⟨rfl, MX_rcv hM, N, M, th, hM, hW.1, ?_⟩)))
        refine ⟨fun z => absurd z hb, fun k2 e2 hk2 => ?_⟩
        obtain rfl := nuq e e2 hk hk2 (Nat.lt_of_le_of_lt hW.1.2.1 (by decide))
        refine ⟨fun z => absurd hc z, fun _ => ?_⟩
        refine ⟨fun z => by omega, fun _ => ?_⟩
        exact fun τ' hM' => h3 _ _ (fun σ'' hQ'' => h2 _ _ ⟨_, _, _, _, _, hQ'', hC', hM', WF_rep hW hc hk hn, rfl, fun _ => e9⟩)
      · refine ⟨fun _ => ?_, fun z => by omega⟩
        refine hX 2 3 _ _ rfl rfl (fun σ' f' hQ' => h _ _ (fun K2 KX2 h2 => fr_m hQ' rfl (fun K3 KX3 h3 => ⟨rfl, MX_rcv hM, N, M, th, hM, hW.1, ?_⟩)))
        refine ⟨fun z => absurd z hb, fun k2 e2 hk2 => ?_⟩
        obtain rfl := nuq e e2 hk hk2 (Nat.lt_of_le_of_lt hW.1.2.1 (by decide))
        refine ⟨fun z => absurd hc z, fun _ => ?_⟩
        refine ⟨fun _ => ?_, fun z => by omega⟩
        exact fun τ' hM' => h3 _ _ (fun σ'' hQ'' => h2 _ _ ⟨_, _, _, _, _, hQ'', hC, hM', hW, rfl, fun z => absurd z (by decide)⟩)
    · refine ⟨fun _ => ?_, fun z => absurd z hc⟩
      refine hX 1 2 _ _ rfl rfl (fun σ' f' hQ' => h _ _ (fun K2 KX2 h2 => fr_m hQ' rfl (fun K3 KX3 h3 => ⟨rfl, MX_rcv hM, N, M, th, hM, hW.1, ?_⟩)))
      refine ⟨fun z => absurd z hb, fun k2 e2 hk2 => ?_⟩
      obtain rfl := nuq e e2 hk hk2 (Nat.lt_of_le_of_lt hW.1.2.1 (by decide))
      refine ⟨fun _ => ?_, fun z => absurd z hc⟩
      exact fun τ' hM' => h3 _ _ (fun σ'' hQ'' => h2 _ _ ⟨_, _, _, _, _, hQ'', hC, hM', hW, rfl, fun z => absurd z (by decide)⟩)
theorem pair_gale {p a b c : Int32} (hQ : LQ cy o σ σc σm f) (hC : CX cy P σc x N M) (hM : MX cy σm m th N M) (hW : WF N M) (h : ∀ e σ', MidL cy P o x m (N 1) (sp_X9_gale cy P) [.ref m, .int p, .int a, .int b, .int c] e σ' → K1 (some (.int e)) σ') : (sp_L_gale cy P).2.2 [.ref x, .int p, .int a, .int b, .int c, .ref o] σ K1 KX1 := by
  refine ⟨rfl, wr_go hQ rfl (fun K' KX' hK hX => ⟨rfl, CX_rcv hC, N, M, hC, hW.1.2.2.2.2.2.2.1, ?_⟩)⟩
  by_cases hb : badIx p (N 6)
  · refine ⟨fun _ => ?_, fun k e hk => absurd hb (nbad e hk (Nat.lt_of_le_of_lt hW.1.2.1 (by decide)))⟩
    refine hX 0 1 _ _ rfl rfl (fun σ' f' hQ' => h _ _ (fun K2 KX2 h2 => fr_m hQ' rfl (fun K3 KX3 h3 => ⟨rfl, MX_rcv hM, N, M, th, hM, hW.1, ?_⟩)))
    refine ⟨fun _ => ?_, fun k e hk => absurd hb (nbad e hk (Nat.lt_of_le_of_lt hW.1.2.1 (by decide)))⟩
    exact fun τ' hM' => h3 _ _ (fun σ'' hQ'' => h2 _ _ ⟨_, _, _, _, _, hQ'', hC, hM', hW, rfl, fun z => absurd z (by decide)⟩)
  · refine ⟨fun z => absurd z hb, fun k e hk => ?_⟩
    by_cases hc : galeC (nI (N 1)) a b c
    · refine ⟨fun z => absurd hc z, fun _ => ?_⟩
      rcases Nat.lt_or_eq_of_le hW.1.2.2.2.2.2.2.1 with hn | hn
      · refine ⟨fun z => by omega, fun _ => ?_⟩
        refine fun τ hC' => hK _ _ (fun σ' f' hQ' e9 => h _ _ (fun K2 KX2 h2 => fr_m hQ' rfl (fun K3 KX3 h3 => ⟨rfl, MX_rcv hM, N, M, th, hM, hW.1, ?_⟩)))
        refine ⟨fun z => absurd z hb, fun k2 e2 hk2 => ?_⟩
        obtain rfl := nuq e e2 hk hk2 (Nat.lt_of_le_of_lt hW.1.2.1 (by decide))
        refine ⟨fun z => absurd hc z, fun _ => ?_⟩
        refine ⟨fun z => by omega, fun _ => ?_⟩
        exact fun τ' hM' => h3 _ _ (fun σ'' hQ'' => h2 _ _ ⟨_, _, _, _, _, hQ'', hC', hM', WF_gale hW hn, rfl, fun _ => e9⟩)
      · refine ⟨fun _ => ?_, fun z => by omega⟩
        refine hX 2 3 _ _ rfl rfl (fun σ' f' hQ' => h _ _ (fun K2 KX2 h2 => fr_m hQ' rfl (fun K3 KX3 h3 => ⟨rfl, MX_rcv hM, N, M, th, hM, hW.1, ?_⟩)))
        refine ⟨fun z => absurd z hb, fun k2 e2 hk2 => ?_⟩
        obtain rfl := nuq e e2 hk hk2 (Nat.lt_of_le_of_lt hW.1.2.1 (by decide))
        refine ⟨fun z => absurd hc z, fun _ => ?_⟩
        refine ⟨fun _ => ?_, fun z => by omega⟩
        exact fun τ' hM' => h3 _ _ (fun σ'' hQ'' => h2 _ _ ⟨_, _, _, _, _, hQ'', hC, hM', hW, rfl, fun z => absurd z (by decide)⟩)
    · refine ⟨fun _ => ?_, fun z => absurd z hc⟩
      refine hX 1 2 _ _ rfl rfl (fun σ' f' hQ' => h _ _ (fun K2 KX2 h2 => fr_m hQ' rfl (fun K3 KX3 h3 => ⟨rfl, MX_rcv hM, N, M, th, hM, hW.1, ?_⟩)))
      refine ⟨fun z => absurd z hb, fun k2 e2 hk2 => ?_⟩
      obtain rfl := nuq e e2 hk hk2 (Nat.lt_of_le_of_lt hW.1.2.1 (by decide))
      refine ⟨fun _ => ?_, fun z => absurd z hc⟩
      exact fun τ' hM' => h3 _ _ (fun σ'' hQ'' => h2 _ _ ⟨_, _, _, _, _, hQ'', hC, hM', hW, rfl, fun z => absurd z (by decide)⟩)
theorem pair_boat {p a b : Int32} (hQ : LQ cy o σ σc σm f) (hC : CX cy P σc x N M) (hM : MX cy σm m th N M) (hW : WF N M) (h : ∀ e σ', MidL cy P o x m (N 1) (sp_X9_boat cy P) [.ref m, .int p, .int a, .int b] e σ' → K1 (some (.int e)) σ') : (sp_L_boat cy P).2.2 [.ref x, .int p, .int a, .int b, .ref o] σ K1 KX1 := by
  refine ⟨rfl, wr_go hQ rfl (fun K' KX' hK hX => ⟨rfl, CX_rcv hC, N, M, hC, hW.1.2.2.2.2.2.2.2, ⟨hW.2.2.2.2.2.2 _ (by omega), hW.2.2.2.2.2.2 _ (by omega), hW.2.2.2.2.2.2 _ (by omega), hW.2.2.2.2.2.2 _ (by omega)⟩, ?_⟩)⟩
  by_cases hb : badIx p (N 6)
  · refine ⟨fun _ => ?_, fun k e hk => absurd hb (nbad e hk (Nat.lt_of_le_of_lt hW.1.2.1 (by decide)))⟩
    refine hX 0 1 _ _ rfl rfl (fun σ' f' hQ' => h _ _ (fun K2 KX2 h2 => fr_m hQ' rfl (fun K3 KX3 h3 => ⟨rfl, MX_rcv hM, N, M, th, hM, hW.1, ?_⟩)))
    refine ⟨fun _ => ?_, fun k e hk => absurd hb (nbad e hk (Nat.lt_of_le_of_lt hW.1.2.1 (by decide)))⟩
    exact fun τ' hM' => h3 _ _ (fun σ'' hQ'' => h2 _ _ ⟨_, _, _, _, _, hQ'', hC, hM', hW, rfl, fun z => absurd z (by decide)⟩)
  · refine ⟨fun z => absurd z hb, fun k e hk => ?_⟩
    by_cases hc : boatC a b
    · refine ⟨fun z => absurd hc z, fun _ => ?_⟩
      rcases Nat.lt_or_eq_of_le hW.1.2.2.2.2.2.2.2 with hn | hn
      · refine ⟨fun z => by omega, fun _ => ?_⟩
        refine fun τ hC' => hK _ _ (fun σ' f' hQ' e9 => h _ _ (fun K2 KX2 h2 => fr_m hQ' rfl (fun K3 KX3 h3 => ⟨rfl, MX_rcv hM, N, M, th, hM, hW.1, ?_⟩)))
        refine ⟨fun z => absurd z hb, fun k2 e2 hk2 => ?_⟩
        obtain rfl := nuq e e2 hk hk2 (Nat.lt_of_le_of_lt hW.1.2.1 (by decide))
        refine ⟨fun z => absurd hc z, fun _ => ?_⟩
        refine ⟨fun z => by omega, fun _ => ?_⟩
        exact fun τ' hM' => h3 _ _ (fun σ'' hQ'' => h2 _ _ ⟨_, _, _, _, _, hQ'', hC', hM', WF_boat hW hk hn, rfl, fun _ => e9⟩)
      · refine ⟨fun _ => ?_, fun z => by omega⟩
        refine hX 2 3 _ _ rfl rfl (fun σ' f' hQ' => h _ _ (fun K2 KX2 h2 => fr_m hQ' rfl (fun K3 KX3 h3 => ⟨rfl, MX_rcv hM, N, M, th, hM, hW.1, ?_⟩)))
        refine ⟨fun z => absurd z hb, fun k2 e2 hk2 => ?_⟩
        obtain rfl := nuq e e2 hk hk2 (Nat.lt_of_le_of_lt hW.1.2.1 (by decide))
        refine ⟨fun z => absurd hc z, fun _ => ?_⟩
        refine ⟨fun _ => ?_, fun z => by omega⟩
        exact fun τ' hM' => h3 _ _ (fun σ'' hQ'' => h2 _ _ ⟨_, _, _, _, _, hQ'', hC, hM', hW, rfl, fun z => absurd z (by decide)⟩)
    · refine ⟨fun _ => ?_, fun z => absurd z hc⟩
      refine hX 1 2 _ _ rfl rfl (fun σ' f' hQ' => h _ _ (fun K2 KX2 h2 => fr_m hQ' rfl (fun K3 KX3 h3 => ⟨rfl, MX_rcv hM, N, M, th, hM, hW.1, ?_⟩)))
      refine ⟨fun z => absurd z hb, fun k2 e2 hk2 => ?_⟩
      obtain rfl := nuq e e2 hk hk2 (Nat.lt_of_le_of_lt hW.1.2.1 (by decide))
      refine ⟨fun _ => ?_, fun z => absurd z hc⟩
      exact fun τ' hM' => h3 _ _ (fun σ'' hQ'' => h2 _ _ ⟨_, _, _, _, _, hQ'', hC, hM', hW, rfl, fun z => absurd z (by decide)⟩)
theorem pair_counts {p a b : Int32} (hQ : LQ cy o σ σc σm f) (hC : CX cy P σc x N M) (hM : MX cy σm m th N M) (hW : WF N M) (h : ∀ e σ', MidL cy P o x m (N 1) (sp_X9_counts cy P) [.ref m, .int p, .int a, .int b] e σ' → K1 (some (.int e)) σ') : (sp_L_counts cy P).2.2 [.ref x, .int p, .int a, .int b, .ref o] σ K1 KX1 := by
  refine ⟨rfl, wr_go hQ rfl (fun K' KX' hK hX => ⟨rfl, CX_rcv hC, N, M, hC, ?_⟩)⟩
  by_cases hb : badIx p (N 6)
  · refine ⟨fun _ => ?_, fun k e hk => absurd hb (nbad e hk (Nat.lt_of_le_of_lt hW.1.2.1 (by decide)))⟩
    refine hX 0 1 _ _ rfl rfl (fun σ' f' hQ' => h _ _ (fun K2 KX2 h2 => fr_m hQ' rfl (fun K3 KX3 h3 => ⟨rfl, MX_rcv hM, N, M, th, hM, hW.1, ?_⟩)))
    refine ⟨fun _ => ?_, fun k e hk => absurd hb (nbad e hk (Nat.lt_of_le_of_lt hW.1.2.1 (by decide)))⟩
    exact fun τ' hM' => h3 _ _ (fun σ'' hQ'' => h2 _ _ ⟨_, _, _, _, _, hQ'', hC, hM', hW, rfl, fun z => absurd z (by decide)⟩)
  · refine ⟨fun z => absurd z hb, fun k e hk => ?_⟩
    refine hK _ _ (fun σ' f' hQ' e9 => h _ _ (fun K2 KX2 h2 => fr_m hQ' rfl (fun K3 KX3 h3 => ⟨rfl, MX_rcv hM, N, M, th, hM, hW.1, ?_⟩)))
    refine ⟨fun z => absurd z hb, fun k2 e2 hk2 => ?_⟩
    obtain rfl := nuq e e2 hk hk2 (Nat.lt_of_le_of_lt hW.1.2.1 (by decide))
    exact fun τ' hM' => h3 _ _ (fun σ'' hQ'' => h2 _ _ ⟨_, _, _, _, _, hQ'', hC, hM', hW, rfl, fun _ => e9⟩)
theorem pair_flies {p a : Int32} (hQ : LQ cy o σ σc σm f) (hC : CX cy P σc x N M) (hM : MX cy σm m th N M) (hW : WF N M) (h : ∀ e σ', MidL cy P o x m (N 1) (sp_X9_flies cy P) [.ref m, .int p, .int a] e σ' → K1 (some (.int e)) σ') : (sp_L_flies cy P).2.2 [.ref x, .int p, .int a, .ref o] σ K1 KX1 := by
  refine ⟨rfl, wr_go hQ rfl (fun K' KX' hK hX => ⟨rfl, CX_rcv hC, N, M, hC, ?_⟩)⟩
  by_cases hb : badIx p (N 6)
  · refine ⟨fun _ => ?_, fun k e hk => absurd hb (nbad e hk (Nat.lt_of_le_of_lt hW.1.2.1 (by decide)))⟩
    refine hX 0 1 _ _ rfl rfl (fun σ' f' hQ' => h _ _ (fun K2 KX2 h2 => fr_m hQ' rfl (fun K3 KX3 h3 => ⟨rfl, MX_rcv hM, N, M, th, hM, hW, ?_⟩)))
    refine ⟨fun _ => ?_, fun k e hk => absurd hb (nbad e hk (Nat.lt_of_le_of_lt hW.1.2.1 (by decide)))⟩
    exact fun τ' hM' => h3 _ _ (fun σ'' hQ'' => h2 _ _ ⟨_, _, _, _, _, hQ'', hC, hM', hW, rfl, fun z => absurd z (by decide)⟩)
  · refine ⟨fun z => absurd z hb, fun k e hk => ?_⟩
    refine hK _ _ (fun σ' f' hQ' e9 => h _ _ (fun K2 KX2 h2 => fr_m hQ' rfl (fun K3 KX3 h3 => ⟨rfl, MX_rcv hM, N, M, th, hM, hW, ?_⟩)))
    refine ⟨fun z => absurd z hb, fun k2 e2 hk2 => ?_⟩
    obtain rfl := nuq e e2 hk hk2 (Nat.lt_of_le_of_lt hW.1.2.1 (by decide))
    exact fun τ' hM' => h3 _ _ (fun σ'' hQ'' => h2 _ _ ⟨_, _, _, _, _, hQ'', hC, hM', hW, rfl, fun _ => e9⟩)
theorem pair_field {a b c d : Int32} (hQ : LQ cy o σ σc σm f) (hC : CX cy P σc x N M) (hM : MX cy σm m th N M) (hW : WF N M) (h : ∀ e σ', MidL cy P o x m (N 1) (sp_X9_field cy P) [.ref m, .int a, .int b, .int c, .int d] e σ' → K1 (some (.int e)) σ') : (sp_L_field cy P).2.2 [.ref x, .int a, .int b, .int c, .int d, .ref o] σ K1 KX1 := by
  refine ⟨rfl, wr_go hQ rfl (fun K' KX' hK hX => ⟨rfl, CX_rcv hC, N, M, hC, ?_⟩)⟩
  by_cases hc : ((0 ≤ a ∧ a ≤ 15) ∧ 0 ≤ b ∧ b ≤ 15)
  · refine ⟨fun z => absurd hc z, fun _ => ?_⟩
    refine hK _ _ (fun σ' f' hQ' e9 => h _ _ (fun K2 KX2 h2 => fr_m hQ' rfl (fun K3 KX3 h3 => ⟨rfl, MX_rcv hM, N, M, th, hM, hW, ?_⟩)))
    refine ⟨fun z => absurd hc z, fun _ => ?_⟩
    exact fun τ' hM' => h3 _ _ (fun σ'' hQ'' => h2 _ _ ⟨_, _, _, _, _, hQ'', hC, hM', hW, rfl, fun _ => e9⟩)
  · refine ⟨fun _ => ?_, fun z => absurd z hc⟩
    refine hX 0 1 _ _ rfl rfl (fun σ' f' hQ' => h _ _ (fun K2 KX2 h2 => fr_m hQ' rfl (fun K3 KX3 h3 => ⟨rfl, MX_rcv hM, N, M, th, hM, hW, ?_⟩)))
    refine ⟨fun _ => ?_, fun z => absurd z hc⟩
    exact fun τ' hM' => h3 _ _ (fun σ'' hQ'' => h2 _ _ ⟨_, _, _, _, _, hQ'', hC, hM', hW, rfl, fun z => absurd z (by decide)⟩)
theorem pair_warning {p w : Int32} (hQ : LQ cy o σ σc σm f) (hC : CX cy P σc x N M) (hM : MX cy σm m th N M) (hW : WF N M) (h : ∀ e σ', MidL cy P o x m (N 1) (sp_X9_warning cy P) [.ref m, .int p, .int w] e σ' → K1 (some (.int e)) σ') : (sp_L_warning cy P).2.2 [.ref x, .int p, .int w, .ref o] σ K1 KX1 := by
  refine ⟨rfl, wr_go hQ rfl (fun K' KX' hK hX => ⟨rfl, CX_rcv hC, N, M, hC, ?_⟩)⟩
  by_cases hb : badIx p (N 26)
  · refine ⟨fun _ => ?_, fun k e hk => absurd hb (nbad e hk (Nat.lt_of_le_of_lt hW.1.2.2.2.2.2.1 (by decide)))⟩
    refine hX 0 1 _ _ rfl rfl (fun σ' f' hQ' => h _ _ (fun K2 KX2 h2 => fr_m hQ' rfl (fun K3 KX3 h3 => ⟨rfl, MX_rcv hM, N, M, th, hM, hW.1, ?_⟩)))
    refine ⟨fun _ => ?_, fun k e hk => absurd hb (nbad e hk (Nat.lt_of_le_of_lt hW.1.2.2.2.2.2.1 (by decide)))⟩
    exact fun τ' hM' => h3 _ _ (fun σ'' hQ'' => h2 _ _ ⟨_, _, _, _, _, hQ'', hC, hM', hW, rfl, fun z => absurd z (by decide)⟩)
  · refine ⟨fun z => absurd z hb, fun k e hk => ?_⟩
    by_cases hc : what4 w
    · refine ⟨fun z => absurd hc z, fun _ => ?_⟩
      refine hK _ _ (fun σ' f' hQ' e9 => h _ _ (fun K2 KX2 h2 => fr_m hQ' rfl (fun K3 KX3 h3 => ⟨rfl, MX_rcv hM, N, M, th, hM, hW.1, ?_⟩)))
      refine ⟨fun z => absurd z hb, fun k2 e2 hk2 => ?_⟩
      obtain rfl := nuq e e2 hk hk2 (Nat.lt_of_le_of_lt hW.1.2.2.2.2.2.1 (by decide))
      refine ⟨fun z => absurd hc z, fun _ => ?_⟩
      exact fun τ' hM' => h3 _ _ (fun σ'' hQ'' => h2 _ _ ⟨_, _, _, _, _, hQ'', hC, hM', hW, rfl, fun _ => e9⟩)
    · refine ⟨fun _ => ?_, fun z => absurd z hc⟩
      refine hX 1 2 _ _ rfl rfl (fun σ' f' hQ' => h _ _ (fun K2 KX2 h2 => fr_m hQ' rfl (fun K3 KX3 h3 => ⟨rfl, MX_rcv hM, N, M, th, hM, hW.1, ?_⟩)))
      refine ⟨fun z => absurd z hb, fun k2 e2 hk2 => ?_⟩
      obtain rfl := nuq e e2 hk hk2 (Nat.lt_of_le_of_lt hW.1.2.2.2.2.2.1 (by decide))
      refine ⟨fun _ => ?_, fun z => absurd z hc⟩
      exact fun τ' hM' => h3 _ _ (fun σ'' hQ'' => h2 _ _ ⟨_, _, _, _, _, hQ'', hC, hM', hW, rfl, fun z => absurd z (by decide)⟩)
theorem pair_look {p w : Int32} (hQ : LQ cy o σ σc σm f) (hC : CX cy P σc x N M) (hM : MX cy σm m th N M) (hW : WF N M) (h : ∀ e σ', MidL cy P o x m (N 1) (sp_X9_look cy P) [.ref m, .int p, .int w] e σ' → K1 (some (.int e)) σ') : (sp_L_look cy P).2.2 [.ref x, .int p, .int w, .ref o] σ K1 KX1 := by
  refine ⟨rfl, wr_go hQ rfl (fun K' KX' hK hX => ⟨rfl, CX_rcv hC, N, M, hC, ?_⟩)⟩
  by_cases hb : badIx p (N 36)
  · refine ⟨fun _ => ?_, fun k e hk => absurd hb (nbad e hk (Nat.lt_of_le_of_lt hW.1.2.2.2.2.2.2.2 (by decide)))⟩
    refine hX 0 1 _ _ rfl rfl (fun σ' f' hQ' => h _ _ (fun K2 KX2 h2 => fr_m hQ' rfl (fun K3 KX3 h3 => ⟨rfl, MX_rcv hM, N, M, th, hM, hW.1, ?_⟩)))
    refine ⟨fun _ => ?_, fun k e hk => absurd hb (nbad e hk (Nat.lt_of_le_of_lt hW.1.2.2.2.2.2.2.2 (by decide)))⟩
    exact fun τ' hM' => h3 _ _ (fun σ'' hQ'' => h2 _ _ ⟨_, _, _, _, _, hQ'', hC, hM', hW, rfl, fun z => absurd z (by decide)⟩)
  · refine ⟨fun z => absurd z hb, fun k e hk => ?_⟩
    by_cases hc : what4 w
    · refine ⟨fun z => absurd hc z, fun _ => ?_⟩
      refine hK _ _ (fun σ' f' hQ' e9 => h _ _ (fun K2 KX2 h2 => fr_m hQ' rfl (fun K3 KX3 h3 => ⟨rfl, MX_rcv hM, N, M, th, hM, hW.1, ?_⟩)))
      refine ⟨fun z => absurd z hb, fun k2 e2 hk2 => ?_⟩
      obtain rfl := nuq e e2 hk hk2 (Nat.lt_of_le_of_lt hW.1.2.2.2.2.2.2.2 (by decide))
      refine ⟨fun z => absurd hc z, fun _ => ?_⟩
      exact fun τ' hM' => h3 _ _ (fun σ'' hQ'' => h2 _ _ ⟨_, _, _, _, _, hQ'', hC, hM', hW, rfl, fun _ => e9⟩)
    · refine ⟨fun _ => ?_, fun z => absurd z hc⟩
      refine hX 1 2 _ _ rfl rfl (fun σ' f' hQ' => h _ _ (fun K2 KX2 h2 => fr_m hQ' rfl (fun K3 KX3 h3 => ⟨rfl, MX_rcv hM, N, M, th, hM, hW.1, ?_⟩)))
      refine ⟨fun z => absurd z hb, fun k2 e2 hk2 => ?_⟩
      obtain rfl := nuq e e2 hk hk2 (Nat.lt_of_le_of_lt hW.1.2.2.2.2.2.2.2 (by decide))
      refine ⟨fun _ => ?_, fun z => absurd z hc⟩
      exact fun τ' hM' => h3 _ _ (fun σ'' hQ'' => h2 _ _ ⟨_, _, _, _, _, hQ'', hC, hM', hW, rfl, fun z => absurd z (by decide)⟩)
theorem pair_score {p w : Int32} (hQ : LQ cy o σ σc σm f) (hC : CX cy P σc x N M) (hM : MX cy σm m th N M) (hW : WF N M) (h : ∀ e σ', MidL cy P o x m (N 1) (sp_X9_score cy P) [.ref m, .int p, .int w] e σ' → K1 (some (.int e)) σ') : (sp_L_score cy P).2.2 [.ref x, .int p, .int w, .ref o] σ K1 KX1 := by
  refine ⟨rfl, wr_go hQ rfl (fun K' KX' hK hX => ⟨rfl, CX_rcv hC, N, M, hC, ?_⟩)⟩
  by_cases hb : badIx p (N 6)
  · refine ⟨fun _ => ?_, fun k e hk => absurd hb (nbad e hk (Nat.lt_of_le_of_lt hW.1.2.1 (by decide)))⟩
    refine hX 0 1 _ _ rfl rfl (fun σ' f' hQ' => h _ _ (fun K2 KX2 h2 => fr_m hQ' rfl (fun K3 KX3 h3 => ⟨rfl, MX_rcv hM, N, M, th, hM, hW, ?_⟩)))
    refine ⟨fun _ => ?_, fun k e hk => absurd hb (nbad e hk (Nat.lt_of_le_of_lt hW.1.2.1 (by decide)))⟩
    exact fun τ' hM' => h3 _ _ (fun σ'' hQ'' => h2 _ _ ⟨_, _, _, _, _, hQ'', hC, hM', hW, rfl, fun z => absurd z (by decide)⟩)
  · refine ⟨fun z => absurd z hb, fun k e hk => ?_⟩
    by_cases hc : what4 w
    · refine ⟨fun z => absurd hc z, fun _ => ?_⟩
      refine hK _ _ (fun σ' f' hQ' e9 => h _ _ (fun K2 KX2 h2 => fr_m hQ' rfl (fun K3 KX3 h3 => ⟨rfl, MX_rcv hM, N, M, th, hM, hW, ?_⟩)))
      refine ⟨fun z => absurd z hb, fun k2 e2 hk2 => ?_⟩
      obtain rfl := nuq e e2 hk hk2 (Nat.lt_of_le_of_lt hW.1.2.1 (by decide))
      refine ⟨fun z => absurd hc z, fun _ => ?_⟩
      exact fun τ' hM' => h3 _ _ (fun σ'' hQ'' => h2 _ _ ⟨_, _, _, _, _, hQ'', hC, hM', hW, rfl, fun _ => e9⟩)
    · refine ⟨fun _ => ?_, fun z => absurd z hc⟩
      refine hX 1 2 _ _ rfl rfl (fun σ' f' hQ' => h _ _ (fun K2 KX2 h2 => fr_m hQ' rfl (fun K3 KX3 h3 => ⟨rfl, MX_rcv hM, N, M, th, hM, hW, ?_⟩)))
      refine ⟨fun z => absurd z hb, fun k2 e2 hk2 => ?_⟩
      obtain rfl := nuq e e2 hk hk2 (Nat.lt_of_le_of_lt hW.1.2.1 (by decide))
      refine ⟨fun _ => ?_, fun z => absurd z hc⟩
      exact fun τ' hM' => h3 _ _ (fun σ'' hQ'' => h2 _ _ ⟨_, _, _, _, _, hQ'', hC, hM', hW, rfl, fun z => absurd z (by decide)⟩)
/-- the model's call of trip that follows: it answers 0 or 1 -/
def MidT (cy : Nat → ClassId) (P : Pm) (o x m n1 : Nat) (g : Sg) (args : List Value) (c : Int32) (σ : Hp) : Prop := ∀ (K2 : Option Value → Hp → Prop) (KX2 : String → Hp → Prop), (∀ r σ', (r = 0 ∨ r = 1) → EndL cy P o x m n1 c r σ' → K2 (some (.int r)) σ') → (fr g).2.2 args σ K2 KX2
theorem pair_trip {p a b : Int32} (hQ : LQ cy o σ σc σm f) (hC : CX cy P σc x N M) (hM : MX cy σm m th N M) (hW : WF N M) (h : ∀ e σ', MidT cy P o x m (N 1) (sp_X9_trip cy P) [.ref m, .int p, .int a, .int b] e σ' → K1 (some (.int e)) σ') : (sp_L_trip cy P).2.2 [.ref x, .int p, .int a, .int b, .ref o] σ K1 KX1 := by
  refine ⟨rfl, wr_go hQ rfl (fun K' KX' hK hX => ⟨rfl, CX_rcv hC, N, M, hC, hW.1.2.1, ?_⟩)⟩
  by_cases hb : badIx p (N 36)
  · refine ⟨fun _ => ?_, fun k e hk => absurd hb (nbad e hk (Nat.lt_of_le_of_lt hW.1.2.2.2.2.2.2.2 (by decide)))⟩
    refine hX 0 1 _ _ rfl rfl (fun σ' f' hQ' => h _ _ (fun K2 KX2 h2 => fr_m hQ' rfl (fun K3 KX3 h3 => ⟨rfl, MX_rcv hM, N, M, th, hM, hW.1, ?_⟩)))
    refine ⟨fun _ => ?_, fun k e hk => absurd hb (nbad e hk (Nat.lt_of_le_of_lt hW.1.2.2.2.2.2.2.2 (by decide)))⟩
    exact fun τ' hM' => h3 _ _ (fun σ'' hQ'' => h2 _ _ (by decide) ⟨_, _, _, _, _, hQ'', hC, hM', hW, rfl, fun z => absurd z (by decide)⟩)
  · refine ⟨fun z => absurd z hb, fun k e hk => ?_⟩
    by_cases hc : ((nI (N 1) < a ∧ a ≤ 2000) ∧ 1 ≤ b ∧ b ≤ 48)
    · refine ⟨fun z => absurd hc z, fun _ => ?_⟩
      by_cases hz : M 35 (8 * k + 3) = 0
      · refine ⟨fun _ => ?_, fun z => absurd hz z⟩
        refine fun τ hC' => hK _ _ (fun σ' f' hQ' e9 => h _ _ (fun K2 KX2 h2 => fr_m hQ' rfl (fun K3 KX3 h3 => ⟨rfl, MX_rcv hM, N, M, th, hM, hW.1, ?_⟩)))
        refine ⟨fun z => absurd z hb, fun k2 e2 hk2 => ?_⟩
        obtain rfl := nuq e e2 hk hk2 (Nat.lt_of_le_of_lt hW.1.2.2.2.2.2.2.2 (by decide))
        refine ⟨fun z => absurd hc z, fun _ => ?_⟩
        refine ⟨fun _ => ?_, fun z => absurd hz z⟩
        exact fun τ' hM' => h3 _ _ (fun σ'' hQ'' => h2 _ _ (by decide) ⟨_, _, _, _, _, hQ'', hC', hM', WF_trip hW hk, rfl, fun _ => e9.trans (by decide)⟩)
      · refine ⟨fun z => absurd z hz, fun _ => ?_⟩
        refine hK _ _ (fun σ' f' hQ' e9 => h _ _ (fun K2 KX2 h2 => fr_m hQ' rfl (fun K3 KX3 h3 => ⟨rfl, MX_rcv hM, N, M, th, hM, hW.1, ?_⟩)))
        refine ⟨fun z => absurd z hb, fun k2 e2 hk2 => ?_⟩
        obtain rfl := nuq e e2 hk hk2 (Nat.lt_of_le_of_lt hW.1.2.2.2.2.2.2.2 (by decide))
        refine ⟨fun z => absurd hc z, fun _ => ?_⟩
        refine ⟨fun z => absurd z hz, fun _ => ?_⟩
        exact fun τ' hM' => h3 _ _ (fun σ'' hQ'' => h2 _ _ (by decide) ⟨_, _, _, _, _, hQ'', hC, hM', hW, rfl, fun _ => e9.trans (by decide)⟩)
    · refine ⟨fun _ => ?_, fun z => absurd z hc⟩
      refine hX 1 2 _ _ rfl rfl (fun σ' f' hQ' => h _ _ (fun K2 KX2 h2 => fr_m hQ' rfl (fun K3 KX3 h3 => ⟨rfl, MX_rcv hM, N, M, th, hM, hW.1, ?_⟩)))
      refine ⟨fun z => absurd z hb, fun k2 e2 hk2 => ?_⟩
      obtain rfl := nuq e e2 hk hk2 (Nat.lt_of_le_of_lt hW.1.2.2.2.2.2.2.2 (by decide))
      refine ⟨fun _ => ?_, fun z => absurd z hc⟩
      exact fun τ' hM' => h3 _ _ (fun σ'' hQ'' => h2 _ _ (by decide) ⟨_, _, _, _, _, hQ'', hC, hM', hW, rfl, fun z => absurd z (by decide)⟩)
end PAIRS2
