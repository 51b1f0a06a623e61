/-! ===== methods with one call under a table of handlers ===== -/
def MOKH (CL : Cl) (cy : Nat → ClassId) (O : Old) (ob : Nat → Bool) (cc : ByteArray) (ret : Option FieldType) (nL : Nat) (g : Sg) (pc0 : Nat) (gc : Sg) (hand : String → Option Nat) : Prop :=
  ∀ (as : List Value) (σ : Hp) (K : Option Value → Hp → Prop) (KX : String → Hp → Prop) (J : Jt), as.length = g.1 → g.2.2 as σ K KX → (∀ cut n pc ls st σ rc rs, wpS CL cy O ob cc (fun _ _ => none) (fun _ => none) (fun _ => none) ret K KX cut J n pc ls st σ rc rs → J pc ls st σ rc rs) →
    (∀ (as' rest : List Value) (ls : List (Option Value)) (σ : Hp) (rc rs : Nat), as'.length = gc.1 → rsum rest ≤ 8 → (gc.2.1 as' σ).1 ≤ rc → (gc.2.1 as' σ).2 ≤ rs → gc.2.2 as' σ (fun v σ' => J (pc0 + 3) ls (v.toList ++ rest) σ' (rc - (gc.2.1 as' σ).1) (rs - (gc.2.1 as' σ).2)) (fun E σ' => match hand E with
      | some h => ∀ q : Nat, J h ls [.ref q] σ' (rc - (gc.2.1 as' σ).1) (rs - (gc.2.1 as' σ).2)
      | none => False) → J pc0 ls (as'.reverse ++ rest) σ rc rs) → OldOK O σ → J 0 (ini nL as) [] σ (g.2.1 as σ).1 (g.2.1 as σ).2
theorem con_ofH {l : Launch} {s0 : State} {D : va_G} {cy : Nat → ClassId} {O : Old} {ob : Nat → Bool} {y : MethodName} {cc : ByteArray} {nL : Nat} {ret : Option FieldType} {hh : List (Nat × Nat × Nat × Nat)} {CL : Cl} {frn lo pc0 kd j : Nat} {g gc : Sg} {hand : String → Option Nat} (hE : EnvC l s0 D cy O y.cls y.name CL ob) (hy : plainName y.cls = true)
    (hcat : ∀ as σ K KX, g.2.2 as σ K KX → ∀ v ∈ as, v.category = 1) (hnL : g.1 ≤ nL) (hd0 : decode cc pc0 = .ok (insOf kd j, 3))
    (hinv : ∀ (p : Program) (e : Env) (R : Room) (s : State) (m : MethodId) (args : Array Value) (below : List Frame) (meth : Method) (c : Code) (A : Nat → Prop) (Q : State → Prop), R.frames = frn → R.locals = lo → s0.WarmedH s.vm → Bd p s m meth c s0 D cy O A nL y.cls cc → InvOK p l e R s m args below meth c s0 D A nL cc Q (insOf kd j) gc)
    (hX : ∀ (p : Program) (e : Env) (R : Room) (s : State) (m : MethodId) (args : Array Value) (below : List Frame) (meth : Method) (c : Code) (A : Nat → Prop) (Q : State → Prop), s0.WarmedH s.vm → Bd p s m meth c s0 D cy O A nL y.cls cc → c.exceptionTable.toList = tableOf hh → ∀ (E : String) (h : Nat), hand E = some h → ∀ (H : Heap) (locs : List Loc) (cells slots : Nat) (lsA : Array Slot) (r : List Value) (q : Addr) (ce : Cell), H[q]? = some ce → ce.vm = .none → s.vm.findClass E = some ce.cls → W p l e R s m args below meth c H locs cells slots Q (F0 m h lsA [.ref q]) → vx_W p l e R s m args below meth c H locs cells slots Q (F0 m pc0 lsA r) q)
    (hM : MOKH CL cy O ob cc ret nL g pc0 gc hand) : Con l s0 D y (Cond.codeWith y cc nL ret hh) frn lo g := by
  intro as σ K KX sz hlen hT
  refine vx_ofWH (cc := cc) (maxL := nL) (ret := ret) (hh := hh) hy rfl ?_
  intro p e s m args below meth c s₁ B0 hml hv
  have htab : c.exceptionTable.toList = tableOf hh := vx_table (x := y) B0 (atoms_spec (ws := [Cond.codeWith y cc nL ret hh]) B0.pre _ List.mem_cons_self)
  obtain ⟨rfl, hsz, hw1, hw2, hw3, hw4⟩ := hv
  subst hsz
  obtain ⟨E1, E2, ⟨cell, E3, E4, E5⟩, E6, E7⟩ := hE
  have hal := hw1.alike
  have hdom0 : ∀ a, σ a ≠ none → s0.heap.size ≤ a := by
    obtain ⟨L, -, -, -, g4⟩ := Okh_to hw4
    exact g4
  have hA2 : ∀ q, Aof σ s.heap.size q → s0.heap.size ≤ q := by
    intro q hq
    rcases hq with h | h
    · exact hdom0 q h
    · omega
  have B : Bd p s m meth c s0 D cy O (Aof σ s.heap.size) nL y.cls cc :=
    ⟨B0.exec, B0.bytes, hml, findClass_of_methodNamed B0.named, B0.notSynchronized, E1.moved hal, fun q h => Or.inr h, hA2, hw3, hw1, hw2, E2, ⟨cell, by rw [hw2 _ E2]; exact E3, State.isArrayOf_alike hal E4, E5⟩, fun a n f h => va_T_at (E6 a n f h) hal hw2 hA2⟩
  have hcl := E7 s as.toArray meth (Aof σ s.heap.size) hw1 hw2 hw3 hA2 (name_of_methodNamed B0.named B0.method).1
  have hOld : OldOK O σ := by
    refine ⟨?_, fun a n f h => ?_⟩
    · cases hv : σ O.1 with
      | none => rfl
      | some w => have := hdom0 O.1 (by rw [hv]; exact fun z => by cases z); omega
    · cases hv : σ a with
      | none => rfl
      | some w =>
        have h1 := hdom0 a (by rw [hv]; exact fun z => by cases z)
        exact absurd h1 (va_T.out (E6 a n f h))
  have hJ := hM as σ K KX _ hlen hT (wpS_sound (l := l) (e := e) (R := (headSpec [Cond.codeWith y cc nL ret hh] { frames := frn, cells := (g.2.1 as σ).1, slots := (g.2.1 as σ).2, locals := lo }).room) (below := below) (args := as.toArray) (K := K) (KX := KX) B rfl ⟨fun pc E h => (by cases h), fun E h q => (by cases q), fun q => (by obtain ⟨E, q⟩ := q; cases q)⟩ hcl B0.returns (fun kd j g hg => by cases hg))
    (fun as' rest ls σ' rc rs h1 h2 h3 h4 h5 => by
      intro H locs cells slots lsA g1 g2 g3 g4 g5 g6
      refine hinv _ _ _ _ _ _ _ _ _ _ _ rfl rfl hw1 B as' rest σ' _ _ pc0 H locs cells slots lsA h1 h5 h2 hd0 g6.2.1.1 g1 g2 g3 (by omega) (by omega) (fun v σ2 H2 locs2 k1 k2 k3 k4 => ?_) (fun E q ce σ2 H2 locs2 k1 c1 c2 c3 k2 k3 k4 => ?_)
      · exact k1 H2 locs2 _ _ lsA k2 k3 k4 (by omega) (by omega) g6
      · split at k1
        · rename_i h hh9
          exact hX _ _ _ _ _ _ _ _ _ _ _ hw1 B htab E h hh9 H2 locs2 _ _ lsA rest q ce c1 c2 c3 (k1 q H2 locs2 _ _ lsA k2 k3 k4 (by omega) (by omega) g6)
        · exact k1.elim) hOld
  rw [lg_entry_eq]
  exact hJ s.heap [] 0 0 _ hw4 (fun a h => Or.inl h) va_S.rf (by rw [Nat.zero_add]; exact Nat.le_refl _) (by rw [Nat.zero_add]; exact Nat.le_refl _) (lh_ini (hcat _ _ _ _ hT) (by omega))
