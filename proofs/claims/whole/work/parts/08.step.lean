/-! ===== one step of the wp is sound ===== -/
section STP
variable {p : Program} {l : Launch} {e : Env} {R : Room} {s : State} {m : MethodId} {args : Array Value} {below : List Frame} {meth : Method} {c : Code}
variable {s0 : State} {D : va_G} {cy : Nat → ClassId} {O : Old} {A : Nat → Prop} {nL : Nat} {own : String} {cc : ByteArray}
variable {K : Option Value → Hp → Prop} {KX : String → Hp → Prop} {CL : Cl} {ob : Nat → Bool} {inv : Nat → Nat → Option Sg} {thr : Nat → Option String} {exc : String → Option (Option Nat)} {ret : Option FieldType}
/-- what the pool of the body's class says is so -/
def CLok (s : State) (args : Array Value) (meth : Method) (own : String) (A : Nat → Prop) (CL : Cl) (ob : Nat → Bool) : Prop :=
  (∀ j ci k ty w, CL.1 j = some (ci, k, ty, w) → FLg s args own j ci k ∧ (w = true → FLp s args meth own j ci k ty)) ∧
  (∀ j ci fs, CL.2.1 j = some (ci, fs) → NWo s args own j ci fs) ∧
  (∀ j v, CL.2.2.1 j = some v → (∃ (tx : String) (q : Nat), v = .ref q ∧ vk_R own j tx q s) ∨ (∃ (C : String) (mi : Nat), v = .ref mi ∧ (Cond.classLink own j C).before args s = true ∧ va_Mi C mi s) ∨ (∃ x : Int32, v = .int x ∧ (Cond.constant own j x).before args s = true)) ∧
  (∀ j v, CL.2.2.2.1 j = some v → ∃ (C n d ref : String), va_Z C n d v A s s.heap ∧ (Cond.fieldLink own j ref n d).before args s = true ∧ (∀ x, s.fieldFound? C n d = some x → s.fieldFound? ref n d = some x)) ∧
  (∀ j ci, CL.2.2.2.2.1 j ci = true → ∃ (C : String) (T : u_T) (N : Nat), vwCl[ci]? = some (C, T, N) ∧ (Cond.classLink own j C).before args s = true) ∧
  (∀ j a v, CL.2.2.2.2.2.1 j a = some v → ∃ (o n d ref : String), va_OF o n d v a A s s.heap ∧ (Cond.fieldLink own j ref n d).before args s = true ∧ (∀ x, s.fieldFound? o n d = some x → s.fieldFound? ref n d = some x)) ∧
  (∀ j, CL.2.2.2.2.2.2 j = 1 → (Cond.classLink own j "java/lang/Object").before args s = true) ∧
  (∀ j, CL.2.2.2.2.2.2 j = 2 → (Cond.classLink own j ("[" ++ (FieldType.array .int).toString)).before args s = true) ∧
  (∀ ci, ob ci = true → ∃ (C : String) (T : u_T) (N : Nat), vwCl[ci]? = some (C, T, N) ∧ va_Nw (.castable C "java/lang/Object") s) ∧
  (Cond.arrayClass .int).before args s = true ∧ (Cond.arrayClass .byte).before args s = true ∧ (Cond.arrayClass .long).before args s = true ∧ va_AO "java/lang/Object" s ∧ va_AOA .int s
/-- what throws, and where exceptions go -/
def XOk (p : Program) (l : Launch) (e : Env) (R : Room) (s : State) (m : MethodId) (args : Array Value) (below : List Frame) (meth : Method) (c : Code) (s0 : State) (D : va_G) (A : Nat → Prop) (nL : Nat) (cc : ByteArray) (KX : String → Hp → Prop) (thr : Nat → Option String) (exc : String → Option (Option Nat)) (Q : State → Prop) : Prop :=
  (∀ pc E, thr pc = some E → ∀ (j len : Nat), decode cc pc = .ok (.new j, len) → ∀ (σ : Hp) (H : Heap) (locs : List Loc) (cells slots : Nat) (lsA : Array Slot) (st : List Value), KX E σ → Okh s0 D σ H → (∀ a, σ a ≠ none → A a) → va_S A s.heap H locs → cells + 1 ≤ R.cells → slots + 6 ≤ R.slots → lsA.size = nL → st.length ≤ 4 → W p l e R s m args below meth c H locs cells slots Q (F0 m pc lsA st)) ∧
  (∀ E h, exc E = some (some h) → ∀ (pc kd j : Nat), decode cc pc = .ok (insOf kd j, 3) → ∀ (H : Heap) (locs : List Loc) (cells slots : Nat) (lsA : Array Slot) (r : List Value) (q : Addr) (ce : Cell), H[q]? = some ce → ce.vm = .none → s.vm.findClass E = some ce.cls → W p l e R s m args below meth c H locs cells slots Q (F0 m h lsA [.ref q]) → vx_W p l e R s m args below meth c H locs cells slots Q (F0 m pc lsA r) q) ∧
  ((∃ E, exc E = some none) → ∀ x ∈ c.exceptionTable.toList, False)
theorem len_of {i : Instr} {len n : Nat} (h : okLen i len = true) (e : okLen i len = (len == n)) : len = n := by rw [e] at h; exact beq_iff_eq.mp h
theorem r_goTo {k : Jt} {Q : State → Prop} (hk : ∀ pc ls st σ rc rs, k pc ls st σ rc rs → JJ p l e R s m args below meth c s0 D A nL Q pc ls st σ rc rs) {pc : Nat} {off : Int} {ls : List (Option Value)} {st : List Value} {σ : Hp} {rc rs : Nat} (h : goTo k pc off ls st σ rc rs) :
    (pc : Int) + off = (tgt pc off : Int) ∧ JJ p l e R s m args below meth c s0 D A nL Q (tgt pc off) ls st σ rc rs := ⟨tgt_ok h.1, hk _ _ _ _ _ _ h.2⟩
theorem r_inv {Q : State → Prop} (B : Bd p s m meth c s0 D cy O A nL own cc) (hQ : Q = vx_MQ below (QcF s0 D A K) (XcF s0 D A KX) args s R.cells R.slots A) (hX : XOk p l e R s m args below meth c s0 D A nL cc KX thr exc Q)
    {k : Jt} (hk : ∀ pc ls st σ rc rs, k pc ls st σ rc rs → JJ p l e R s m args below meth c s0 D A nL Q pc ls st σ rc rs) {g : Option Sg} {kd j : Nat} (hg : ∀ g', g = some g' → InvOK p l e R s m args below meth c s0 D A nL cc Q (insOf kd j) g')
    {pc : Nat} {ls : List (Option Value)} {st : List Value} {σ : Hp} {rc rs : Nat} (hdg : decode cc pc = .ok (insOf kd j, 3)) (h : inv1 g exc KX k pc ls st σ rc rs) : JJ p l e R s m args below meth c s0 D A nL Q pc ls st σ rc rs := by
  unfold inv1 at h
  split at h
  · rename_i na b T
    split at h
    · rename_i as r hpop
      obtain ⟨hlen, hst⟩ := popN_nil hpop
      obtain ⟨h1, h2, h3, h4⟩ := h
      subst hst
      intro H locs cells slots lsA g1 g2 g3 g4 g5 g6
      refine hg _ rfl as r σ _ _ pc H locs cells slots lsA hlen h4 h1 hdg (g6.2.1.1) g1 g2 g3 (by dsimp only; omega) (by dsimp only; omega) ?_ ?_
      · intro v σ' H' locs' hv o1 o2 o3
        exact hk _ _ _ _ _ _ hv H' locs' _ _ lsA o1 o2 o3 (by dsimp only; omega) (by dsimp only; omega) g6
      · intro E q ce σ' H' locs' hv c1 c2 c3 o1 o2 o3
        split at hv
        · rename_i hh he
          exact hX.2.1 E hh he pc kd j hdg H' locs' _ _ lsA r q ce c1 c2 c3 (hk _ _ _ _ _ _ (hv q) H' locs' _ _ lsA o1 o2 o3 (by dsimp only; omega) (by dsimp only; omega) g6)
        · rename_i he
          rw [hQ]
          exact vx_out (fun x hx => (hX.2.2 ⟨E, he⟩ x hx).elim) B.2.2.2.2.1 c1 c2 c3 (fun t ht hal => ⟨⟨σ', hv, by rw [ht]; exact o1, o2⟩, o3.F ht⟩) o3.2.2 (by dsimp only; omega) (by dsimp only; omega)
        · exact hv.elim
    · exact h.elim
  · exact h.elim
end STP
