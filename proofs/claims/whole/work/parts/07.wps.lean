/-! ===== the wp is sound ===== -/
def insOf : Nat → Nat → Instr
  | 0, j => .invokevirtual j
  | 1, j => .invokestatic j
  | _, j => .invokespecial j
def WU (s0 : State) (D : va_G) (σ : Hp) (t : State) : Prop := s0.WarmedH t.vm ∧ (∀ q, q < s0.heap.size → t.heap[q]? = s0.heap[q]?) ∧ s0.heap.size ≤ t.heap.size ∧ Okh s0 D σ t.heap
def QcF (s0 : State) (D : va_G) (A : Nat → Prop) (K : Option Value → Hp → Prop) : Array Value → State → Outcome → State → Prop := fun _ st oc t => (∃ (v : Option Value) (σ : Hp), oc = .returned v ∧ K v σ ∧ Okh s0 D σ t.heap ∧ ∀ a, σ a ≠ none → A a) ∧ va_F A st t
def XcF (s0 : State) (D : va_G) (A : Nat → Prop) (KX : String → Hp → Prop) : String → State → State → Prop := fun E st t => (∃ σ : Hp, KX E σ ∧ Okh s0 D σ t.heap ∧ ∀ a, σ a ≠ none → A a) ∧ va_F A st t
section SI
variable (p : Program) (l : Launch) (e : Env) (R : Room) (s : State) (m : MethodId) (args : Array Value) (below : List Frame) (meth : Method) (c : Code)
variable (s0 : State) (D : va_G) (A : Nat → Prop) (nL : Nat) (cc : ByteArray) (Q : State → Prop)
/-- a call by this instruction, whatever the callee is, goes as its transformer says -/
def InvOK (ins : Instr) (g : Sg) : Prop := ∀ (as rest : List Value) (σ : Hp) (K : Option Value → Hp → Prop) (KX : String → Hp → Prop) (pc : Nat) (H : Heap) (locs : List Loc) (cells slots : Nat) (lsA : Array Slot),
  as.length = g.1 → g.2.2 as σ K KX → rsum rest ≤ 8 → decode cc pc = .ok (ins, 3) → lsA.size = nL → Okh s0 D σ H → (∀ a, σ a ≠ none → A a) → va_S A s.heap H locs → cells + (g.2.1 as σ).1 ≤ R.cells → slots + (g.2.1 as σ).2 ≤ R.slots →
  (∀ (v : Option Value) (σ' : Hp) (H' : Heap) (locs' : List Loc), K v σ' → Okh s0 D σ' H' → (∀ a, σ' a ≠ none → A a) → va_S A s.heap H' locs' → W p l e R s m args below meth c H' locs' (cells + (g.2.1 as σ).1) (slots + (g.2.1 as σ).2) Q (F0 m (pc + 3) lsA (v.toList ++ rest))) →
  (∀ (E : String) (q : Addr) (ce : Cell) (σ' : Hp) (H' : Heap) (locs' : List Loc), KX E σ' → H'[q]? = some ce → ce.vm = .none → s.vm.findClass E = some ce.cls → Okh s0 D σ' H' → (∀ a, σ' a ≠ none → A a) → va_S A s.heap H' locs' → vx_W p l e R s m args below meth c H' locs' (cells + (g.2.1 as σ).1) (slots + (g.2.1 as σ).2) Q (F0 m pc lsA rest) q) →
  W p l e R s m args below meth c H locs cells slots Q (F0 m pc lsA (as.reverse ++ rest))
end SI
section ST
variable {p : Program} {l : Launch} {e : Env} {R : Room} {s : State} {m : MethodId} {args : Array Value} {below : List Frame} {meth : Method} {c : Code}
variable {s0 : State} {D : va_G} {cy : Nat → ClassId} {O : Old} {A : Nat → Prop} {nL : Nat} {own : String} {cc : ByteArray}
variable {K : Option Value → Hp → Prop} {KX : String → Hp → Prop}
theorem r_iret (B : Bd p s m meth c s0 D cy O A nL own cc) {ty : FieldType} (hr : meth.sig.returnType = some ty) {v : Int32} (hn : narrow ty (.int v) = .int v) {pc : Nat} {ls : List (Option Value)} {σ : Hp} {rc rs : Nat} (hK : K (some (.int v)) σ) (hdg : decode cc pc = .ok (.ireturn, 1)) :
    JJ p l e R s m args below meth c s0 D A nL (vx_MQ below (QcF s0 D A K) (XcF s0 D A KX) args s R.cells R.slots A) pc ls [.int v] σ rc rs := by
  intro H locs cells slots lsA h1 h2 h3 h4 h5 h6
  have hlocks := B.2.2.2.2.1
  refine W.widen (k := R.cells) (n := R.slots) (by omega) (by omega) (vx_ret ?_)
  exact W.zret B.1 B.2.1 hr hn (fun t ht hw => ⟨⟨_, σ, rfl, hK, by rw [ht]; exact h1, h2⟩, h3.F ht⟩) h3.2.2 hdg
theorem r_vret (B : Bd p s m meth c s0 D cy O A nL own cc) (hr : meth.sig.returnType = none) {pc : Nat} {ls : List (Option Value)} {σ : Hp} {rc rs : Nat} (hK : K none σ) (hdg : decode cc pc = .ok (.return_, 1)) :
    JJ p l e R s m args below meth c s0 D A nL (vx_MQ below (QcF s0 D A K) (XcF s0 D A KX) args s R.cells R.slots A) pc ls [] σ rc rs := by
  intro H locs cells slots lsA h1 h2 h3 h4 h5 h6
  have hlocks := B.2.2.2.2.1
  refine W.widen (k := R.cells) (n := R.slots) (by omega) (by omega) (vx_ret ?_)
  exact W.vret B.1 B.2.1 hr (fun t ht hw => ⟨⟨_, σ, rfl, hK, by rw [ht]; exact h1, h2⟩, h3.F ht⟩) h3.2.2 hdg
theorem r_aret (B : Bd p s m meth c s0 D cy O A nL own cc) {rt : FieldType} (hr : meth.sig.returnType = some rt) (hrt : (∃ n, rt = .object n) ∨ ∃ t, rt = .array t) {v : Value} (hv : v = .null ∨ ∃ a, v = .ref a) {pc : Nat} {ls : List (Option Value)} {σ : Hp} {rc rs : Nat} (hK : K (some v) σ) (hdg : decode cc pc = .ok (.areturn, 1)) :
    JJ p l e R s m args below meth c s0 D A nL (vx_MQ below (QcF s0 D A K) (XcF s0 D A KX) args s R.cells R.slots A) pc ls [v] σ rc rs := by
  intro H locs cells slots lsA h1 h2 h3 h4 h5 h6
  have hlocks := B.2.2.2.2.1
  refine W.widen (k := R.cells) (n := R.slots) (by omega) (by omega) (vx_ret ?_)
  exact W.aret B.1 B.2.1 hr hrt hv (fun t ht hw => ⟨⟨_, σ, rfl, hK, by rw [ht]; exact h1, h2⟩, h3.F ht⟩) h3.2.2 hdg
end ST
