/-! ===== the machine's side: a heap function held by a heap; the judgement JJ; rows for single instructions ===== -/
theorem nth_eq {α : Type} : ∀ (l : List α) (n : Nat), nth l n = l[n]?
  | [], n => by simp [nth]
  | a :: l, 0 => by simp [nth]
  | a :: l, n + 1 => by simp [nth, nth_eq l n]
theorem setN_eq : ∀ (l : List Value) (n : Nat) (v : Value), setN l n v = l.set n v
  | [], n, v => by simp [setN]
  | a :: l, 0, v => by simp [setN]
  | a :: l, n + 1, v => by simp [setN, setN_eq l n v]
theorem sto_len : ∀ (l : List (Option Value)) (n : Nat) (v : Value), (sto l n v).length = l.length
  | [], n, v => rfl
  | a :: l, 0, v => rfl
  | a :: l, n + 1, v => by simp [sto, sto_len l n v]
theorem popN_spec : ∀ (n : Nat) (st acc as r : List Value), popN n st acc = some (as, r) → ∃ xs : List Value, as = xs ++ acc ∧ xs.length = n ∧ st = xs.reverse ++ r
  | 0, st, acc, as, r, h => by
    simp only [popN, Option.some.injEq, Prod.mk.injEq] at h
    exact ⟨[], by rw [← h.1]; rfl, rfl, by rw [← h.2]; rfl⟩
  | n + 1, v :: st, acc, as, r, h => by
    obtain ⟨xs, h1, h2, h3⟩ := popN_spec n st (v :: acc) as r h
    exact ⟨xs ++ [v], by rw [h1]; simp, by simp [h2], by rw [h3]; simp⟩
  | n + 1, [], acc, as, r, h => by simp [popN] at h
theorem popN_nil {n : Nat} {st as r : List Value} (h : popN n st [] = some (as, r)) : as.length = n ∧ st = as.reverse ++ r := by
  obtain ⟨xs, h1, h2, h3⟩ := popN_spec n st [] as r h
  rw [List.append_nil] at h1
  subst h1
  exact ⟨h2, h3⟩
def lvO : Nat → List (Option Value) → List (Nat × Value)
  | _, [] => []
  | b, none :: l => lvO (b + 1) l
  | b, some v :: l => (b, v) :: lvO (b + 1) l
theorem lvO_mem : ∀ (l : List (Option Value)) (b i : Nat) (v : Value), (i, v) ∈ lvO b l ↔ ∃ j, i = b + j ∧ nth l j = some (some v)
  | [], b, i, v => by simp [lvO, nth]
  | none :: l, b, i, v => by
    rw [lvO, lvO_mem l (b + 1) i v]
    constructor
    · rintro ⟨j, h1, h2⟩; exact ⟨j + 1, by omega, h2⟩
    · rintro ⟨j, h1, h2⟩
      cases j with
      | zero => simp [nth] at h2
      | succ j => exact ⟨j, by omega, h2⟩
  | some w :: l, b, i, v => by
    rw [lvO, List.mem_cons, lvO_mem l (b + 1) i v]
    constructor
    · rintro (h | ⟨j, h1, h2⟩)
      · cases h; exact ⟨0, rfl, rfl⟩
      · exact ⟨j + 1, by omega, h2⟩
    · rintro ⟨j, h1, h2⟩
      cases j with
      | zero => left; simp only [nth, Option.some.injEq] at h2; subst h2; simpa using h1
      | succ j => right; exact ⟨j, by omega, h2⟩
theorem sto_nth : ∀ (l : List (Option Value)) (i j : Nat) (v : Value), nth (sto l i v) j = if j = i ∧ i < l.length then some (some v) else nth l j
  | [], i, j, v => by simp [sto, nth]
  | x :: l, 0, 0, v => by simp [sto, nth]
  | x :: l, 0, j + 1, v => by simp [sto, nth]
  | x :: l, i + 1, 0, v => by simp [sto, nth]
  | x :: l, i + 1, j + 1, v => by simp [sto, nth, sto_nth l i j v]
def lh (lsA : Array Slot) (nL : Nat) (ls : List (Option Value)) : Prop := ls.length = nL ∧ lv_has lsA nL (lvO 0 ls) ∧ ∀ q ∈ lvO 0 ls, q.2.category = 1
theorem lh_at {lsA : Array Slot} {nL : Nat} {ls : List (Option Value)} (h : lh lsA nL ls) {i : Nat} {v : Value} (hv : nth ls i = some (some v)) : lsA[i]? = some (.val v) :=
  h.2.1.2.2 (i, v) ((lvO_mem ls 0 i v).mpr ⟨i, by omega, hv⟩)
theorem lh_sto {lsA ls' : Array Slot} {nL i : Nat} {ls : List (Option Value)} {v : Value} (h : lh lsA nL ls) (hc : v.category = 1)
    (h' : lv_has ls' nL ((i, v) :: (lvO 0 ls).filter (fun q => !(q.1 == i) && !(q.1 + 1 == i && q.2.category == 2)))) : lh ls' nL (sto ls i v) := by
  have key : ∀ j w, (j, w) ∈ lvO 0 (sto ls i v) → (j = i ∧ w = v) ∨ (j ≠ i ∧ (j, w) ∈ lvO 0 ls) := by
    intro j w hm
    obtain ⟨j', e1, e2⟩ := (lvO_mem _ _ _ _).mp hm
    have : j = j' := by omega
    subst this
    rw [sto_nth] at e2
    by_cases hj : j = i ∧ i < ls.length
    · rw [if_pos hj] at e2; cases e2; exact Or.inl ⟨hj.1, rfl⟩
    · rw [if_neg hj] at e2
      by_cases hji : j = i
      · exfalso
        subst hji
        have hlt : ¬ j < ls.length := fun q => hj ⟨rfl, q⟩
        rw [nth_eq, List.getElem?_eq_none (by omega)] at e2
        cases e2
      · exact Or.inr ⟨hji, (lvO_mem _ _ _ _).mpr ⟨j, by omega, e2⟩⟩
  refine ⟨by rw [sto_len]; exact h.1, ⟨h'.1, h'.2.1, ?_⟩, ?_⟩
  · rintro ⟨j, w⟩ hq
    rcases key j w hq with ⟨rfl, rfl⟩ | ⟨hj, hm⟩
    · exact h'.2.2 (j, w) List.mem_cons_self
    · refine h'.2.2 (j, w) (List.mem_cons_of_mem _ (List.mem_filter.mpr ⟨hm, ?_⟩))
      have hw := h.2.2 _ hm
      dsimp only at hw
      simp [hj, hw]
  · rintro ⟨j, w⟩ hq
    rcases key j w hq with ⟨rfl, rfl⟩ | ⟨-, hm⟩
    · exact hc
    · exact h.2.2 _ hm
/-- the heap H holds what σ says; all of it lies behind the law's own start -/
def Okh (s0 : State) (D : va_G) (σ : Hp) (H : Heap) : Prop :=
  ∃ (L : List Nat) (f : Nat → va_E), (∀ (a : Nat) (e : va_E), σ a = some e ↔ a ∈ L ∧ f a = e) ∧ va_P D vwCl (va_pl L f) H ∧ va_D (fun a => s0.heap.size ≤ a) (va_pl L f)
theorem pl_mem {L : List Nat} {f : Nat → va_E} {k : Nat} {q : Nat × va_E} (h : (va_pl L f)[k]? = some q) : q.1 ∈ L ∧ q.2 = f q.1 := by
  unfold va_pl at h
  rw [List.getElem?_map] at h
  cases hl : L[k]? with
  | none => rw [hl] at h; cases h
  | some a => rw [hl] at h; cases h; exact ⟨List.mem_of_getElem? hl, rfl⟩
theorem Okh_ope {s0 : State} {D : va_G} {σ : Hp} {H : Heap} {A : Nat → Prop} (h : Okh s0 D σ H) (hA : ∀ a, σ a ≠ none → A a) :
    ∃ (L : List Nat) (f : Nat → va_E), (∀ (a : Nat) (e : va_E), σ a = some e ↔ a ∈ L ∧ f a = e) ∧ va_P D vwCl (va_pl L f) H ∧ va_D A (va_pl L f) ∧ va_D (fun a => s0.heap.size ≤ a) (va_pl L f) := by
  obtain ⟨L, f, h1, h2, h3⟩ := h
  refine ⟨L, f, h1, h2, h3.weaken (fun k q hk _ => hA q.1 ?_), h3⟩
  rw [(h1 q.1 (f q.1)).mpr ⟨(pl_mem hk).1, rfl⟩]
  exact fun z => by cases z
theorem pl_at {L : List Nat} {f : Nat → va_E} {a : Nat} (h : a ∈ L) : ∃ k : Nat, (va_pl L f)[k]? = some (a, f a) := by
  obtain ⟨k, hk⟩ := va_pl_get (X := []) (f := f) h
  exact ⟨k, hk⟩
theorem pl_set {A : Nat → Prop} {L : List Nat} {f : Nat → va_E} {a k : Nat} {e : va_E} (hD : va_D A (va_pl L f)) (h : a ∈ L) (hk : (va_pl L f)[k]? = some (a, f a)) : (va_pl L f).set k (a, e) = va_pl L (va_up f a e) :=
  va_pl_set (X := []) hD h hk
theorem hup_iff {σ : Hp} {L : List Nat} {f : Nat → va_E} {a : Nat} {e' : va_E} (h : ∀ (b : Nat) (e : va_E), σ b = some e ↔ b ∈ L ∧ f b = e) (ha : a ∈ L) :
    ∀ (b : Nat) (e : va_E), hup σ a e' b = some e ↔ b ∈ L ∧ va_up f a e' b = e := by
  intro b e
  unfold hup va_up
  by_cases hb : b = a
  · subst hb; simp [ha]
  · rw [if_neg hb, if_neg hb]; exact h b e
theorem hup_iff_new {σ : Hp} {L : List Nat} {f : Nat → va_E} {a : Nat} {e' : va_E} (h : ∀ (b : Nat) (e : va_E), σ b = some e ↔ b ∈ L ∧ f b = e) :
    ∀ (b : Nat) (e : va_E), hup σ a e' b = some e ↔ b ∈ L ++ [a] ∧ va_up f a e' b = e := by
  intro b e
  unfold hup va_up
  by_cases hb : b = a
  · subst hb; simp
  · rw [if_neg hb, if_neg hb, h b e]; simp [hb]
theorem hup_dom {σ : Hp} {A : Nat → Prop} {a : Nat} {e' : va_E} (h : ∀ b, σ b ≠ none → A b) (ha : A a) : ∀ b, hup σ a e' b ≠ none → A b := by
  intro b hb
  by_cases hba : b = a
  · subst hba; exact ha
  · rw [hup_ne _ _ hba] at hb; exact h b hb
abbrev tysG (cy : Nat → ClassId) : List (ClassId × FieldType) := [(cy 0, .int), (cy 1, .byte), (cy 2, .long), (cy 3, .object "java/lang/Object"), (cy 4, .array .int)]
section SD
variable (p : Program) (l : Launch) (e : Env) (R : Room) (s : State) (m : MethodId) (args : Array Value) (below : List Frame) (meth : Method) (c : Code)
variable (s0 : State) (D : va_G) (cy : Nat → ClassId) (O : Old) (A : Nat → Prop) (nL : Nat) (own : String) (cc : ByteArray)
/-- the judgement of a body: from this place, with these locals, this stack, this heap and this much room left, the machine comes to Q -/
def JJ (Q : State → Prop) : Jt := fun pc ls st σ rc rs => ∀ (H : Heap) (locs : List Loc) (cells slots : Nat) (lsA : Array Slot), Okh s0 D σ H → (∀ a, σ a ≠ none → A a) → va_S A s.heap H locs → cells + rc ≤ R.cells → slots + rs ≤ R.slots → lh lsA nL ls →
  W p l e R s m args below meth c H locs cells slots Q (F0 m pc lsA st)
/-- what a body may take as given -/
def Bd : Prop := p.tables.exec = Jvm.exec ∧ c.code = cc ∧ c.maxLocals = nL ∧ s.vm.findClass own = some m.cls ∧ meth.locks = false ∧ va_K D vwCl (tysG cy) s ∧ (∀ q, s.heap.size ≤ q → A q) ∧ (∀ q, A q → s0.heap.size ≤ q) ∧ s0.heap.size ≤ s.heap.size ∧
  s0.WarmedH s.vm ∧ (∀ q, q < s0.heap.size → s.heap[q]? = s0.heap[q]?) ∧ O.1 < s0.heap.size ∧ (∃ cell : Cell, s.heap[O.1]? = some cell ∧ s.isArrayOf cell (.object "java/lang/Object") ∧ cell.slots.size.toInt32 = 0) ∧ (∀ a n f, O.2 a = some (n, f) → va_T .byte a n (fun j => .int (f j)) A s s.heap)
/-- a field by its pool entry: read -/
def FLg (idx ci k : Nat) : Prop := ∃ (C : String) (T : u_T) (N : Nat) (ref : String), vwCl[ci]? = some (C, T, N) ∧ k < N ∧ (∀ w ∈ u_ws C T N, w.before args s = true) ∧
  (∀ x, s.fieldFound? (T k).1 (T k).2.1 (T k).2.2.1 = some x → s.fieldFound? ref (T k).2.1 (T k).2.2.1 = some x) ∧
  ((Cond.fieldLink own idx ref (T k).2.1 (T k).2.2.1).before args s = true ∨ ∃ host : String, (Cond.fieldLinkNest own idx ref (T k).2.1 (T k).2.2.1 host).before args s = true)
/-- a field by its pool entry: written -/
def FLp (idx ci k : Nat) (ty : FieldType) : Prop := ∃ (C : String) (T : u_T) (N : Nat) (ref : String) (ty0 : Nat → FieldType), vwCl[ci]? = some (C, T, N) ∧ k < N ∧ (∀ w ∈ u_ws C T N, w.before args s = true) ∧
  (∀ k, k < N → parseFieldDescriptor (T k).2.2.1 = some (ty0 k)) ∧ (∀ a, a < N → ∀ b, b < N → a ≠ b → (T a).2.1 ≠ (T b).2.1) ∧ parseFieldDescriptor (T k).2.2.1 = some ty ∧
  (∀ x, s.fieldFound? (T k).1 (T k).2.1 (T k).2.2.1 = some x → s.fieldFound? ref (T k).2.1 (T k).2.2.1 = some x) ∧
  (((T k).2.2.2 = false ∧ (Cond.fieldLink own idx ref (T k).2.1 (T k).2.2.1).before args s = true) ∨ ((T k).2.2.2 = false ∧ ∃ host : String, (Cond.fieldLinkNest own idx ref (T k).2.1 (T k).2.2.1 host).before args s = true) ∨
    ((T k).2.2.2 = true ∧ meth.name = "<init>" ∧ (T k).1 = own ∧ (Cond.fieldLink own idx ref (T k).2.1 (T k).2.2.1).before args s = true))
/-- a class that is made -/
def NWo (idx ci : Nat) (fs : List Value) : Prop := ∃ (C : String) (T : u_T) (N : Nat) (ty0 : Nat → FieldType), vwCl[ci]? = some (C, T, N) ∧ fs.length = N ∧ (∀ w ∈ u_ws C T N, w.before args s = true) ∧ (∀ k, k < N → parseFieldDescriptor (T k).2.2.1 = some (ty0 k)) ∧
  (Cond.classLink own idx C).before args s = true ∧ (Cond.instantiable C N).before args s = true ∧ (Cond.initialized C).before args s = true ∧ (∀ j, j < N → defaultValue (ty0 j) = vp_V fs j)
end SD
