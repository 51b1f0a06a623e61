/-! ===== what holds from the law's start on ===== -/
def obj (n : Nat) : Bool := match n with
  | 1 => true
  | 2 => true
  | 4 => true
  | 8 => true
  | _ => false
theorem wd_at {a0 args : Array Value} {s0 s : State} {w : Cond} (h : w.before a0 s0 = true) (hW : s0.WarmedH s.vm) (hg : okWord w = true) : w.before args s = true := by
  unfold okWord at hg
  rw [Bool.or_eq_true] at hg
  rcases hg with hg | hg
  · exact word_at hW (good_of_word hg) h
  · split at hg
    · exact va_Nw.use rfl (va_Nw.warmC hW (va_Nw.of rfl h))
    · exact va_Nw.use rfl (va_Nw.warmF hW (va_Nw.of rfl h))
    · exact va_Nw.use rfl (va_Nw.warmM hW (va_Nw.of rfl h))
    · exact va_Nw.use rfl (va_Nw.warmD hW (va_Nw.of rfl h))
    · cases hg
def txt : Nat → List Int32
  | 0 => [99, 111, 110, 101]
  | 1 => [100, 114, 117, 109]
  | 2 => [102, 97, 108, 108]
  | 3 => [108, 111, 119]
  | 4 => [119, 105, 110, 100]
  | 5 => [99, 111, 97, 115, 116]
  | _ => [97, 110, 100]
/-- the String constants that are read: owner, entry, text, number -/
def strTab : List (String × Nat × String × Nat) := [("StormFlags$RuleBook", 81, "cone", 0), ("StormFlags$RuleBook", 83, "drum", 1), ("StormFlags$RuleBook", 85, "fall", 2), ("StormFlags$RuleBook", 87, "low", 3), ("StormFlags$RuleBook", 89, "wind", 4), ("StormFlags$RuleBook", 91, "coast", 5), ("StormFlags$RuleBook", 65, "and", 6),
  ("StormFlagsModel", 159, "cone", 0), ("StormFlagsModel", 161, "drum", 1), ("StormFlagsModel", 148, "fall", 2), ("StormFlagsModel", 154, "low", 3), ("StormFlagsModel", 156, "wind", 4), ("StormFlagsModel", 158, "coast", 5), ("StormFlagsModel", 166, "and", 6)]
/-- messages of exceptions -/
def msgTab : List (Nat × String) := [(84, "a number is none of a port"), (94, "there are 12 ports"), (246, "no such port"), (113, "a number is none of a report"), (115, "there are 300 reports"), (136, "the place is none"), (146, "the text is wrong"), (152, "an hour or the force is none of a gale"), (154, "there are 30 gales"), (162, "a number is none of a boat"), (164, "there are 12 boats"), (248, "no such boat"), (175, "the hour or the hours are none of a trip"), (180, "not 0 to 200 hours"), (191, "no such warning"), (214, "a warning has no such what"), (227, "a boat has no such what"), (240, "a port has no such what")]
/-- what P must be, with nothing of the machine in it -/
def PmOK (P : Pm) : Prop := (∀ k, k < 7 → ∃ v, P.2.2.2.1 (P.1 k) = some v ∧ P.2.1.2 v = some ((txt k).length, fun j => (txt k).getD j 0)) ∧ (P.2.2.2.2 = .null ∨ ∃ a, P.2.2.2.2 = .ref a) ∧ (∀ a n f, P.2.1.2 a = some (n, f) → a ≠ P.2.1.1)
/-- the premises at the law's start, as the contracts use them -/
def E0 (l : Launch) (s0 : State) (D : va_G) (cy : Nat → ClassId) (P : Pm) (a0 : Array Value) : Prop :=
  (∀ w ∈ lw_tbl, w.before a0 s0 = true) ∧ va_K D vwCl (tysG cy) s0 ∧ l.stackTraces = false ∧ PmOK P ∧
  (P.2.1.1 < s0.heap.size ∧ (∃ cell : Cell, s0.heap[P.2.1.1]? = some cell ∧ s0.isArrayOf cell (.object "java/lang/Object") ∧ cell.slots.size.toInt32 = 0)) ∧
  (∀ a n f, P.2.1.2 a = some (n, f) → va_T .byte a n (fun j => .int (f j)) (fun q => s0.heap.size ≤ q) s0 s0.heap) ∧
  (∀ a v, P.2.2.2.1 a = some v → va_O "java/lang/String" a (fun q => s0.heap.size ≤ q) s0 s0.heap ∧ va_OF "java/lang/String" "coder" "B" (.int 0) a (fun q => s0.heap.size ≤ q) s0 s0.heap ∧ va_OF "java/lang/String" "value" "[B" (.ref v) a (fun q => s0.heap.size ≤ q) s0 s0.heap) ∧
  (∀ q ∈ strTab, vk_R q.1 q.2.1 q.2.2.1 (P.1 q.2.2.2) s0) ∧ (∀ q ∈ msgTab, ∃ sa, vk_R "StormFlags" q.1 q.2 sa s0) ∧
  va_Z "java/util/ArrayList" "DEFAULTCAPACITY_EMPTY_ELEMENTDATA" "[Ljava/lang/Object;" (.ref P.2.1.1) (fun q => s0.heap.size ≤ q) s0 s0.heap ∧
  va_Z "java/lang/String" "COMPACT_STRINGS" "Z" (.int 1) (fun q => s0.heap.size ≤ q) s0 s0.heap ∧
  va_Z "jdk/internal/util/Preconditions" "SIOOBE_FORMATTER" "Ljava/util/function/BiFunction;" P.2.2.2.2 (fun q => s0.heap.size ≤ q) s0 s0.heap ∧ (P.2.2.2.2 = .null ∨ ∃ a, P.2.2.2.2 = .ref a) ∧
  va_Mi "[Ljava/lang/Object;" P.2.2.1 s0 ∧
  vx_Zq Bundle.tN "UNASSIGNED_STACK" Bundle.steD (fun q => s0.heap.size ≤ q) s0 s0.heap ∧ vx_Zq Bundle.tN "SUPPRESSED_SENTINEL" Bundle.listD (fun q => s0.heap.size ≤ q) s0 s0.heap
section ENV
variable {l : Launch} {s0 s : State} {D : va_G} {cy : Nat → ClassId} {P : Pm} {a0 args : Array Value} {A : Nat → Prop}
theorem wd (hE : E0 l s0 D cy P a0) (hW : s0.WarmedH s.vm) {w : Cond} (hm : w ∈ lw_tbl) (hg : okWord w = true) : w.before args s = true := wd_at (hE.1 w hm) hW hg
theorem va_Z_at {C n d : String} {v : Value} (h : va_Z C n d v (fun q => s0.heap.size ≤ q) s0 s0.heap) (hal : s0.vm.Alike s.vm) (hold : ∀ q, q < s0.heap.size → s.heap[q]? = s0.heap[q]?) (hA : ∀ q, A q → s0.heap.size ≤ q) : va_Z C n d v A s s.heap := by
  have h1 := va_Z.moved hal h
  obtain ⟨cf, kf, fi, f, a, cell, g1, g2, g3, g4, g5, g6, g7, g8⟩ := h1
  exact ⟨cf, kf, fi, f, a, cell, g1, g2, g3, g4, by rw [hold a (Nat.not_le.mp g8)]; exact g5, g6, g7, fun q => g8 (hA a q)⟩
theorem va_OF_at {o n d : String} {v : Value} {t : Nat} (h : va_OF o n d v t (fun q => s0.heap.size ≤ q) s0 s0.heap) (hal : s0.vm.Alike s.vm) (hold : ∀ q, q < s0.heap.size → s.heap[q]? = s0.heap[q]?) (hA : ∀ q, A q → s0.heap.size ≤ q) : va_OF o n d v t A s s.heap := by
  have h1 := va_OF.moved hal h
  obtain ⟨cf, k, i, f, cell, g1, g2, g3, g4, g5, g6⟩ := h1
  exact ⟨cf, k, i, f, cell, g1, g2, by rw [hold t (Nat.not_le.mp g6)]; exact g3, g4, g5, fun q => g6 (hA t q)⟩
theorem vx_Zq_at {C n d : String} (h : vx_Zq C n d (fun q => s0.heap.size ≤ q) s0 s0.heap) (hal : s0.vm.Alike s.vm) (hold : ∀ q, q < s0.heap.size → s.heap[q]? = s0.heap[q]?) (hA : ∀ q, A q → s0.heap.size ≤ q) : vx_Zq C n d A s s.heap :=
  ((vx_Zq.moved hal h).kept (fun a h1 h2 => hold a h1)).narrow hA
theorem fl_mk (hE : E0 l s0 D cy P a0) (hW : s0.WarmedH s.vm) {own : String} {idx ci k N : Nat} {C : String} {T : u_T} (hc : vwCl[ci]? = some (C, T, N)) (hk : k < N) (hu : ∀ w ∈ u_ws C T N, w ∈ lw_tbl) (hg : (u_ws C T N).all okWord = true) (hl : Cond.fieldLink own idx (T k).1 (T k).2.1 (T k).2.2.1 ∈ lw_tbl) : FLg s args own idx ci k :=
  ⟨C, T, N, (T k).1, hc, hk, fun w h => wd hE hW (hu w h) (List.all_eq_true.mp hg w h), fun x h => h, Or.inl (wd hE hW hl rfl)⟩
theorem fl_mkN (hE : E0 l s0 D cy P a0) (hW : s0.WarmedH s.vm) {own host : String} {idx ci k N : Nat} {C : String} {T : u_T} (hc : vwCl[ci]? = some (C, T, N)) (hk : k < N) (hu : ∀ w ∈ u_ws C T N, w ∈ lw_tbl) (hg : (u_ws C T N).all okWord = true) (hl : Cond.fieldLinkNest own idx (T k).1 (T k).2.1 (T k).2.2.1 host ∈ lw_tbl) : FLg s args own idx ci k :=
  ⟨C, T, N, (T k).1, hc, hk, fun w h => wd hE hW (hu w h) (List.all_eq_true.mp hg w h), fun x h => h, Or.inr ⟨host, wd hE hW hl rfl⟩⟩
theorem fp_mk (hE : E0 l s0 D cy P a0) (hW : s0.WarmedH s.vm) {own : String} {meth : Method} {idx ci k N : Nat} {C : String} {T : u_T} {ty : FieldType} {ty0 : Nat → FieldType} (hc : vwCl[ci]? = some (C, T, N)) (hk : k < N) (hu : ∀ w ∈ u_ws C T N, w ∈ lw_tbl) (hg : (u_ws C T N).all okWord = true) (hty : ∀ k, k < N → parseFieldDescriptor (T k).2.2.1 = some (ty0 k)) (hnm : ∀ a, a < N → ∀ b, b < N → a ≠ b → (T a).2.1 ≠ (T b).2.1) (ht : ty0 k = ty) (hf : (T k).2.2.2 = false) (hl : Cond.fieldLink own idx (T k).1 (T k).2.1 (T k).2.2.1 ∈ lw_tbl) : FLp s args meth own idx ci k ty :=
  ⟨C, T, N, (T k).1, ty0, hc, hk, fun w h => wd hE hW (hu w h) (List.all_eq_true.mp hg w h), hty, hnm, by rw [hty k hk, ht], fun x h => h, Or.inl ⟨hf, wd hE hW hl rfl⟩⟩
theorem fp_mkN (hE : E0 l s0 D cy P a0) (hW : s0.WarmedH s.vm) {own host : String} {meth : Method} {idx ci k N : Nat} {C : String} {T : u_T} {ty : FieldType} {ty0 : Nat → FieldType} (hc : vwCl[ci]? = some (C, T, N)) (hk : k < N) (hu : ∀ w ∈ u_ws C T N, w ∈ lw_tbl) (hg : (u_ws C T N).all okWord = true) (hty : ∀ k, k < N → parseFieldDescriptor (T k).2.2.1 = some (ty0 k)) (hnm : ∀ a, a < N → ∀ b, b < N → a ≠ b → (T a).2.1 ≠ (T b).2.1) (ht : ty0 k = ty) (hf : (T k).2.2.2 = false) (hl : Cond.fieldLinkNest own idx (T k).1 (T k).2.1 (T k).2.2.1 host ∈ lw_tbl) : FLp s args meth own idx ci k ty :=
  ⟨C, T, N, (T k).1, ty0, hc, hk, fun w h => wd hE hW (hu w h) (List.all_eq_true.mp hg w h), hty, hnm, by rw [hty k hk, ht], fun x h => h, Or.inr (Or.inl ⟨hf, host, wd hE hW hl rfl⟩)⟩
theorem fp_mkF (hE : E0 l s0 D cy P a0) (hW : s0.WarmedH s.vm) {own : String} {meth : Method} {idx ci k N : Nat} {C : String} {T : u_T} {ty : FieldType} {ty0 : Nat → FieldType} (hm : meth.name = "<init>") (hc : vwCl[ci]? = some (C, T, N)) (hk : k < N) (hu : ∀ w ∈ u_ws C T N, w ∈ lw_tbl) (hg : (u_ws C T N).all okWord = true) (hty : ∀ k, k < N → parseFieldDescriptor (T k).2.2.1 = some (ty0 k)) (hnm : ∀ a, a < N → ∀ b, b < N → a ≠ b → (T a).2.1 ≠ (T b).2.1) (ht : ty0 k = ty) (hf : (T k).2.2.2 = true) (hd : (T k).1 = own) (hl : Cond.fieldLink own idx (T k).1 (T k).2.1 (T k).2.2.1 ∈ lw_tbl) : FLp s args meth own idx ci k ty :=
  ⟨C, T, N, (T k).1, ty0, hc, hk, fun w h => wd hE hW (hu w h) (List.all_eq_true.mp hg w h), hty, hnm, by rw [hty k hk, ht], fun x h => h, Or.inr (Or.inr ⟨hf, hm, hd, wd hE hW hl rfl⟩)⟩
theorem nw_mk (hE : E0 l s0 D cy P a0) (hW : s0.WarmedH s.vm) {own : String} {idx ci N : Nat} {C : String} {T : u_T} {ty0 : Nat → FieldType} {fs : List Value} (hc : vwCl[ci]? = some (C, T, N)) (hn : fs.length = N) (hu : ∀ w ∈ u_ws C T N, w ∈ lw_tbl) (hg : (u_ws C T N).all okWord = true) (hty : ∀ k, k < N → parseFieldDescriptor (T k).2.2.1 = some (ty0 k)) (hl : Cond.classLink own idx C ∈ lw_tbl) (hi : Cond.instantiable C N ∈ lw_tbl) (hini : Cond.initialized C ∈ lw_tbl) (hd : ∀ j, j < N → defaultValue (ty0 j) = vp_V fs j) : NWo s args own idx ci fs :=
  ⟨C, T, N, ty0, hc, hn, fun w h => wd hE hW (hu w h) (List.all_eq_true.mp hg w h), hty, wd hE hW hl rfl, wd hE hW hi rfl, wd hE hW hini rfl, hd⟩
end ENV
