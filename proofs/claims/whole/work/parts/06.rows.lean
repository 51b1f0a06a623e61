/-! ===== rows for single instructions, over JJ ===== -/
section RW
variable {p : Program} {l : Launch} {e : Env} {R : Room} {s : State} {m : MethodId} {args : Array Value} {below : List Frame} {meth : Method} {c : Code}
variable {s0 : State} {D : va_G} {cy : Nat → ClassId} {O : Old} {A : Nat → Prop} {nL : Nat} {own : String} {cc : ByteArray} {Q : State → Prop}
variable {pc : Nat} {ls : List (Option Value)} {st : List Value} {σ : Hp} {rc rs : Nat}
/-- a row that leaves heap and locals alone -/
theorem r_go {pc' : Nat} {st' : List Value} (h : JJ p l e R s m args below meth c s0 D A nL Q pc' ls st' σ rc rs)
    (row : ∀ (H : Heap) (locs : List Loc) (cells slots : Nat) (lsA : Array Slot), W p l e R s m args below meth c H locs cells slots Q (F0 m pc' lsA st') → W p l e R s m args below meth c H locs cells slots Q (F0 m pc lsA st)) : JJ p l e R s m args below meth c s0 D A nL Q pc ls st σ rc rs :=
  fun H locs cells slots lsA h1 h2 h3 h4 h5 h6 => row H locs cells slots lsA (h H locs cells slots lsA h1 h2 h3 h4 h5 h6)
theorem r_if {pc1 pc2 : Nat} {st' : List Value} {C : Prop} (h1 : C → JJ p l e R s m args below meth c s0 D A nL Q pc1 ls st' σ rc rs) (h2 : ¬ C → JJ p l e R s m args below meth c s0 D A nL Q pc2 ls st' σ rc rs)
    (row : ∀ (H : Heap) (locs : List Loc) (cells slots : Nat) (lsA : Array Slot), (C → W p l e R s m args below meth c H locs cells slots Q (F0 m pc1 lsA st')) → (¬ C → W p l e R s m args below meth c H locs cells slots Q (F0 m pc2 lsA st')) → W p l e R s m args below meth c H locs cells slots Q (F0 m pc lsA st)) : JJ p l e R s m args below meth c s0 D A nL Q pc ls st σ rc rs :=
  fun H locs cells slots lsA g1 g2 g3 g4 g5 g6 => row H locs cells slots lsA (fun q => h1 q H locs cells slots lsA g1 g2 g3 g4 g5 g6) (fun q => h2 q H locs cells slots lsA g1 g2 g3 g4 g5 g6)
theorem tgt_ok {pc : Nat} {off : Int} (h : 0 ≤ (pc : Int) + off) : (pc : Int) + off = (tgt pc off : Int) := by unfold tgt; omega
theorem r_get (B : Bd p s m meth c s0 D cy O A nL own cc) {idx ci k a : Nat} {fs : List Value} {v : Value} {r : List Value} (hF : FLg s args own idx ci k) (hσ : σ a = some (.inr (ci, fs))) (hv : nth fs k = some v) (hdg : decode cc pc = .ok (.getfield idx, 3))
    (h : JJ p l e R s m args below meth c s0 D A nL Q (pc + 3) ls (v :: r) σ rc rs) : JJ p l e R s m args below meth c s0 D A nL Q pc ls (.ref a :: r) σ rc rs := by
  obtain ⟨hx, hb, hml, hown, hlk, hK, -⟩ := B
  obtain ⟨C, T, N, ref, hc, hk, hw, hsame, hl⟩ := hF
  intro H locs cells slots lsA h1 h2 h3 h4 h5 h6
  obtain ⟨L, f, i1, hP, hD, hD0⟩ := Okh_ope h1 h2
  obtain ⟨ha, he⟩ := (i1 _ _).mp hσ
  obtain ⟨k0, hk0⟩ := pl_at (f := f) ha
  rw [he] at hk0
  rw [nth_eq] at hv
  have kk := h H locs cells slots lsA h1 h2 h3 h4 h5 h6
  rcases hl with hl | ⟨host, hl⟩
  · exact va_get hx hb hw (fun _ h => h) hown hK hP k0 hk0 hc k hk hl hsame hv hdg kk
  · exact va_getN hx hb hw (fun _ h => h) hown hK hP k0 hk0 hc k hk hl hsame hv hdg kk
theorem okv_fits {ty : FieldType} {v : Value} (h : okv ty v = true) : narrow ty v = v ∧ fits ty v = true := by
  cases ty <;> cases v <;> first | (simp [okv] at h; done) | exact ⟨rfl, rfl⟩
theorem r_put (B : Bd p s m meth c s0 D cy O A nL own cc) {idx ci k a : Nat} {ty : FieldType} {fs : List Value} {v : Value} {r : List Value} (hF : FLp s args meth own idx ci k ty) (hσ : σ a = some (.inr (ci, fs))) (hlen : k < fs.length) (hv : okv ty v = true) (hdg : decode cc pc = .ok (.putfield idx, 3))
    (h : JJ p l e R s m args below meth c s0 D A nL Q (pc + 3) ls r (hup σ a (.inr (ci, setN fs k v))) rc rs) : JJ p l e R s m args below meth c s0 D A nL Q pc ls (v :: .ref a :: r) σ rc rs := by
  obtain ⟨hx, hb, hml, hown, hlk, hK, -⟩ := B
  obtain ⟨C, T, N, ref, ty0, hc, hk, hw, hty, hnm, hd, hsame, hl⟩ := hF
  obtain ⟨hn, hf⟩ := okv_fits hv
  intro H locs cells slots lsA h1 h2 h3 h4 h5 h6
  obtain ⟨L, f, i1, hP, hD, hD0⟩ := Okh_ope h1 h2
  obtain ⟨ha, he⟩ := (i1 _ _).mp hσ
  obtain ⟨k0, hk0⟩ := pl_at (f := f) ha
  have hset := pl_set (e := (.inr (ci, setN fs k v))) hD ha hk0
  have hD0' := (hD0.set (e := (.inr (ci, setN fs k v))) hk0)
  rw [hset] at hD0'
  rw [he] at hk0
  have hAa : A a := h2 a (by rw [hσ]; exact fun q => by cases q)
  have kk : ∀ (H1 : Heap) (locs1 : List Loc), va_P D vwCl ((va_pl L f).set k0 (a, .inr (ci, fs.set k v))) H1 → va_D A ((va_pl L f).set k0 (a, .inr (ci, fs.set k v))) → va_S A s.heap H1 locs1 → W p l e R s m args below meth c H1 locs1 cells slots Q (F0 m (pc + 3) lsA r) := by
    intro H1 locs1 hP1 hD1 hS1
    rw [← setN_eq, hset] at hP1
    exact h H1 locs1 cells slots lsA ⟨L, va_up f a (.inr (ci, setN fs k v)), hup_iff i1 ha, hP1, hD0'⟩ (hup_dom h2 hAa) hS1 h4 h5 h6
  rcases hl with ⟨hfin, hl⟩ | ⟨hfin, host, hl⟩ | ⟨hfin, hini, hdecl, hl⟩
  · exact va_put hx hb hw (fun _ h => h) ty0 hty hnm hown hK hP hD h3 k0 hk0 hc k hk hl hsame hfin hd hn hf hlen hdg kk
  · exact va_putN hx hb hw (fun _ h => h) ty0 hty hnm hown hK hP hD h3 k0 hk0 hc k hk hl hsame hfin hd hn hf hlen hdg kk
  · exact va_putF hx hb hw (fun _ h => h) ty0 hty hnm hown hK hP hD h3 k0 hk0 hc k hk hl hsame hfin hini hdecl hd hn hf hlen hdg kk
theorem r_ld (h : JJ p l e R s m args below meth c s0 D A nL Q pc ls st σ rc rs) : ∀ (H : Heap) (locs : List Loc) (cells slots : Nat) (lsA : Array Slot), Okh s0 D σ H → (∀ a, σ a ≠ none → A a) → va_S A s.heap H locs → cells + rc ≤ R.cells → slots + rs ≤ R.slots → lh lsA nL ls →
  W p l e R s m args below meth c H locs cells slots Q (F0 m pc lsA st) := h
theorem r_sti {i : Nat} {x : Int32} {r : List Value} {pc' : Nat} (hi : i < ls.length) (h : JJ p l e R s m args below meth c s0 D A nL Q pc' (sto ls i (.int x)) r σ rc rs)
    (row : ∀ (H : Heap) (locs : List Loc) (cells slots : Nat) (lsA : Array Slot) (lv lv' : List (Nat × Value)), lv_has lsA nL lv → i < nL → (i, Value.int x) :: lv.filter (fun q => !(q.1 == i) && !(q.1 + 1 == i && q.2.category == 2)) = lv' → (∀ ls' : Array Slot, lv_has ls' nL lv' → W p l e R s m args below meth c H locs cells slots Q (F0 m pc' ls' r)) → W p l e R s m args below meth c H locs cells slots Q (F0 m pc lsA (.int x :: r))) :
    JJ p l e R s m args below meth c s0 D A nL Q pc ls (.int x :: r) σ rc rs :=
  fun H locs cells slots lsA h1 h2 h3 h4 h5 h6 => row H locs cells slots lsA (lvO 0 ls) _ h6.2.1 (by rw [← h6.1]; exact hi) rfl (fun ls' hls => h H locs cells slots ls' h1 h2 h3 h4 h5 (lh_sto h6 rfl hls))
theorem r_sta {i : Nat} {x : Nat} {r : List Value} {pc' : Nat} (hi : i < ls.length) (h : JJ p l e R s m args below meth c s0 D A nL Q pc' (sto ls i (.ref x)) r σ rc rs)
    (row : ∀ (H : Heap) (locs : List Loc) (cells slots : Nat) (lsA : Array Slot) (lv lv' : List (Nat × Value)), lv_has lsA nL lv → i < nL → (i, Value.ref x) :: lv.filter (fun q => !(q.1 == i) && !(q.1 + 1 == i && q.2.category == 2)) = lv' → (∀ ls' : Array Slot, lv_has ls' nL lv' → W p l e R s m args below meth c H locs cells slots Q (F0 m pc' ls' r)) → W p l e R s m args below meth c H locs cells slots Q (F0 m pc lsA (.ref x :: r))) :
    JJ p l e R s m args below meth c s0 D A nL Q pc ls (.ref x :: r) σ rc rs :=
  fun H locs cells slots lsA h1 h2 h3 h4 h5 h6 => row H locs cells slots lsA (lvO 0 ls) _ h6.2.1 (by rw [← h6.1]; exact hi) rfl (fun ls' hls => h H locs cells slots ls' h1 h2 h3 h4 h5 (lh_sto h6 rfl hls))
theorem r_stn {i : Nat} {r : List Value} {pc' : Nat} (hi : i < ls.length) (h : JJ p l e R s m args below meth c s0 D A nL Q pc' (sto ls i .null) r σ rc rs)
    (row : ∀ (H : Heap) (locs : List Loc) (cells slots : Nat) (lsA : Array Slot) (lv lv' : List (Nat × Value)), lv_has lsA nL lv → i < nL → (i, Value.null) :: lv.filter (fun q => !(q.1 == i) && !(q.1 + 1 == i && q.2.category == 2)) = lv' → (∀ ls' : Array Slot, lv_has ls' nL lv' → W p l e R s m args below meth c H locs cells slots Q (F0 m pc' ls' r)) → W p l e R s m args below meth c H locs cells slots Q (F0 m pc lsA (.null :: r))) :
    JJ p l e R s m args below meth c s0 D A nL Q pc ls (.null :: r) σ rc rs :=
  fun H locs cells slots lsA h1 h2 h3 h4 h5 h6 => row H locs cells slots lsA (lvO 0 ls) _ h6.2.1 (by rw [← h6.1]; exact hi) rfl (fun ls' hls => h H locs cells slots ls' h1 h2 h3 h4 h5 (lh_sto h6 rfl hls))
theorem r_inc (B : Bd p s m meth c s0 D cy O A nL own cc) {i : Nat} {n : Int} {x : Int32} (hv : nth ls i = some (some (.int x))) (hdg : decode cc pc = .ok (.iinc i n, 3)) (h : JJ p l e R s m args below meth c s0 D A nL Q (pc + 3) (sto ls i (.int (x + Int32.ofInt n))) st σ rc rs) :
    JJ p l e R s m args below meth c s0 D A nL Q pc ls st σ rc rs := by
  obtain ⟨hx, hb, hml, hown, hlk, hK, -⟩ := B
  intro H locs cells slots lsA h1 h2 h3 h4 h5 h6
  have hm : (i, Value.int x) ∈ lvO 0 ls := (lvO_mem ls 0 i _).mpr ⟨i, by omega, hv⟩
  obtain ⟨k, hk⟩ := List.getElem?_of_mem hm
  have hi : i < ls.length := by
    rw [nth_eq] at hv
    exact (List.getElem?_eq_some_iff.mp hv).1
  exact lv_iinc hx hb hdg h6.2.1 hk rfl (by rw [← h6.1]; exact hi) rfl (fun ls' hls => h H locs cells slots ls' h1 h2 h3 h4 h5 (lh_sto h6 rfl hls))
theorem r_alen (B : Bd p s m meth c s0 D cy O A nL own cc) {a : Nat} {cA : ClassId} {x : vp_A} {r : List Value} (hσ : σ a = some (.inl (cA, x))) (hcA : cA = cy 0 ∨ cA = cy 1 ∨ cA = cy 2 ∨ cA = cy 3 ∨ cA = cy 4) (hdg : decode cc pc = .ok (.arraylength, 1))
    (h : JJ p l e R s m args below meth c s0 D A nL Q (pc + 1) ls (.int (Int32.ofNat x.1) :: r) σ rc rs) : JJ p l e R s m args below meth c s0 D A nL Q pc ls (.ref a :: r) σ rc rs := by
  obtain ⟨hx, hb, hml, hown, hlk, hK, -⟩ := B
  obtain ⟨ty, t0, ht⟩ : ∃ (ty : FieldType) (t0 : Nat), (tysG cy)[t0]? = some (cA, ty) := by
    rcases hcA with h | h | h | h | h <;> subst h
    · exact ⟨_, 0, rfl⟩
    · exact ⟨_, 1, rfl⟩
    · exact ⟨_, 2, rfl⟩
    · exact ⟨_, 3, rfl⟩
    · exact ⟨_, 4, rfl⟩
  intro H locs cells slots lsA h1 h2 h3 h4 h5 h6
  obtain ⟨L, f, i1, hP, hD, hD0⟩ := Okh_ope h1 h2
  obtain ⟨ha, he⟩ := (i1 _ _).mp hσ
  obtain ⟨k0, hk0⟩ := pl_at (f := f) ha
  rw [he] at hk0
  exact va_alen hx hb hK hP k0 t0 hk0 ht rfl hdg (h H locs cells slots lsA h1 h2 h3 h4 h5 h6)
theorem r_alenz (B : Bd p s m meth c s0 D cy O A nL own cc) {r : List Value} (hdg : decode cc pc = .ok (.arraylength, 1))
    (h : JJ p l e R s m args below meth c s0 D A nL Q (pc + 1) ls (.int 0 :: r) σ rc rs) : JJ p l e R s m args below meth c s0 D A nL Q pc ls (.ref O.1 :: r) σ rc rs := by
  obtain ⟨hx, hb, hml, hown, hlk, hK, hA1, hA2, hss, -, hold, hz, ⟨cell, hcell, harr, hsz⟩, -⟩ := B
  intro H locs cells slots lsA h1 h2 h3 h4 h5 h6
  have hzA : ¬ A O.1 := fun q => by have := hA2 _ q; omega
  have hcH : H[O.1]? = some cell := by rw [h3.2.1 _ (by omega) hzA]; exact hcell
  exact W.alen (n := 0) hx hb hcH harr hsz rfl rfl hdg (h H locs cells slots lsA h1 h2 h3 h4 h5 h6)
theorem r_iald (B : Bd p s m meth c s0 D cy O A nL own cc) {a n : Nat} {f : Nat → Int32} {i : Int32} {r : List Value} (hσ : σ a = some (.inl (cy 0, n, .inl f))) (hin : vp_in i n) (hdg : decode cc pc = .ok (.iaload, 1))
    (h : JJ p l e R s m args below meth c s0 D A nL Q (pc + 1) ls (.int (f i.toNatClampNeg) :: r) σ rc rs) : JJ p l e R s m args below meth c s0 D A nL Q pc ls (.int i :: .ref a :: r) σ rc rs := by
  obtain ⟨hx, hb, hml, hown, hlk, hK, -⟩ := B
  intro H locs cells slots lsA h1 h2 h3 h4 h5 h6
  obtain ⟨L, g, i1, hP, hD, hD0⟩ := Okh_ope h1 h2
  obtain ⟨ha, he⟩ := (i1 _ _).mp hσ
  obtain ⟨k0, hk0⟩ := pl_at (f := g) ha
  rw [he] at hk0
  exact va_iald hx hb hK hP k0 0 hk0 rfl hin hdg (h H locs cells slots lsA h1 h2 h3 h4 h5 h6)
theorem r_bald (B : Bd p s m meth c s0 D cy O A nL own cc) {a n : Nat} {f : Nat → Int32} {i : Int32} {r : List Value} (hσ : σ a = some (.inl (cy 1, n, .inl f))) (hin : vp_in i n) (hdg : decode cc pc = .ok (.baload, 1))
    (h : JJ p l e R s m args below meth c s0 D A nL Q (pc + 1) ls (.int (f i.toNatClampNeg) :: r) σ rc rs) : JJ p l e R s m args below meth c s0 D A nL Q pc ls (.int i :: .ref a :: r) σ rc rs := by
  obtain ⟨hx, hb, hml, hown, hlk, hK, -⟩ := B
  intro H locs cells slots lsA h1 h2 h3 h4 h5 h6
  obtain ⟨L, g, i1, hP, hD, hD0⟩ := Okh_ope h1 h2
  obtain ⟨ha, he⟩ := (i1 _ _).mp hσ
  obtain ⟨k0, hk0⟩ := pl_at (f := g) ha
  rw [he] at hk0
  exact va_bald hx hb hK hP k0 1 hk0 rfl hin hdg (h H locs cells slots lsA h1 h2 h3 h4 h5 h6)
theorem r_lald (B : Bd p s m meth c s0 D cy O A nL own cc) {a n : Nat} {f : Nat → Int64} {i : Int32} {r : List Value} (hσ : σ a = some (.inl (cy 2, n, .inr (.inl f)))) (hin : vp_in i n) (hdg : decode cc pc = .ok (.laload, 1))
    (h : JJ p l e R s m args below meth c s0 D A nL Q (pc + 1) ls (.long (f i.toNatClampNeg) :: r) σ rc rs) : JJ p l e R s m args below meth c s0 D A nL Q pc ls (.int i :: .ref a :: r) σ rc rs := by
  obtain ⟨hx, hb, hml, hown, hlk, hK, -⟩ := B
  intro H locs cells slots lsA h1 h2 h3 h4 h5 h6
  obtain ⟨L, g, i1, hP, hD, hD0⟩ := Okh_ope h1 h2
  obtain ⟨ha, he⟩ := (i1 _ _).mp hσ
  obtain ⟨k0, hk0⟩ := pl_at (f := g) ha
  rw [he] at hk0
  exact va_lald hx hb hK hP k0 2 hk0 rfl hin hdg (h H locs cells slots lsA h1 h2 h3 h4 h5 h6)
theorem r_rald (B : Bd p s m meth c s0 D cy O A nL own cc) {a n : Nat} {cA : ClassId} {f : Nat → Option Nat} {i : Int32} {r : List Value} (hσ : σ a = some (.inl (cA, n, .inr (.inr (.inr (.inr f)))))) (hcA : cA = cy 3 ∨ cA = cy 4) (hin : vp_in i n) (hdg : decode cc pc = .ok (.aaload, 1))
    (h : JJ p l e R s m args below meth c s0 D A nL Q (pc + 1) ls (va_rf (f i.toNatClampNeg) :: r) σ rc rs) : JJ p l e R s m args below meth c s0 D A nL Q pc ls (.int i :: .ref a :: r) σ rc rs := by
  obtain ⟨hx, hb, hml, hown, hlk, hK, -⟩ := B
  intro H locs cells slots lsA h1 h2 h3 h4 h5 h6
  obtain ⟨L, g, i1, hP, hD, hD0⟩ := Okh_ope h1 h2
  obtain ⟨ha, he⟩ := (i1 _ _).mp hσ
  obtain ⟨k0, hk0⟩ := pl_at (f := g) ha
  rw [he] at hk0
  have kk := h H locs cells slots lsA h1 h2 h3 h4 h5 h6
  have hlt : i.toNatClampNeg < n := Nat.not_le.mp fun q => hin (Or.inr q)
  rcases hcA with rfl | rfl
  · exact va_aldq hx hb hK hP k0 3 hk0 rfl hin hdg kk
  · exact W.aald (v := va_rf (f i.toNatClampNeg)) (ty := .array .int) hx hb (hP k0 _ hk0) ((hK.2 4 _ rfl).1 n (fun j => va_rf (f j))) rfl (fun q => by cases q) (by show ¬ (i < 0 ∨ (arrV _ _ _).slots.size ≤ _); rw [arrV_size]; exact hin) (by show (arrV _ _ _).slots[_]? = _; rw [arrV_read _ _ hlt]) rfl rfl hdg kk
/-- a store: the kit's row gives the list with one entry set -/
theorem r_set (B : Bd p s m meth c s0 D cy O A nL own cc) {a : Nat} {en en' : va_E} {r : List Value} {pc' : Nat} (hσ : σ a = some en) (h : JJ p l e R s m args below meth c s0 D A nL Q pc' ls r (hup σ a en') rc rs)
    (row : ∀ (H : Heap) (locs : List Loc) (cells slots : Nat) (lsA : Array Slot) (L : List Nat) (f : Nat → va_E) (k0 : Nat), va_P D vwCl (va_pl L f) H → va_D A (va_pl L f) → va_S A s.heap H locs → (va_pl L f)[k0]? = some (a, en) → (∀ b e, σ b = some e ↔ b ∈ L ∧ f b = e) →
      (∀ (H1 : Heap) (locs1 : List Loc), va_P D vwCl ((va_pl L f).set k0 (a, en')) H1 → va_D A ((va_pl L f).set k0 (a, en')) → va_S A s.heap H1 locs1 → W p l e R s m args below meth c H1 locs1 cells slots Q (F0 m pc' lsA r)) →
      W p l e R s m args below meth c H locs cells slots Q (F0 m pc lsA st)) :
    JJ p l e R s m args below meth c s0 D A nL Q pc ls st σ rc rs := by
  intro H locs cells slots lsA h1 h2 h3 h4 h5 h6
  obtain ⟨L, f, i1, hP, hD, hD0⟩ := Okh_ope h1 h2
  obtain ⟨ha, he⟩ := (i1 _ _).mp hσ
  obtain ⟨k0, hk0⟩ := pl_at (f := f) ha
  have hset := pl_set (e := en') hD ha hk0
  have hD0' := (hD0.set (e := en') hk0)
  rw [hset] at hD0'
  rw [he] at hk0
  have hAa : A a := h2 a (by rw [hσ]; exact fun q => by cases q)
  refine row H locs cells slots lsA L f k0 hP hD h3 hk0 i1 (fun H1 locs1 hP1 hD1 hS1 => ?_)
  rw [hset] at hP1
  exact h H1 locs1 cells slots lsA ⟨L, va_up f a en', hup_iff i1 ha, hP1, hD0'⟩ (hup_dom h2 hAa) hS1 h4 h5 h6
theorem pl_new {A : Nat → Prop} {L : List Nat} {f : Nat → va_E} {q : Nat} {en : va_E} (h : va_D A (va_pl L f ++ [(q, en)])) : q ∉ L := by
  intro hm
  obtain ⟨k0, hk0⟩ := pl_at (f := f) hm
  have hl := (List.getElem?_eq_some_iff.mp hk0).1
  have e1 : (va_pl L f ++ [(q, en)])[k0]? = some (q, f q) := by rw [List.getElem?_append_left hl]; exact hk0
  have e2 : (va_pl L f ++ [(q, en)])[(va_pl L f).length]? = some (q, en) := by rw [List.getElem?_append_right (Nat.le_refl _), Nat.sub_self]; rfl
  have := h.1 _ _ _ _ e1 e2 rfl
  omega
/-- a new cell -/
theorem r_new (B : Bd p s m meth c s0 D cy O A nL own cc) {en : va_E} {r : List Value} {pc' dc ds : Nat} (hc : dc ≤ rc) (hs : ds ≤ rs) (h : ∀ q : Nat, σ q = none → q ≠ O.1 → JJ p l e R s m args below meth c s0 D A nL Q pc' ls (.ref q :: r) (hup σ q en) (rc - dc) (rs - ds))
    (row : ∀ (H : Heap) (locs : List Loc) (cells slots : Nat) (lsA : Array Slot) (L : List Nat) (f : Nat → va_E), va_P D vwCl (va_pl L f) H → va_D A (va_pl L f) → va_S A s.heap H locs → cells + dc ≤ R.cells → slots + ds ≤ R.slots →
      (∀ (q : Nat) (H1 : Heap), va_P D vwCl (va_pl L f ++ [(q, en)]) H1 → va_D A (va_pl L f ++ [(q, en)]) → va_S A s.heap H1 locs → W p l e R s m args below meth c H1 locs (cells + dc) (slots + ds) Q (F0 m pc' lsA (.ref q :: r))) →
      W p l e R s m args below meth c H locs cells slots Q (F0 m pc lsA st)) :
    JJ p l e R s m args below meth c s0 D A nL Q pc ls st σ rc rs := by
  obtain ⟨hx, hb, hml, hown, hlk, hK, hA1, hA2, hss, -, hold, hz, -⟩ := B
  intro H locs cells slots lsA h1 h2 h3 h4 h5 h6
  obtain ⟨L, f, i1, hP, hD, hD0⟩ := Okh_ope h1 h2
  refine row H locs cells slots lsA L f hP hD h3 (by omega) (by omega) (fun q H1 hP1 hD1 hS1 => ?_)
  have hnew : q ∉ L := pl_new hD1
  have hσq : σ q = none := by
    cases hv : σ q with
    | none => rfl
    | some w => exact absurd ((i1 _ _).mp hv).1 hnew
  have hAq : A q := hD1.2 (va_pl L f).length (q, en) (by rw [List.getElem?_append_right (Nat.le_refl _), Nat.sub_self]; rfl)
  have hq0 : s0.heap.size ≤ q := hA2 q hAq
  have e1 := va_pl_push (f := f) (e := en) hnew
  have hP2 := hP1
  rw [e1] at hP2
  have hD2 : va_D (fun a => s0.heap.size ≤ a) (va_pl L f ++ [(q, en)]) := hD1.weaken (fun _ q _ h => hA2 q.1 h)
  rw [e1] at hD2
  exact h q hσq (by omega) H1 locs (cells + dc) (slots + ds) lsA ⟨L ++ [q], va_up f q en, hup_iff_new i1, hP2, hD2⟩ (hup_dom h2 hAq) hS1 (by omega) (by omega) h6
end RW
