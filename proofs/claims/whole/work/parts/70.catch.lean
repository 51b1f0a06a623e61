/-! ===== exceptions that the law's wrappers catch ===== -/
def exN : Nat → String
  | 13 => "java/lang/IllegalArgumentException"
  | 15 => "java/lang/UnsupportedOperationException"
  | 20 => "java/lang/IndexOutOfBoundsException"
  | 54 => "java/util/NoSuchElementException"
  | _ => ""
def exL : List Nat := [13, 15, 20, 54]
def NCok (s0 : State) : Prop := ∀ a ∈ exL, ∀ b ∈ exL, exN a ≠ exN b → va_Nc (exN a) (exN b) s0
def handOf (hh : List (Nat × Nat × Nat × Nat)) (E : String) : Option Nat := (hh.find? (fun z => exN z.2.2.2 == E)).map (fun z => z.2.2.1)
theorem ex_link : ∀ a ∈ exL, Cond.classLink "StormFlagsLaw" a (exN a) ∈ lw_tbl := by
  intro a ha
  simp only [exL, List.mem_cons, List.not_mem_nil, or_false] at ha
  rcases ha with rfl | rfl | rfl | rfl
  · exact tw_224
  · exact tw_225
  · exact tw_421
  · exact tw_862
theorem ex_cast : ∀ a ∈ exL, Cond.castable (exN a) (exN a) ∈ lw_tbl := by
  intro a ha
  simp only [exL, List.mem_cons, List.not_mem_nil, or_false] at ha
  rcases ha with rfl | rfl | rfl | rfl
  · exact tw_238
  · exact tw_307
  · exact tw_432
  · exact tw_870
theorem ex_ne : ∀ a ∈ exL, a ≠ 0 := by decide
theorem catch_of {l : Launch} {s0 : State} {D : va_G} {cy : Nat → ClassId} {P : Pm} {a0 : Array Value} {O : Old} {cc : ByteArray} {nL : Nat} {p : Program} {e : Env} {R : Room} {s : State} {m : MethodId} {args : Array Value} {below : List Frame} {meth : Method} {c : Code} {A : Nat → Prop} {Q : State → Prop} {hh : List (Nat × Nat × Nat × Nat)} {pc0 : Nat} {E : String} {h : Nat} {H : Heap} {locs : List Loc} {cells slots : Nat} {lsA : Array Slot} {r : List Value} {q : Addr} {ce : Cell}
    (hE : E0 l s0 D cy P a0) (hN : NCok s0) (hW : s0.WarmedH s.vm) (B : Bd p s m meth c s0 D cy O A nL "StormFlagsLaw" cc) (htab : c.exceptionTable.toList = tableOf hh) (hh1 : ∀ z ∈ hh, z.2.2.2 ∈ exL ∧ z.1 ≤ pc0 ∧ pc0 < z.2.1) (hf : handOf hh E = some h)
    (hcell : H[q]? = some ce) (hv : ce.vm = .none) (hcl : s.vm.findClass E = some ce.cls) (kk : W p l e R s m args below meth c H locs cells slots Q (F0 m h lsA [.ref q])) : vx_W p l e R s m args below meth c H locs cells slots Q (F0 m pc0 lsA r) q := by
  unfold handOf at hf
  rw [Option.map_eq_some_iff] at hf
  obtain ⟨z, hz, rfl⟩ := hf
  rw [List.find?_eq_some_iff_append] at hz
  obtain ⟨hzE, as, bs, rfl, hpre⟩ := hz
  have hzE : exN z.2.2.2 = E := by simpa using hzE
  subst hzE
  obtain ⟨z1, z2, z3⟩ := hh1 z (by simp)
  refine vx_catch (own := "StormFlagsLaw") (name := exN z.2.2.2) B.2.2.2.1 (tableOf as) ⟨z.1, z.2.1, z.2.2.1, z.2.2.2⟩ (tableOf bs) (by rw [htab]; unfold tableOf; rw [List.map_append, List.map_cons]) (fun z' hz' => ?_) (by simp [covers, z2, z3]) (ex_ne _ z1) (wd hE hW (ex_link _ z1) rfl) (wd hE hW (ex_cast _ z1) rfl) hcell hv hcl kk
  unfold tableOf at hz'
  obtain ⟨q1, hq1, rfl⟩ := List.mem_map.mp hz'
  obtain ⟨w1, w2, w3⟩ := hh1 q1 (by simp [hq1])
  exact Or.inr ⟨ex_ne _ w1, exN q1.2.2.2, wd hE hW (ex_link _ w1) rfl, (hN _ z1 _ w1 (fun z9 => by have := hpre q1 hq1; rw [z9] at this; simp at this)).moved hW.alike⟩
/-- the law's array for answers -/
def oJ (cy : Nat → ClassId) (f : Nat → Int64) : va_E := .inl (cy 2, 1, .inr (.inl f))
/-- a wrapper: the call beside the rest of the heap, its answer laid at o, its exceptions by their place in the table -/
def wrb (cy : Nat → ClassId) (g : Sg) (hh : List (Nat × Nat × Nat × Nat)) (oc : Int32 → Int64) (args : List Value) (σ : Hp) (o : Nat) (K : Option Value → Hp → Prop) : Prop :=
  ∃ f σ1, σ o = some (oJ cy f) ∧ σ1 o = none ∧ sub σ1 σ ∧ g.2.1 args σ1 = g.2.1 args σ ∧ ∀ K' KX', (∀ n τ, (fresh τ σ1 σ → ∀ f' : Nat → Int64, f' 0 = oc n → K (some (.int 0)) (hup (mrg τ σ1 σ) o (oJ cy f'))) → K' (some (.int n)) τ) →
    (∀ k z τ, hh[k]? = some z → (fresh τ σ1 σ → K (some (.int (nI (k + 1)))) (mrg τ σ1 σ)) → KX' (exN z.2.2.2) τ) → g.2.2 args σ1 K' KX'
theorem mrg_o {τ σ1 σ : Hp} {o : Nat} {e : va_E} (ho : σ o = some e) (hn : σ1 o = none) (hf : fresh τ σ1 σ) : mrg τ σ1 σ o = some e := by
  unfold mrg
  cases hv : τ o with
  | some e' =>
    rcases hf o (by rw [hv]; exact fun z => by cases z) with z | z
    · exact absurd hn z
    · rw [ho] at z; cases z
  | none => simp [hn, ho]
theorem fr_rcv {ci : Nat} {ks : List Nat} {b : List Value → Hp → Nat × Nat} {body : Bod} {as : List Value} {σ : Hp} {K : Option Value → Hp → Prop} {KX : String → Hp → Prop} (h : (fr (mI ci ks b body)).2.2 as σ K KX) : ∃ b As fs, as = .ref b :: As ∧ σ b = some (.inr (ci, fs)) := by
  obtain ⟨σ1, hs, -, h⟩ := h
  obtain ⟨b, As, fs, e, hb⟩ := rcvd_spec h.2.1
  exact ⟨b, As, fs, e, hs _ _ hb⟩
theorem updL0 (f : Nat → Int64) (x : Int64) : vp_updL f 0 x 0 = x := by simp [vp_updL]
def ocI : Int32 → Int64 := fun n => n.toInt64
def ocB : Int32 → Int64 := fun n => if n = 0 then 0 else 1
