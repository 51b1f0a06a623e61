/-! ===== contracts: a method meets its transformer; calls of such methods; a contract out of a walk by wp ===== -/
def Aof (σ : Hp) (sz : Nat) : Nat → Prop := fun q => σ q ≠ none ∨ sz ≤ q
/-- method y, whose code is told by the word w, meets the transformer g.2.2: from every heap that it speaks of -/
def Con (l : Launch) (s0 : State) (D : va_G) (y : MethodName) (w : Cond) (fr lo : Nat) (g : Sg) : Prop :=
  ∀ (as : List Value) (σ : Hp) (K : Option Value → Hp → Prop) (KX : String → Hp → Prop) (sz : Nat), as.length = g.1 → g.2.2 as σ K KX →
    vx_Met l y [w] { frames := fr, cells := (g.2.1 as σ).1, slots := (g.2.1 as σ).2, locals := lo } (va_Pc as (fun U => U.heap.size = sz ∧ WU s0 D σ U)) (QcF s0 D (Aof σ sz) K) (XcF s0 D (Aof σ sz) KX) (g.2.1 as σ).1 (g.2.1 as σ).2 (Aof σ sz)
theorem met_of {l : Launch} {y : MethodName} {ws : List Cond} {rm : Room} {Pc : Array Value → State → Prop} {Qc : Array Value → State → Outcome → State → Prop} {XC : String → State → State → Prop} {mc ms : Nat} {free : Addr → Prop} (h : vx_Met l y ws rm Pc Qc XC mc ms free) (hX : ∀ E st t, ¬ XC E st t) : Met l y ws rm Pc Qc mc ms free := by
  intro p e h1 h2 h3 s m args below h4 h5 h6 h7
  obtain ⟨n, o, a1, a2, a3, a4⟩ := h p e h1 h2 h3 s m args below h4 h5 h6 h7
  refine ⟨n, o, a1, a2, a3, ?_⟩
  rcases a4 with ⟨b1, b2⟩ | ⟨q, -, E, ce, L, b1, -⟩
  · exact ⟨b1, b2⟩
  · exact absurd b1 (hX _ _ _)
section CALLS
variable {p : Program} {l : Launch} {e : Env} {R : Room} {s : State} {m : MethodId} {args : Array Value} {below : List Frame} {meth : Method} {c : Code}
variable {s0 : State} {D : va_G} {cy : Nat → ClassId} {O : Old} {A : Nat → Prop} {nL : Nat} {own : String} {cc : ByteArray} {Q : State → Prop}
theorem aof_A (B : Bd p s m meth c s0 D cy O A nL own cc) {σ : Hp} {H : Heap} {locs : List Loc} (hdom : ∀ a, σ a ≠ none → A a) (hS : va_S A s.heap H locs) : ∀ q, Aof σ H.size q → A q := by
  intro q hq
  rcases hq with h | h
  · exact hdom q h
  · exact B.2.2.2.2.2.2.1 q (Nat.le_trans hS.1 h)
theorem wu_at (B : Bd p s m meth c s0 D cy O A nL own cc) {σ : Hp} {H : Heap} {locs : List Loc} (hO : Okh s0 D σ H) (hS : va_S A s.heap H locs) {U : State} (hU : U.heap = H) (hW : s.WarmedH U.vm) : WU s0 D σ U := by
  obtain ⟨hx, hb, hml, hown, hlk, hK, hA1, hA2, hss, hwm, hold, -⟩ := B
  refine ⟨State.WarmedH.trans hwm hW, fun q hq => ?_, by rw [hU]; exact Nat.le_trans hss hS.1, by rw [hU]; exact hO⟩
  rw [hU, hS.2.1 q (by omega) (fun z => by have := hA2 q z; omega)]
  exact hold q hq
theorem inv_fin (B : Bd p s m meth c s0 D cy O A nL own cc) {σ : Hp} {H : Heap} {locs : List Loc} {cells slots mc ms pc : Nat} {lsA : Array Slot} {st rest : List Value} {av : Array Value} {K : Option Value → Hp → Prop} {KX : String → Hp → Prop} (hdom : ∀ a, σ a ≠ none → A a) (hS : va_S A s.heap H locs)
    (hr : vx_Run p l e R s m args below meth c H locs cells slots mc ms (F0 m pc lsA st) rest (QcF s0 D (Aof σ H.size) K av) (XcF s0 D (Aof σ H.size) KX) (Aof σ H.size))
    (kk : ∀ (v : Option Value) (σ' : Hp) (H' : Heap) (locs' : List Loc), K v σ' → Okh s0 D σ' H' → (∀ a, σ' a ≠ none → A a) → va_S A s.heap H' locs' → W p l e R s m args below meth c H' locs' (cells + mc) (slots + ms) Q (F0 m (pc + 3) lsA (v.toList ++ rest)))
    (kx : ∀ (E : String) (q : Addr) (ce : Cell) (σ' : Hp) (H' : Heap) (locs' : List Loc), KX E σ' → H'[q]? = some ce → ce.vm = .none → s.vm.findClass E = some ce.cls → Okh s0 D σ' H' → (∀ a, σ' a ≠ none → A a) → va_S A s.heap H' locs' → vx_W p l e R s m args below meth c H' locs' (cells + mc) (slots + ms) Q (F0 m pc lsA rest) q) :
    W p l e R s m args below meth c H locs cells slots Q (F0 m pc lsA st) := by
  have hA := aof_A B hdom hS
  intro T hT X
  rcases hr T hT X with ⟨v, st₀, t, T', L, h0, X', hL, e1, e2, ⟨⟨v', σ', hv, hK, hO', hd'⟩, hF⟩, st9⟩ | ⟨q, st₀, t, T', L, E, ce, h0, X', hL, e1, e2, ⟨⟨σ', hK, hO', hd'⟩, hF⟩, hce, hcv, hcl, st9⟩
  · cases hv
    obtain ⟨k1, k2, k3⟩ := vx_keep h0 e1 hS (fun q _ h => hA q h) hA hL hF
    obtain ⟨t2, a1, b1⟩ := kk v σ' T'.heap (locs ++ L) hK (by rw [e1]; exact hO') (fun a h => hA a (hd' a h)) k3 T' rfl X'
    exact ⟨t2, st9 t2 a1, b1⟩
  · obtain ⟨k1, k2, k3⟩ := vx_keep h0 e1 hS (fun q _ h => hA q h) hA hL hF
    obtain ⟨t2, a1, b1⟩ := kx E q ce σ' T'.heap (locs ++ L) hK (by rw [e1]; exact hce) hcv hcl (by rw [e1]; exact hO') (fun a h => hA a (hd' a h)) k3 T' rfl X'
    exact ⟨t2, st9.trans a1, b1⟩
theorem vx_of_va {mc ms : Nat} {g : JFrame} {rest : List Value} {H : Heap} {locs : List Loc} {cells slots : Nat} {Qa : State → Outcome → State → Prop} {XC : String → State → State → Prop} {free : Addr → Prop} (h : va_Run p l e R s m args below meth c H locs cells slots mc ms g rest Qa free) : vx_Run p l e R s m args below meth c H locs cells slots mc ms g rest Qa XC free :=
  fun T hT X => Or.inl (h T hT X)
theorem sum_le {r : List Value} (h : r.length ≤ 4) : (r.map fun v => v.category).sum ≤ 8 := by
  have : ∀ (r : List Value), (r.map fun v => v.category).sum ≤ 2 * r.length := by
    intro r
    induction r with
    | nil => simp
    | cons a r ih =>
      have : a.category ≤ 2 := by cases a <;> simp [Value.category]
      simp only [List.map_cons, List.sum_cons, List.length_cons]
      omega
  have := this r
  omega
theorem rs_le : ∀ {r : List Value}, rsum r ≤ 8 → (r.map fun v => v.category).sum ≤ 8 := by
  have h : ∀ r : List Value, (r.map fun v => v.category).sum = rsum r := by
    intro r
    induction r with
    | nil => rfl
    | cons a r ih => simp only [List.map_cons, List.sum_cons, rsum, ih]
  intro r hr
  rw [h]; exact hr
/-- the words of a call, at the caller's entry -/
def CwW (s : State) (args : Array Value) (own : String) (j : Nat) (y : MethodName) (w : Cond) (n : Nat) : Prop :=
  (∀ (a' : Array Value) (U : State), s.WarmedH U.vm → w.before a' U = true) ∧ w.before args s = true ∧ (Cond.initialized y.cls).before args s = true ∧ (y.cls ≠ "java/lang/invoke/MethodHandle" ∧ y.cls ≠ "java/lang/invoke/VarHandle") ∧ (∀ sig, parseMethodDescriptor y.desc = some sig → n = sig.parameters.length)
theorem blind {as : List Value} {sz : Nat} {σ : Hp} : FrameBlind (va_Pc as (fun U => U.heap.size = sz ∧ WU s0 D σ U)) := fun a U g mk h => ⟨h.1, h.2.1, h.2.2⟩
/-- a virtual call: the receiver lies in the heap that we speak of, its class is number ci -/
theorem inv_V (B : Bd p s m meth c s0 D cy O A nL own cc) {y : MethodName} {bytes : ByteArray} {maxL : Nat} {ret : Option FieldType} {fr lo j n ci : Nat} {C : String} {T : u_T} {N : Nat} {g : Sg} (hCon : Con l s0 D y (Cond.code y bytes maxL ret) fr lo g) (hci : vwCl[ci]? = some (C, T, N))
    (hrecv : ∀ as σ K KX, g.2.2 as σ K KX → ∃ b As fs, as = .ref b :: As ∧ σ b = some (.inr (ci, fs))) (hw : CwW s args own j y (Cond.code y bytes maxL ret) n) (hn : g.1 = n + 1) (hl : (Cond.methodLink own j y).before args s = true) (hi : (Cond.instanceMethod y).before args s = true) (hse : (Cond.selects C y y).before args s = true)
    (hfr : fr + 1 ≤ R.frames) (hlo : 8 + (maxL + 11) + lo ≤ R.locals) : InvOK p l e R s m args below meth c s0 D A nL cc Q (insOf 0 j) g := by
  intro as rest σ K KX pc H locs cells slots lsA hlen hT hrest hdg hsz hO hdom hS hc hs kk kx
  obtain ⟨b, As, fs, rfl, hb⟩ := hrecv _ _ _ _ hT
  have hM := hCon (.ref b :: As) σ K KX H.size hlen hT
  obtain ⟨L, f, i1, hP, hD, hD0⟩ := Okh_ope hO hdom
  obtain ⟨ha, he⟩ := (i1 _ _).mp hb
  obtain ⟨k0, hk0⟩ := pl_at (f := f) ha
  rw [he] at hk0
  have e1 : (Value.ref b :: As).reverse ++ rest = As.reverse ++ .ref b :: rest := by simp
  rw [e1]
  refine inv_fin B hdom hS (vx_runV (C := C) (b := b) (As := As) (rest := rest) (n := n) (own := own) ⟨B.1, B.2.1, B.2.2.1, B.2.2.2.1, fun w (h : w ∈ ([] : List Cond)) => nomatch h⟩ hM
    ⟨⟨rfl, rfl, hfr, hlo, fun w hw9 a' U hW => by rw [List.mem_singleton.mp hw9]; exact hw.1 a' U hW, List.mem_singleton.mpr rfl, hw.2.1, hw.2.2.1, hw.2.2.2.1, hw.2.2.2.2, hl⟩, hi, hse⟩
    ⟨blind, va_recv B.2.2.2.2.2.1 hP hci hk0, fun U hU hW => ⟨rfl, by rw [hU], wu_at B hO hS hU hW⟩⟩ rfl (by simp at hlen; omega) hsz rfl (lv_room (rs_le hrest)) hdg ⟨hc, hs⟩) kk kx
/-- a static call of a method of one's own class -/
theorem inv_S (B : Bd p s m meth c s0 D cy O A nL own cc) {y : MethodName} {bytes : ByteArray} {maxL : Nat} {ret : Option FieldType} {fr lo j : Nat} {g : Sg} (hCon : Con l s0 D y (Cond.code y bytes maxL ret) fr lo g)
    (hw : CwW s args own j y (Cond.code y bytes maxL ret) g.1) (hl : (Cond.methodLink own j y).before args s = true) (hst : (Cond.static y).before args s = true)
    (hfr : fr + 1 ≤ R.frames) (hlo : 8 + (maxL + 11) + lo ≤ R.locals) : InvOK p l e R s m args below meth c s0 D A nL cc Q (insOf 1 j) g := by
  intro as rest σ K KX pc H locs cells slots lsA hlen hT hrest hdg hsz hO hdom hS hc hs kk kx
  have hM := hCon as σ K KX H.size hlen hT
  refine inv_fin B hdom hS (vx_runS (As := as) (rest := rest) (n := g.1) (own := own) ⟨B.1, B.2.1, B.2.2.1, B.2.2.2.1, fun w (h : w ∈ ([] : List Cond)) => nomatch h⟩ hM
    ⟨⟨rfl, rfl, hfr, hlo, fun w hw9 a' U hW => by rw [List.mem_singleton.mp hw9]; exact hw.1 a' U hW, List.mem_singleton.mpr rfl, hw.2.1, hw.2.2.1, hw.2.2.2.1, hw.2.2.2.2, hl⟩, hst⟩
    ⟨blind, fun U hU hW => ⟨rfl, by rw [hU], wu_at B hO hS hU hW⟩⟩ rfl hlen hsz rfl (lv_room (rs_le hrest)) hdg ⟨hc, hs⟩) kk kx
/-- a static call of a method with a table of handlers -/
theorem inv_SX (B : Bd p s m meth c s0 D cy O A nL own cc) {y : MethodName} {bytes : ByteArray} {maxL : Nat} {ret : Option FieldType} {hh : List (Nat × Nat × Nat × Nat)} {fr lo j : Nat} {g : Sg} (hCon : Con l s0 D y (Cond.codeWith y bytes maxL ret hh) fr lo g)
    (hw : CwW s args own j y (Cond.codeWith y bytes maxL ret hh) g.1) (hl : (Cond.methodLink own j y).before args s = true) (hst : (Cond.static y).before args s = true)
    (hfr : fr + 1 ≤ R.frames) (hlo : 8 + (maxL + 11) + lo ≤ R.locals) : InvOK p l e R s m args below meth c s0 D A nL cc Q (insOf 1 j) g := by
  intro as rest σ K KX pc H locs cells slots lsA hlen hT hrest hdg hsz hO hdom hS hc hs kk kx
  have hM := hCon as σ K KX H.size hlen hT
  refine inv_fin B hdom hS (vx_runSX (As := as) (rest := rest) (n := g.1) (own := own) ⟨B.1, B.2.1, B.2.2.1, B.2.2.2.1, fun w (h : w ∈ ([] : List Cond)) => nomatch h⟩ hM
    ⟨⟨rfl, rfl, hfr, hlo, fun w hw9 a' U hW => by rw [List.mem_singleton.mp hw9]; exact hw.1 a' U hW, List.mem_singleton.mpr rfl⟩, hw.2.1, hw.2.2.1, hw.2.2.2.1, hw.2.2.2.2, hl, hst⟩
    ⟨blind, fun U hU hW => ⟨rfl, by rw [hU], wu_at B hO hS hU hW⟩⟩ rfl hlen hsz rfl (lv_room (rs_le hrest)) hdg ⟨hc, hs⟩) kk kx
theorem no_xcf {A : Nat → Prop} {E : String} {st t : State} : ¬ XcF s0 D A (fun _ _ => False) E st t := fun h => by obtain ⟨⟨σ, h, -⟩, -⟩ := h; exact h
/-- a private static of a nest mate, which throws nothing -/
theorem inv_SN (B : Bd p s m meth c s0 D cy O A nL own cc) {y : MethodName} {bytes : ByteArray} {maxL : Nat} {ret : Option FieldType} {host : String} {fr lo j : Nat} {g : Sg} (hCon : Con l s0 D y (Cond.code y bytes maxL ret) fr lo g) (hnx : ∀ as σ K KX, g.2.2 as σ K KX → g.2.2 as σ K (fun _ _ => False))
    (hw : CwW s args own j y (Cond.code y bytes maxL ret) g.1) (hl : va_Nw (.methodLinkNest own j y host) s) (hst : (Cond.static y).before args s = true)
    (hfr : fr + 1 ≤ R.frames) (hlo : 8 + (maxL + 11) + lo ≤ R.locals) : InvOK p l e R s m args below meth c s0 D A nL cc Q (insOf 1 j) g := by
  intro as rest σ K KX pc H locs cells slots lsA hlen hT hrest hdg hsz hO hdom hS hc hs kk kx
  have hM := met_of (hCon as σ K _ H.size hlen (hnx _ _ _ _ hT)) (fun E st t => no_xcf)
  refine inv_fin (KX := KX) B hdom hS (vx_of_va (va_runSN (As := as) (rest := rest) (n := g.1) (own := own) (host := host) ⟨B.1, B.2.1, B.2.2.1, B.2.2.2.1, fun w (h : w ∈ ([] : List Cond)) => nomatch h⟩ hM
    ⟨⟨⟨rfl, rfl, hfr, hlo, fun w hw9 a' U hW => by rw [List.mem_singleton.mp hw9]; exact hw.1 a' U hW, List.mem_singleton.mpr rfl⟩, hw.2.1, hw.2.2.1, hw.2.2.2.1, hw.2.2.2.2, va_Nw.use rfl hl⟩, hst, trivial⟩
    ⟨blind, fun U hU hW => ⟨rfl, by rw [hU], wu_at B hO hS hU hW⟩⟩ rfl hlen hsz rfl (lv_room (rs_le hrest)) hdg ⟨hc, hs⟩)) kk kx
/-- a constructor's call -/
theorem inv_I (B : Bd p s m meth c s0 D cy O A nL own cc) {y : MethodName} {bytes : ByteArray} {maxL : Nat} {fr lo j n : Nat} {g : Sg} (hCon : Con l s0 D y (Cond.code y bytes maxL none) fr lo g) (hnx : ∀ as σ K KX, g.2.2 as σ K KX → g.2.2 as σ K (fun _ _ => False)) (hrecv : ∀ as σ K KX, g.2.2 as σ K KX → ∃ b As, as = .ref b :: As)
    (hw : CwW s args own j y (Cond.code y bytes maxL none) n) (hn : g.1 = n + 1) (hl : (Cond.methodLink own j y).before args s = true) (hi : (Cond.instanceMethod y).before args s = true) (hnm : y.name = "<init>")
    (hfr : fr + 1 ≤ R.frames) (hlo : 8 + (maxL + 11) + lo ≤ R.locals) : InvOK p l e R s m args below meth c s0 D A nL cc Q (insOf 2 j) g := by
  intro as rest σ K KX pc H locs cells slots lsA hlen hT hrest hdg hsz hO hdom hS hc hs kk kx
  obtain ⟨b, As, rfl⟩ := hrecv _ _ _ _ hT
  have hM := met_of (hCon (.ref b :: As) σ K _ H.size hlen (hnx _ _ _ _ hT)) (fun E st t => no_xcf)
  have e1 : (Value.ref b :: As).reverse ++ rest = As.reverse ++ .ref b :: rest := by simp
  rw [e1]
  refine inv_fin (KX := KX) B hdom hS (vx_of_va (va_runI (b := b) (As := As) (rest := rest) (n := n) (own := own) ⟨B.1, B.2.1, B.2.2.1, B.2.2.2.1, fun w (h : w ∈ ([] : List Cond)) => nomatch h⟩ hM
    ⟨⟨rfl, rfl, hfr, hlo, fun w hw9 a' U hW => by rw [List.mem_singleton.mp hw9]; exact hw.1 a' U hW, List.mem_singleton.mpr rfl, hw.2.1, hw.2.2.1, hw.2.2.2.1, hw.2.2.2.2, hl⟩, hnm, hi⟩
    ⟨blind, fun U hU hW => ⟨rfl, by rw [hU], wu_at B hO hS hU hW⟩⟩ rfl (by simp at hlen; omega) hsz rfl (lv_room (rs_le hrest)) hdg ⟨hc, hs⟩)) kk kx
end CALLS

def ini (nL : Nat) (as : List Value) : List (Option Value) := as.map some ++ List.replicate (nL - as.length) none
/-- the wp from a place on, the first step uncut -/
def wpS (CL : Cl) (cy : Nat → ClassId) (O : Old) (ob : Nat → Bool) (cc : ByteArray) (inv : Nat → Nat → Option Sg) (thr : Nat → Option String) (exc : String → Option (Option Nat)) (ret : Option FieldType) (K : Option Value → Hp → Prop) (KX : String → Hp → Prop) (cut : Nat → Bool) (J : Jt) (n : Nat) : Jt := fun pc ls st σ rc rs => match decode cc pc with
  | .ok (i, len) => okLen i len = true ∧ stepI CL cy O ob inv thr exc ret K KX (wp CL cy O ob cc inv thr exc ret K KX cut J n) i pc ls st σ rc rs
  | .error _ => False
/-- what is old isn't among what we speak of -/
def OldOK (O : Old) (σ : Hp) : Prop := σ O.1 = none ∧ ∀ a n f, O.2 a = some (n, f) → σ a = none
/-- what is to be shown of a method's code, with nothing of the machine in it -/
def MOK (CL : Cl) (cy : Nat → ClassId) (O : Old) (ob : Nat → Bool) (cc : ByteArray) (inv : Nat → Nat → Option Sg) (thr : Nat → Option String) (exc : String → Option (Option Nat)) (ret : Option FieldType) (nL : Nat) (g : Sg) : Prop :=
  ∀ (as : List Value) (σ : Hp) (K : Option Value → Hp → Prop) (KX : String → Hp → Prop) (J : Jt), as.length = g.1 → g.2.2 as σ K KX → (∀ cut n pc ls st σ rc rs, wpS CL cy O ob cc inv thr exc ret K KX cut J n pc ls st σ rc rs → J pc ls st σ rc rs) → OldOK O σ → J 0 (ini nL as) [] σ (g.2.1 as σ).1 (g.2.1 as σ).2
theorem lvO_ini : ∀ (as : List Value) (b n : Nat), (∀ v ∈ as, v.category = 1) → lvO b (as.map some ++ List.replicate n none) = lv_args b as
  | [], b, n, _ => by
    induction n generalizing b with
    | zero => rfl
    | succ n ih => simp only [List.map_nil, List.nil_append, List.replicate_succ, lvO, lv_args] at ih ⊢; exact ih (b + 1)
  | v :: as, b, n, h => by
    have hv : ¬ v.category = 2 := by rw [h v List.mem_cons_self]; decide
    simp only [List.map_cons, List.cons_append, lvO, lv_args, if_neg hv]
    rw [lvO_ini as (b + 1) n (fun w hw => h w (List.mem_cons_of_mem _ hw))]
theorem sl_len : ∀ (as : List Value), (∀ v ∈ as, v.category = 1) → (lg_sl as).length = as.length
  | [], _ => rfl
  | v :: as, h => by
    have hv : ¬ v.category = 2 := by rw [h v List.mem_cons_self]; decide
    have := sl_len as (fun w hw => h w (List.mem_cons_of_mem _ hw))
    simp only [lg_sl, List.flatMap_cons, List.length_append, List.length_cons] at this ⊢
    rw [this]
    simp [hv]
    omega
theorem lh_ini {as : List Value} {nL : Nat} (h : ∀ v ∈ as, v.category = 1) (hn : as.length ≤ nL) : lh ((lg_sl as ++ List.replicate (nL - (lg_sl as).length) Slot.unset).toArray) nL (ini nL as) := by
  have e := lvO_ini as 0 (nL - as.length) h
  refine ⟨by simp [ini]; omega, ?_, ?_⟩
  · unfold ini
    rw [e]
    exact lv_entry as (by rw [sl_len as h]; exact hn)
  · intro q hq
    unfold ini at hq
    obtain ⟨j, -, h2⟩ := (lvO_mem _ _ _ _).mp (show (q.1, q.2) ∈ _ from hq)
    rw [nth_eq] at h2
    have := List.mem_of_getElem? h2
    rcases List.mem_append.mp this with hm | hm
    · obtain ⟨v, hv, ev⟩ := List.mem_map.mp hm
      cases ev
      exact h _ hv
    · have := List.eq_of_mem_replicate hm
      cases this
theorem wpS_sound {p : Program} {l : Launch} {e : Env} {R : Room} {s : State} {m : MethodId} {args : Array Value} {below : List Frame} {meth : Method} {c : Code} {s0 : State} {D : va_G} {cy : Nat → ClassId} {O : Old} {A : Nat → Prop} {nL : Nat} {own : String} {cc : ByteArray}
    {K : Option Value → Hp → Prop} {KX : String → Hp → Prop} {CL : Cl} {ob : Nat → Bool} {inv : Nat → Nat → Option Sg} {thr : Nat → Option String} {exc : String → Option (Option Nat)} {ret : Option FieldType} {Q : State → Prop} (B : Bd p s m meth c s0 D cy O A nL own cc) (hQ : Q = vx_MQ below (QcF s0 D A K) (XcF s0 D A KX) args s R.cells R.slots A)
    (hX : XOk p l e R s m args below meth c s0 D A nL cc KX thr exc Q) (hC : CLok s args meth own A CL ob) (hret : meth.sig.returnType = ret) (hinv : ∀ kd j g, inv kd j = some g → InvOK p l e R s m args below meth c s0 D A nL cc Q (insOf kd j) g) :
    ∀ (cut : Nat → Bool) (n pc : Nat) (ls : List (Option Value)) (st : List Value) (σ : Hp) (rc rs : Nat), wpS CL cy O ob cc inv thr exc ret K KX cut (JJ p l e R s m args below meth c s0 D A nL Q) n pc ls st σ rc rs → JJ p l e R s m args below meth c s0 D A nL Q pc ls st σ rc rs := by
  intro cut n pc ls st σ rc rs h
  unfold wpS at h
  split at h
  · rename_i i len hd
    exact step_sound B hQ hX hC hret hinv (wp_sound B hQ hX hC hret hinv n) hd h.1 h.2
  · exact h.elim
/-- what a class's bodies may take as given, from the law's own start s0 on: at every entry state -/
def EnvC (l : Launch) (s0 : State) (D : va_G) (cy : Nat → ClassId) (O : Old) (own : String) (mname : String) (CL : Cl) (ob : Nat → Bool) : Prop :=
  va_K D vwCl (tysG cy) s0 ∧ O.1 < s0.heap.size ∧ (∃ cell : Cell, s0.heap[O.1]? = some cell ∧ s0.isArrayOf cell (.object "java/lang/Object") ∧ cell.slots.size.toInt32 = 0) ∧ (∀ a n f, O.2 a = some (n, f) → va_T .byte a n (fun j => .int (f j)) (fun q => s0.heap.size ≤ q) s0 s0.heap) ∧
  ∀ (s : State) (args : Array Value) (meth : Method) (A : Nat → Prop), s0.WarmedH s.vm → (∀ q, q < s0.heap.size → s.heap[q]? = s0.heap[q]?) → s0.heap.size ≤ s.heap.size → (∀ q, A q → s0.heap.size ≤ q) → meth.name = mname → CLok s args meth own A CL ob
theorem va_T_at {s0 s : State} {A : Nat → Prop} {ty : FieldType} {t N : Nat} {f : Nat → Value} (h : va_T ty t N f (fun q => s0.heap.size ≤ q) s0 s0.heap) (hal : s0.vm.Alike s.vm) (hold : ∀ q, q < s0.heap.size → s.heap[q]? = s0.heap[q]?) (hA : ∀ q, A q → s0.heap.size ≤ q) : va_T ty t N f A s s.heap := by
  obtain ⟨cell, h1, h2, h3, h4, h5, h6, h7⟩ := h
  have ht : t < s0.heap.size := Nat.not_le.mp h7
  exact ⟨cell, by rw [hold t ht]; exact h1, State.isArrayOf_alike hal h2, h3, h4, h5, h6, fun q => h7 (hA t q)⟩
/-- A CONTRACT OUT OF A WALK BY wp (a method without a table of handlers) -/
theorem con_of {l : Launch} {s0 : State} {D : va_G} {cy : Nat → ClassId} {O : Old} {ob : Nat → Bool} {y : MethodName} {cc : ByteArray} {nL : Nat} {ret : Option FieldType} {CL : Cl} {inv : Nat → Nat → Option Sg} {thr : Nat → Option String} {exc : String → Option (Option Nat)} {fr lo : Nat} {g : Sg} (hE : EnvC l s0 D cy O y.cls y.name CL ob) (hy : plainName y.cls = true)
    (hcat : ∀ as σ K KX, g.2.2 as σ K KX → ∀ v ∈ as, v.category = 1) (hnL : g.1 ≤ nL)
    (hinv : ∀ (p : Program) (e : Env) (R : Room) (s : State) (m : MethodId) (args : Array Value) (below : List Frame) (meth : Method) (c : Code) (A : Nat → Prop) (Q : State → Prop), R.frames = fr → R.locals = lo → s0.WarmedH s.vm → Bd p s m meth c s0 D cy O A nL y.cls cc → ∀ kd j g, inv kd j = some g → InvOK p l e R s m args below meth c s0 D A nL cc Q (insOf kd j) g)
    (hX : ∀ (p : Program) (e : Env) (R : Room) (s : State) (m : MethodId) (args : Array Value) (below : List Frame) (meth : Method) (c : Code) (A : Nat → Prop) (K : Option Value → Hp → Prop) (KX : String → Hp → Prop), R.frames = fr → R.locals = lo → s0.WarmedH s.vm → Bd p s m meth c s0 D cy O A nL y.cls cc → (∀ x ∈ c.exceptionTable.toList, False) → XOk p l e R s m args below meth c s0 D A nL cc KX thr exc (vx_MQ below (QcF s0 D A K) (XcF s0 D A KX) args s R.cells R.slots A))
    (hM : MOK CL cy O ob cc inv thr exc ret nL g) : Con l s0 D y (Cond.code y cc nL ret) fr lo g := by
  intro as σ K KX sz hlen hT
  refine vx_ofW (cc := cc) (maxL := nL) (ret := ret) hy rfl ?_
  intro p e s m args below meth c s₁ B0 hml htab hv
  obtain ⟨rfl, hsz, hw1, hw2, hw3, hw4⟩ := hv
  subst hsz
  obtain ⟨E1, E2, ⟨cell, E3, E4, E5⟩, E6, E7⟩ := hE
  have hal := hw1.alike
  have hdom0 : ∀ a, σ a ≠ none → s0.heap.size ≤ a := by
    intro a ha
    obtain ⟨L, f, i1, hP, hD⟩ := hw4
    cases hv : σ a with
    | none => exact absurd hv ha
    | some w =>
      obtain ⟨k0, hk0⟩ := pl_at (f := f) ((i1 _ _).mp hv).1
      exact hD.2 k0 _ hk0
  have hA2 : ∀ q, Aof σ s.heap.size q → s0.heap.size ≤ q := by
    intro q hq
    rcases hq with h | h
    · exact hdom0 q h
    · omega
  have B : Bd p s m meth c s0 D cy O (Aof σ s.heap.size) nL y.cls cc :=
    ⟨B0.exec, B0.bytes, hml, findClass_of_methodNamed B0.named, B0.notSynchronized, E1.moved hal, fun q h => Or.inr h, hA2, hw3, hw1, hw2, E2, ⟨cell, by rw [hw2 _ E2]; exact E3, State.isArrayOf_alike hal E4, E5⟩, fun a n f h => va_T_at (E6 a n f h) hal hw2 hA2⟩
  have hcl := E7 s as.toArray meth (Aof σ s.heap.size) hw1 hw2 hw3 hA2 (name_of_methodNamed B0.named B0.method).1
  have hOld : OldOK O σ := by
    refine ⟨?_, fun a n f h => ?_⟩
    · cases hv : σ O.1 with
      | none => rfl
      | some w => have := hdom0 O.1 (by rw [hv]; exact fun z => by cases z); omega
    · cases hv : σ a with
      | none => rfl
      | some w =>
        have h1 := hdom0 a (by rw [hv]; exact fun z => by cases z)
        exact absurd h1 (va_T.out (E6 a n f h))
  have hJ := hM as σ K KX _ hlen hT (wpS_sound (l := l) (e := e) (R := (headSpec [Cond.code y cc nL ret] { frames := fr, cells := (g.2.1 as σ).1, slots := (g.2.1 as σ).2, locals := lo }).room) (below := below) (args := as.toArray) (K := K) (KX := KX) B rfl (hX _ _ _ _ _ _ _ _ _ _ _ _ rfl rfl hw1 B htab) hcl B0.returns (fun kd j g hg => hinv _ _ _ _ _ _ _ _ _ _ _ rfl rfl hw1 B kd j g hg)) hOld
  rw [lg_entry_eq]
  exact hJ s.heap [] 0 0 _ hw4 (fun a h => Or.inl h) va_S.rf (by rw [Nat.zero_add]; exact Nat.le_refl _) (by rw [Nat.zero_add]; exact Nat.le_refl _) (lh_ini (hcat _ _ _ _ hT) (by omega))
