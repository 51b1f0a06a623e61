/-! ===== glue: shapes of arguments, words of calls, throws ===== -/
def okA : List Nat → List Value → Bool
  | [], [] => true
  | 0 :: ks, .int _ :: vs => okA ks vs
  | 1 :: ks, .ref _ :: vs => okA ks vs
  | 2 :: ks, .ref _ :: vs => okA ks vs
  | 2 :: ks, .null :: vs => okA ks vs
  | _, _ => false
theorem okA_cat : ∀ {ks : List Nat} {as : List Value}, okA ks as = true → ∀ v ∈ as, v.category = 1
  | [], [], _, v, hv => by cases hv
  | 0 :: ks, .int _ :: vs, h, v, hv => by
    rcases List.mem_cons.mp hv with rfl | hv
    · rfl
    · exact okA_cat (ks := ks) h v hv
  | 1 :: ks, .ref _ :: vs, h, v, hv => by
    rcases List.mem_cons.mp hv with rfl | hv
    · rfl
    · exact okA_cat (ks := ks) h v hv
  | 2 :: ks, .ref _ :: vs, h, v, hv => by
    rcases List.mem_cons.mp hv with rfl | hv
    · rfl
    · exact okA_cat (ks := ks) h v hv
  | 2 :: ks, .null :: vs, h, v, hv => by
    rcases List.mem_cons.mp hv with rfl | hv
    · rfl
    · exact okA_cat (ks := ks) h v hv
  | [], _ :: _, h, v, hv => by simp [okA] at h
  | 0 :: ks, [], h, v, hv => by cases hv
  | (k + 1) :: ks, [], h, v, hv => by cases hv
  | 0 :: ks, .long _ :: vs, h, v, hv => by simp [okA] at h
  | 0 :: ks, .float _ :: vs, h, v, hv => by simp [okA] at h
  | 0 :: ks, .double _ :: vs, h, v, hv => by simp [okA] at h
  | 0 :: ks, .null :: vs, h, v, hv => by simp [okA] at h
  | 0 :: ks, .ref _ :: vs, h, v, hv => by simp [okA] at h
  | 0 :: ks, .retAddr _ :: vs, h, v, hv => by simp [okA] at h
  | 1 :: ks, .int _ :: vs, h, v, hv => by simp [okA] at h
  | 1 :: ks, .long _ :: vs, h, v, hv => by simp [okA] at h
  | 1 :: ks, .float _ :: vs, h, v, hv => by simp [okA] at h
  | 1 :: ks, .double _ :: vs, h, v, hv => by simp [okA] at h
  | 1 :: ks, .null :: vs, h, v, hv => by simp [okA] at h
  | 1 :: ks, .retAddr _ :: vs, h, v, hv => by simp [okA] at h
  | 2 :: ks, .int _ :: vs, h, v, hv => by simp [okA] at h
  | 2 :: ks, .long _ :: vs, h, v, hv => by simp [okA] at h
  | 2 :: ks, .float _ :: vs, h, v, hv => by simp [okA] at h
  | 2 :: ks, .double _ :: vs, h, v, hv => by simp [okA] at h
  | 2 :: ks, .retAddr _ :: vs, h, v, hv => by simp [okA] at h
  | (k + 3) :: ks, w :: vs, h, v, hv => by cases w <;> simp [okA] at h
def rcvd (ci : Nat) (as : List Value) (σ : Hp) : Prop := match as with
  | .ref b :: _ => (match σ b with
    | some (.inr (c, _)) => c = ci
    | _ => False)
  | _ => False
theorem rcvd_spec {ci : Nat} {as : List Value} {σ : Hp} (h : rcvd ci as σ) : ∃ b As fs, as = .ref b :: As ∧ σ b = some (.inr (ci, fs)) := by
  unfold rcvd at h
  split at h
  · rename_i b As
    split at h
    · rename_i c fs hb
      subst h
      exact ⟨b, As, fs, rfl, hb⟩
    · exact h.elim
  · exact h.elim
abbrev Bod : Type := List Value → Hp → (Option Value → Hp → Prop) → (String → Hp → Prop) → Prop
/-- a method of objects of class ci; ks: the kinds of its arguments (0 int, 1 a reference, 2 a reference or null) -/
def mI (ci : Nat) (ks : List Nat) (b : List Value → Hp → Nat × Nat) (body : Bod) : Sg := (ks.length + 1, b, fun as σ K KX => okA (1 :: ks) as = true ∧ rcvd ci as σ ∧ body as σ K KX)
def mS (ks : List Nat) (b : List Value → Hp → Nat × Nat) (body : Bod) : Sg := (ks.length, b, fun as σ K KX => okA ks as = true ∧ body as σ K KX)
/-- the receiver is a String constant -/
def strd (P : Pm) (as : List Value) : Prop := match as with
  | .ref b :: _ => ∃ v, P.2.2.2.1 b = some v
  | _ => False
def mStr (P : Pm) (ks : List Nat) (b : List Value → Hp → Nat × Nat) (body : Bod) : Sg := (ks.length + 1, b, fun as σ K KX => okA (1 :: ks) as = true ∧ strd P as ∧ body as σ K KX)
def b0 : List Value → Hp → Nat × Nat := fun _ _ => (0, 0)
section GL
variable {p : Program} {l : Launch} {e : Env} {R : Room} {s : State} {m : MethodId} {args : Array Value} {below : List Frame} {meth : Method} {c : Code}
variable {s0 : State} {D : va_G} {cy : Nat → ClassId} {P : Pm} {a0 : Array Value} {A : Nat → Prop} {nL : Nat} {own : String} {cc : ByteArray} {Q : State → Prop}
theorem cw_mk (hE : E0 l s0 D cy P a0) (hW : s0.WarmedH s.vm) {j n : Nat} {y : MethodName} {w : Cond} (hm : w ∈ lw_tbl) (hg : okWord w = true) (hi : Cond.initialized y.cls ∈ lw_tbl) (hy : y.cls ≠ "java/lang/invoke/MethodHandle" ∧ y.cls ≠ "java/lang/invoke/VarHandle") (hn : (parseMethodDescriptor y.desc).map (fun d => d.parameters.length) = some n) : CwW s args own j y w n := by
  refine ⟨fun a' U h => wd hE (State.WarmedH.trans hW h) hm hg, wd hE hW hm hg, wd hE hW hi rfl, hy, fun sig h => ?_⟩
  rw [h] at hn
  exact (Option.some.inj hn).symm
/-- Object.<init> -/
def sp_OBJINIT (cy : Nat → ClassId) (P : Pm) : Sg := (1, b0, fun as σ K _ => okA [1] as = true ∧ K none σ)
theorem inv_obj (B : Bd p s m meth c s0 D cy P.2.1 A nL own cc) (hE : E0 l s0 D cy P a0) {j : Nat} (hl : Cond.methodLink own j objectInit ∈ lw_tbl) (hi : Cond.instanceMethod objectInit ∈ lw_tbl) (hc9 : Cond.code objectInit ⟨#[0xb1]⟩ 1 none ∈ lw_tbl) (hfr : 1 ≤ R.frames) (hlo : 20 ≤ R.locals) : InvOK p l e R s m args below meth c s0 D A nL cc Q (insOf 2 j) (sp_OBJINIT cy P) := by
  intro as rest σ K KX pc H locs cells slots lsA hlen hT hrest hdg hsz hO hdom hS hc hs kk kx
  have hW := B.2.2.2.2.2.2.2.2.2.1
  match as, hT with
  | [.ref a], hT =>
    refine W.objInit B.1 B.2.1 B.2.2.2.1 (wd hE hW hl rfl) (wd hE hW hi rfl) (wd hE hW hc9 rfl) (g := F0 m pc lsA ([Value.ref a].reverse ++ rest)) rfl (by rw [B.2.2.1]; exact hsz) (rest := rest) rfl hdg hfr ?_ ?_
    · have := rs_le hrest
      show 2 * 0 + _ + 12 ≤ _
      omega
    · exact kk none σ H locs hT.2 hO hdom hS
theorem inv_str (B : Bd p s m meth c s0 D cy P.2.1 A nL own cc) (hE : E0 l s0 D cy P a0) {y : MethodName} {bytes : ByteArray} {maxL : Nat} {ret : Option FieldType} {fr lo j n : Nat} {g : Sg} (hCon : Con l s0 D y (Cond.code y bytes maxL ret) fr lo g)
    (hrecv : ∀ as σ K KX, g.2.2 as σ K KX → strd P as) (hw : CwW s args own j y (Cond.code y bytes maxL ret) n) (hn : g.1 = n + 1) (hl : (Cond.methodLink own j y).before args s = true) (hi : (Cond.instanceMethod y).before args s = true) (hse : (Cond.selects "java/lang/String" y y).before args s = true)
    (hfr : fr + 1 ≤ R.frames) (hlo : 8 + (maxL + 11) + lo ≤ R.locals) : InvOK p l e R s m args below meth c s0 D A nL cc Q (insOf 0 j) g := by
  intro as rest σ K KX pc H locs cells slots lsA hlen hT hrest hdg hsz hO hdom hS hc hs kk kx
  have hr := hrecv _ _ _ _ hT
  unfold strd at hr
  split at hr
  · rename_i b As
    obtain ⟨v, hv⟩ := hr
    have hM := hCon (.ref b :: As) σ K KX H.size hlen hT
    have e1 : (Value.ref b :: As).reverse ++ rest = As.reverse ++ .ref b :: rest := by simp
    rw [e1]
    obtain ⟨cell, o1, o2, o3, o4⟩ := va_O.moved B.2.2.2.2.2.2.2.2.2.1.alike (hE.2.2.2.2.2.2.1 b v hv).1
    have hb0 : b < s0.heap.size := Nat.not_le.mp o4
    have hbA : ¬ A b := fun z => o4 (B.2.2.2.2.2.2.2.1 b z)
    have hcH : H[b]? = some cell := by
      have := B.2.2.2.2.2.2.2.2.1
      rw [hS.2.1 b (by omega) hbA, B.2.2.2.2.2.2.2.2.2.2.1 b hb0]
      exact o1
    refine inv_fin B hdom hS (vx_runV (C := "java/lang/String") (b := b) (As := As) (rest := rest) (n := n) (own := own) ⟨B.1, B.2.1, B.2.2.1, B.2.2.2.1, fun w (h : w ∈ ([] : List Cond)) => nomatch h⟩ hM
      ⟨⟨rfl, rfl, hfr, hlo, fun w hw9 a' U hW => by rw [List.mem_singleton.mp hw9]; exact hw.1 a' U hW, List.mem_singleton.mpr rfl, hw.2.1, hw.2.2.1, hw.2.2.2.1, hw.2.2.2.2, hl⟩, hi, hse⟩
      ⟨blind, ⟨cell, hcH, o2, o3⟩, fun U hU hW => ⟨rfl, by rw [hU], wu_at B hO hS hU hW⟩⟩ rfl (by simp at hlen; omega) hsz rfl (lv_room (rs_le hrest)) hdg ⟨hc, hs⟩) kk kx
  · exact hr.elim
theorem xok_none {cc : ByteArray} {KX : String → Hp → Prop} (htab : ∀ x ∈ c.exceptionTable.toList, False) : XOk p l e R s m args below meth c s0 D A nL cc KX (fun _ => none) (fun _ => some none) Q :=
  ⟨fun pc E h => (nomatch h), fun E h q => (by cases q), fun _ => htab⟩
/-- a throw of a new exception with a written text, in the class StormFlags -/
theorem thr_ok (B : Bd p s m meth c s0 D cy P.2.1 A nL "StormFlags" cc) (hE : E0 l s0 D cy P a0) (htab : ∀ x ∈ c.exceptionTable.toList, False) {K : Option Value → Hp → Prop} {KX : String → Hp → Prop} {E text : String} {ik is ic pc : Nat} (hs9 : (is, text) ∈ msgTab) (hcls : Bundle.fit E = true)
    (hk : Cond.classLink "StormFlags" ik E ∈ lw_tbl) (hi : Cond.initialized E ∈ lw_tbl) (hat : ∀ w ∈ vx_atS "StormFlags" ic E ["java/lang/RuntimeException", "java/lang/Exception"], w ∈ lw_tbl)
    (hok : (vx_atS "StormFlags" ic E ["java/lang/RuntimeException", "java/lang/Exception"]).all (fun w => okWord w || decide (w = .castable E E)) = true)
    (hgood : ∀ w ∈ Cond.classLink "StormFlags" ik E :: Cond.initialized E :: vx_atS "StormFlags" ic E ["java/lang/RuntimeException", "java/lang/Exception"], vx_ot w = true)
    (d0 : decode cc pc = .ok (.new ik, 3)) (d3 : decode cc (pc + 3) = .ok (.dup, 1)) (d4 : decode cc (pc + 4) = .ok (.ldc is, 2)) (d6 : decode cc (pc + 6) = .ok (.invokespecial ic, 3)) (d9 : decode cc (pc + 9) = .ok (.athrow, 1)) (hfr : 6 ≤ R.frames) (hlo : 90 ≤ R.locals)
    {σ : Hp} {H : Heap} {locs : List Loc} {cells slots : Nat} {lsA : Array Slot} {st : List Value} (hKX : KX E σ) (hO : Okh s0 D σ H) (hdom : ∀ a, σ a ≠ none → A a) (hS : va_S A s.heap H locs) (hc : cells + 1 ≤ R.cells) (hsl : slots + 6 ≤ R.slots) (hsz : lsA.size = nL) (hst : st.length ≤ 4) :
    W p l e R s m args below meth c H locs cells slots (vx_MQ below (QcF s0 D A K) (XcF s0 D A KX) args s R.cells R.slots A) (F0 m pc lsA st) := by
  have hW := B.2.2.2.2.2.2.2.2.2.1
  have hA2 := B.2.2.2.2.2.2.2.1
  have hold := B.2.2.2.2.2.2.2.2.2.2.1
  obtain ⟨sa, hsa⟩ := hE.2.2.2.2.2.2.2.2.1 _ hs9
  have hsum := sum_le hst
  refine vx_throwS (A := A) (names := ["java/lang/RuntimeException", "java/lang/Exception"]) (sa := sa) B.1 B.2.1 hE.2.2.1 B.2.2.2.1 hcls (by decide +kernel) (wd hE hW hk rfl) (wd hE hW hi rfl) (vk_R.warm hW hsa) (fun w hw => ?_) hgood (vx_Zq_at hE.2.2.2.2.2.2.2.2.2.2.2.2.2.2.1 hW.alike hold hA2) (vx_Zq_at hE.2.2.2.2.2.2.2.2.2.2.2.2.2.2.2 hW.alike hold hA2) hS (by rw [B.2.2.1]; exact hsz) d0 d3 d4 d6 d9 (fun x hx => (htab x hx).elim) (by simp; omega) (by simp; omega) hc hsl B.2.2.2.2.1 (fun t hal hz hq => ?_) hS.2.2 hc hsl
  · have h1 := List.all_eq_true.mp hok w hw
    rw [Bool.or_eq_true] at h1
    rcases h1 with h1 | h1
    · exact wd hE hW (hat w hw) h1
    · have h2 : w = .castable E E := by simpa using h1
      rw [h2]
      rw [h2] at hw
      exact wd hE hW (hat _ hw) rfl
  · obtain ⟨L, f, i1, hP, hD⟩ := hO
    exact ⟨⟨σ, hKX, ⟨L, f, i1, hP.kept (fun k q hk => hq q.1 ((hP k q hk).lt)), hD⟩, hdom⟩, Nat.le_trans hS.1 hz, fun q h1 h2 => by rw [hq q (Nat.lt_of_lt_of_le h1 hS.1)]; exact hS.2.1 q h1 h2⟩
end GL
theorem nby0 : (narrow .byte (.int 0) = .int 0) = True := eq_true rfl
theorem nb0 : (narrow .boolean (.int 0) = .int 0) = True := eq_true rfl
theorem nb1 : (narrow .boolean (.int 1) = .int 1) = True := eq_true rfl
theorem cg_int (x : Int32) : (Value.int x).category = 1 := rfl
theorem cg_ref (x : Nat) : (Value.ref x).category = 1 := rfl
theorem cg_null : Value.null.category = 1 := rfl
