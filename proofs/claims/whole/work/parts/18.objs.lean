/-! ===== objects of the small classes ===== -/
abbrev oBoat (hm : Nat) (bo : Int32) (sg : Int32) (st : Int32) (hr : Int32) (tr : Int32) (sa : Int32) (sy : Int32) : va_E := .inr (1, [.ref hm, .int bo, .int sg, .int st, .int hr, .int tr, .int sa, .int sy])
def onBoat (σ : Hp) (b : Nat) (f : Nat → Int32 → Int32 → Int32 → Int32 → Int32 → Int32 → Int32 → Prop) : Prop := match σ b with
  | some (.inr (1, [.ref hm, .int bo, .int sg, .int st, .int hr, .int tr, .int sa, .int sy])) => f hm bo sg st hr tr sa sy
  | _ => False
theorem onBoat_spec {σ : Hp} {b : Nat} {f : Nat → Int32 → Int32 → Int32 → Int32 → Int32 → Int32 → Int32 → Prop} (h : onBoat σ b f) : ∃ hm bo sg st hr tr sa sy, σ b = some (oBoat hm bo sg st hr tr sa sy) ∧ f hm bo sg st hr tr sa sy := by
  unfold onBoat at h
  split at h
  · rename_i hm bo sg st hr tr sa sy hb
    exact ⟨hm, bo, sg, st, hr, tr, sa, sy, hb, h⟩
  · exact h.elim
abbrev oGale (pt : Int32) (fr : Int32) (to : Int32) (fo : Int32) : va_E := .inr (2, [.int pt, .int fr, .int to, .int fo])
def onGale (σ : Hp) (b : Nat) (f : Int32 → Int32 → Int32 → Int32 → Prop) : Prop := match σ b with
  | some (.inr (2, [.int pt, .int fr, .int to, .int fo])) => f pt fr to fo
  | _ => False
theorem onGale_spec {σ : Hp} {b : Nat} {f : Int32 → Int32 → Int32 → Int32 → Prop} (h : onGale σ b f) : ∃ pt fr to fo, σ b = some (oGale pt fr to fo) ∧ f pt fr to fo := by
  unfold onGale at h
  split at h
  · rename_i pt fr to fo hb
    exact ⟨pt, fr, to, fo, hb, h⟩
  · exact h.elim
abbrev oOut (co : Int32) (gb : Int32) (gl : Int32) (wi : Int32) : va_E := .inr (3, [.int co, .int gb, .int gl, .int wi])
def onOut (σ : Hp) (b : Nat) (f : Int32 → Int32 → Int32 → Int32 → Prop) : Prop := match σ b with
  | some (.inr (3, [.int co, .int gb, .int gl, .int wi])) => f co gb gl wi
  | _ => False
theorem onOut_spec {σ : Hp} {b : Nat} {f : Int32 → Int32 → Int32 → Int32 → Prop} (h : onOut σ b f) : ∃ co gb gl wi, σ b = some (oOut co gb gl wi) ∧ f co gb gl wi := by
  unfold onOut at h
  split at h
  · rename_i co gb gl wi hb
    exact ⟨co, gb, gl, wi, hb, h⟩
  · exact h.elim
abbrev oPort (nu : Int32) (x : Int32) (y : Int32) (co : Int32) (wi : Int32) (la : Value) : va_E := .inr (4, [.int nu, .int x, .int y, .int co, .int wi, la])
def onPort (σ : Hp) (b : Nat) (f : Int32 → Int32 → Int32 → Int32 → Int32 → Value → Prop) : Prop := match σ b with
  | some (.inr (4, [.int nu, .int x, .int y, .int co, .int wi, la])) => f nu x y co wi la
  | _ => False
theorem onPort_spec {σ : Hp} {b : Nat} {f : Int32 → Int32 → Int32 → Int32 → Int32 → Value → Prop} (h : onPort σ b f) : ∃ nu x y co wi la, σ b = some (oPort nu x y co wi la) ∧ f nu x y co wi la := by
  unfold onPort at h
  split at h
  · rename_i nu x y co wi la hb
    exact ⟨nu, x, y, co, wi, la, hb, h⟩
  · exact h.elim
abbrev oRep (nu : Int32) (wa : Int32) (gl : Int32) (wi : Int32) (kf : Int32) (ea : Value) : va_E := .inr (5, [.int nu, .int wa, .int gl, .int wi, .int kf, ea])
def onRep (σ : Hp) (b : Nat) (f : Int32 → Int32 → Int32 → Int32 → Int32 → Value → Prop) : Prop := match σ b with
  | some (.inr (5, [.int nu, .int wa, .int gl, .int wi, .int kf, ea])) => f nu wa gl wi kf ea
  | _ => False
theorem onRep_spec {σ : Hp} {b : Nat} {f : Int32 → Int32 → Int32 → Int32 → Int32 → Value → Prop} (h : onRep σ b f) : ∃ nu wa gl wi kf ea, σ b = some (oRep nu wa gl wi kf ea) ∧ f nu wa gl wi kf ea := by
  unfold onRep at h
  split at h
  · rename_i nu wa gl wi kf ea hb
    exact ⟨nu, wa, gl, wi, kf, ea, hb, h⟩
  · exact h.elim
abbrev oWarn (ho : Int32) (co : Int32) (fl : Int32) (ru : Int32) (po : Int32) : va_E := .inr (8, [.int ho, .int co, .int fl, .int ru, .int po])
def onWarn (σ : Hp) (b : Nat) (f : Int32 → Int32 → Int32 → Int32 → Int32 → Prop) : Prop := match σ b with
  | some (.inr (8, [.int ho, .int co, .int fl, .int ru, .int po])) => f ho co fl ru po
  | _ => False
theorem onWarn_spec {σ : Hp} {b : Nat} {f : Int32 → Int32 → Int32 → Int32 → Int32 → Prop} (h : onWarn σ b f) : ∃ ho co fl ru po, σ b = some (oWarn ho co fl ru po) ∧ f ho co fl ru po := by
  unfold onWarn at h
  split at h
  · rename_i ho co fl ru po hb
    exact ⟨ho, co, fl, ru, po, hb, h⟩
  · exact h.elim
/-- two ends -/
def yn (c : Prop) (K : Option Value → Hp → Prop) (σ : Hp) : Prop := (c → K (some (.int 1)) σ) ∧ (¬ c → K (some (.int 0)) σ)
/-- a walk with two-valued tests ends as its condition says -/
theorem nn {c : Prop} (h : ¬ ¬ c) : c := Classical.not_not.mp h
theorem e10 : ((1 : Int32) = 0) = False := eq_false (by decide)
theorem e01 : ((0 : Int32) = 1) = False := eq_false (by decide)
theorem em1 : ((-1 : Int32) < 0) = True := eq_true (by decide)
/-- a list: modCount, elements, size -/
abbrev oAL (mc : Int32) (el : Nat) (n : Int32) : va_E := .inr (0, [.int mc, .ref el, .int n])
def onAL (σ : Hp) (b : Nat) (f : Int32 → Nat → Int32 → Prop) : Prop := match σ b with
  | some (.inr (0, [.int mc, .ref el, .int n])) => f mc el n
  | _ => False
theorem onAL_spec {σ : Hp} {b : Nat} {f : Int32 → Nat → Int32 → Prop} (h : onAL σ b f) : ∃ mc el n, σ b = some (oAL mc el n) ∧ f mc el n := by
  unfold onAL at h
  split at h
  · rename_i mc el n hb
    exact ⟨mc, el, n, hb, h⟩
  · exact h.elim
abbrev oRefs (cy : Nat → ClassId) (cap : Nat) (f : Nat → Option Nat) : va_E := .inl (cy 3, cap, .inr (.inr (.inr (.inr f))))
abbrev oInts (cy : Nat → ClassId) (n : Nat) (f : Nat → Int32) : va_E := .inl (cy 0, n, .inl f)
abbrev oBytes (cy : Nat → ClassId) (n : Nat) (f : Nat → Int32) : va_E := .inl (cy 1, n, .inl f)
