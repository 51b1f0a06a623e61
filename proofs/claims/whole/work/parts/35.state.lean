/-! ===== StormFlags: its state, and how it changes ===== -/
/-- a byte in the class's reckoning (0 to 255) and in the model's (-128 to 127) -/
def bOK (u v : Int32) : Prop := (0 ≤ u ∧ u ≤ 127 ∧ v = u) ∨ (128 ≤ u ∧ v < 0)
def BYR (f g : Nat → Int32) (L : Nat) : Prop := ∀ i, i < L → bOK (f i) (g i)
def kind4 (k : Int32) : Prop := k = 0 ∨ k = 1 ∨ k = 2 ∨ k = 3
def RUL (F C : Nat → Int32) (Kd Nm : Nat → Nat → Int32) (n : Nat) (M : Ms) : Prop := ∀ k, k < n → F k = M 13 k ∧ C k = M 14 k ∧ ∃ m, M 14 k = nI m ∧ m ≤ 4 ∧ ∀ c, c < m → Kd k c = M 15 (4 * k + c) ∧ Nm k c = M 16 (4 * k + c) ∧ kind4 (M 15 (4 * k + c))
def BD (b1 b2 : Nat) (a1 a2 : BA) : Prop := b1 ≠ b2 ∧ ∀ y, BkIn a1 y → BkIn a2 y → False
def LD (lp lw lg lb : Nat) : Prop := lp ≠ lw ∧ lp ≠ lg ∧ lp ≠ lb ∧ lw ≠ lg ∧ lw ≠ lb ∧ lg ≠ lb
/-- all but the object itself -/
def CXr (cy : Nat → ClassId) (P : Pm) (σ : Hp) (N : Nat → Nat) (M : Ms) (co gb gl wi : Int32) (t : Nat) (tb : Nat) (pl : Int32) (f : Nat → Int32) (lp : Nat) (ep : Nat) (pA : Nat → Nat) (rA : Nat → Nat) (lw : Nat) (ew : Nat) (wA : Nat → Nat) (lg : Nat) (eg : Nat) (gA : Nat → Nat) (lb : Nat) (eb : Nat) (bA : Nat → Nat) (o : Nat) (b1 : Nat) (a1 : BA) (F : Nat → Int32) (C : Nat → Int32) (Kd : Nat → Nat → Int32) (Nm : Nat → Nat → Int32) (b2 : Nat) (a2 : BA) (s2 : Nat) (F2 : Nat → Int32) (C2 : Nat → Int32) (K2 : Nat → Nat → Int32) (N2 : Nat → Nat → Int32) : Prop :=
  TQ cy σ t tb (N 19) pl f ∧ BYR f (M 18) (N 19) ∧ PV cy P σ lp ep (N 6) pA (N 12) rA M ∧ WV cy P σ lw ew (N 26) wA M ∧ GV cy P σ lg eg (N 34) gA M ∧ BV cy P σ lb eb (N 36) bA pA (N 6) M ∧ σ o = some (oOut co gb gl wi) ∧
  BK cy σ b1 a1 (N 17) F C Kd Nm ∧ RUL F C Kd Nm (N 17) M ∧ BK cy σ b2 a2 s2 F2 C2 K2 N2 ∧ BD b1 b2 a1 a2 ∧ LD lp lw lg lb
def CXo (cy : Nat → ClassId) (P : Pm) (σ : Hp) (x : Nat) (N : Nat → Nat) (M : Ms) (co gb gl wi : Int32) : Prop := ∃ t tb pl f lp ep pA rA lw ew wA lg eg gA lb eb bA o b1 a1 F C Kd Nm b2 a2 s2 F2 C2 K2 N2, σ x = some (oSF t lp lw lg lb o b1 b2 (M 23 0) (nI (N 12)) (nI (N 1))) ∧ CXr cy P σ N M co gb gl wi t tb pl f lp ep pA rA lw ew wA lg eg gA lb eb bA o b1 a1 F C Kd Nm b2 a2 s2 F2 C2 K2 N2
def CX (cy : Nat → ClassId) (P : Pm) (σ : Hp) (x : Nat) (N : Nat → Nat) (M : Ms) : Prop := ∃ co gb gl wi, CXo cy P σ x N M co gb gl wi
section TR
variable {cy : Nat → ClassId} {P : Pm} {σ σ' : Hp} {N : Nat → Nat} {M : Ms} {co gb gl wi : Int32} {x : Nat}
variable {t : Nat} {tb : Nat} {pl : Int32} {f : Nat → Int32} {lp : Nat} {ep : Nat} {pA : Nat → Nat} {rA : Nat → Nat} {lw : Nat} {ew : Nat} {wA : Nat → Nat} {lg : Nat} {eg : Nat} {gA : Nat → Nat} {lb : Nat} {eb : Nat} {bA : Nat → Nat} {o : Nat} {b1 : Nat} {a1 : BA} {F : Nat → Int32} {C : Nat → Int32} {Kd : Nat → Nat → Int32} {Nm : Nat → Nat → Int32} {b2 : Nat} {a2 : BA} {s2 : Nat} {F2 : Nat → Int32} {C2 : Nat → Int32} {K2 : Nat → Nat → Int32} {N2 : Nat → Nat → Int32}
theorem TQ_keep {n9 : Nat} (h : TQ cy σ t tb n9 pl f) (hk : ∀ y e, σ y = some e → ((∃ vs, e = .inr (7, vs)) ∨ ∃ f, e = oInts cy 400 f) → σ' y = some e) : TQ cy σ' t tb n9 pl f :=
  ⟨hk _ _ h.1 (Or.inl ⟨_, rfl⟩), hk _ _ h.2.1 (Or.inr ⟨_, rfl⟩), h.2.2⟩
theorem ntf_obj {k : Nat} {vs : List Value} (h : k ≠ 7) : ¬ ((∃ vs', (Sum.inr (k, vs) : va_E) = .inr (7, vs')) ∨ ∃ f, (Sum.inr (k, vs) : va_E) = oInts cy 400 f) := fun z => by
  rcases z with ⟨v, z⟩ | ⟨f, z⟩
  · cases z; exact h rfl
  · cases z
theorem ntf_refs {cap : Nat} {g : Nat → Option Nat} : ¬ ((∃ vs', oRefs cy cap g = .inr (7, vs')) ∨ ∃ f, oRefs cy cap g = oInts cy 400 f) := fun z => by
  rcases z with ⟨v, z⟩ | ⟨f, z⟩
  · cases z
  · simp at z
theorem CXr_mono (h : CXr cy P σ N M co gb gl wi t tb pl f lp ep pA rA lw ew wA lg eg gA lb eb bA o b1 a1 F C Kd Nm b2 a2 s2 F2 C2 K2 N2) (hk : ∀ y e, σ y = some e → σ' y = some e) : CXr cy P σ' N M co gb gl wi t tb pl f lp ep pA rA lw ew wA lg eg gA lb eb bA o b1 a1 F C Kd Nm b2 a2 s2 F2 C2 K2 N2 := by
  obtain ⟨hT, hf, hP, hW, hG, hB, ho, h1, hR, h2, hD, hL⟩ := h
  exact ⟨TQ_keep hT (fun y e h1 _ => hk y e h1), hf, PV_keep hP (fun y e h1 _ => hk y e h1), WV_keep hW (fun y e h1 _ => hk y e h1), GV_keep hG (fun y e h1 _ => hk y e h1), BV_keep hB (fun y e h1 _ => hk y e h1), hk _ _ ho, BK_new h1 hk, hR, BK_new h2 hk, hD, hL⟩
theorem CXr_x {vs : List Value} {e' : va_E} (h : CXr cy P σ N M co gb gl wi t tb pl f lp ep pA rA lw ew wA lg eg gA lb eb bA o b1 a1 F C Kd Nm b2 a2 s2 F2 C2 K2 N2) (hx : σ x = some (.inr (9, vs))) : CXr cy P (hup σ x e') N M co gb gl wi t tb pl f lp ep pA rA lw ew wA lg eg gA lb eb bA o b1 a1 F C Kd Nm b2 a2 s2 F2 C2 K2 N2 := by
  obtain ⟨hT, hf, hP, hW, hG, hB, ho, h1, hR, h2, hD, hL⟩ := h
  exact ⟨TQ_keep hT (keep_hup (F := fun y e => (∃ vs, e = .inr (7, vs)) ∨ ∃ f, e = oInts cy 400 f) hx (ntf_obj (by decide))), hf, PV_keep hP (keep_hup hx (npf_obj (by decide) (by decide) (by decide))), WV_keep hW (keep_hup hx (naf_obj (by decide) (by decide))), GV_keep hG (keep_hup hx (naf_obj (by decide) (by decide))), BV_keep hB (keep_hup hx (naf_obj (by decide) (by decide))),
    by rw [hup_ne _ _ (kne ho hx (by intro z; cases z))]; exact ho, BK_obj h1 hx (by decide), hR, BK_obj h2 hx (by decide), hD, hL⟩
theorem CXr_out {co' gb' gl' wi' : Int32} (h : CXr cy P σ N M co gb gl wi t tb pl f lp ep pA rA lw ew wA lg eg gA lb eb bA o b1 a1 F C Kd Nm b2 a2 s2 F2 C2 K2 N2) : CXr cy P (hup σ o (oOut co' gb' gl' wi')) N M co' gb' gl' wi' t tb pl f lp ep pA rA lw ew wA lg eg gA lb eb bA o b1 a1 F C Kd Nm b2 a2 s2 F2 C2 K2 N2 := by
  obtain ⟨hT, hf, hP, hW, hG, hB, ho, h1, hR, h2, hD, hL⟩ := h
  exact ⟨TQ_keep hT (keep_hup (F := fun y e => (∃ vs, e = .inr (7, vs)) ∨ ∃ f, e = oInts cy 400 f) ho (ntf_obj (by decide))), hf, PV_keep hP (keep_hup ho (npf_obj (by decide) (by decide) (by decide))), WV_keep hW (keep_hup ho (naf_obj (by decide) (by decide))), GV_keep hG (keep_hup ho (naf_obj (by decide) (by decide))), BV_keep hB (keep_hup ho (naf_obj (by decide) (by decide))),
    hup_same _ _ _, BK_obj h1 ho (by decide), hR, BK_obj h2 ho (by decide), hD, hL⟩
/-- the row of the warnings with one more -/
def addW (f : Nat → Int32) (w : Nat) (a b c d e : Int32) : Nat → Int32 := upd (upd (upd (upd (upd f (5 * w) a) (5 * w + 1) b) (5 * w + 2) c) (5 * w + 3) d) (5 * w + 4) e
theorem addW_old {f : Nat → Int32} {w i : Nat} {a b c d e : Int32} (h : i < 5 * w) : addW f w a b c d e i = f i := by
  unfold addW
  rw [pk_un (by omega), pk_un (by omega), pk_un (by omega), pk_un (by omega), pk_un (by omega)]
theorem addW_new {f : Nat → Int32} {w : Nat} {a b c d e : Int32} : addW f w a b c d e (5 * w) = a ∧ addW f w a b c d e (5 * w + 1) = b ∧ addW f w a b c d e (5 * w + 2) = c ∧ addW f w a b c d e (5 * w + 3) = d ∧ addW f w a b c d e (5 * w + 4) = e := by
  unfold addW
  refine ⟨?_, ?_, ?_, ?_, pk_us⟩
  · rw [pk_un (by omega), pk_un (by omega), pk_un (by omega), pk_un (by omega), pk_us]
  · rw [pk_un (by omega), pk_un (by omega), pk_un (by omega), pk_us]
  · rw [pk_un (by omega), pk_un (by omega), pk_us]
  · rw [pk_un (by omega), pk_us]
theorem CXr_addW {q ew' : Nat} {a b c d e : Int32} (h : CXr cy P σ N M co gb gl wi t tb pl f lp ep pA rA lw ew wA lg eg gA lb eb bA o b1 a1 F C Kd Nm b2 a2 s2 F2 C2 K2 N2) (hn : N 26 < 244) (hq : σ q = some (oWarn a b c d e)) (hAd : Added cy P σ σ' lw ew ew' (N 26) wA q) :
    CXr cy P σ' (cu N 26 (N 26 + 1)) (setR M 25 (addW (M 25) (N 26) a b c d e)) co gb gl wi t tb pl f lp ep pA rA lw ew' (fun i => if i = N 26 then q else wA i) lg eg gA lb eb bA o b1 a1 F C Kd Nm b2 a2 s2 F2 C2 K2 N2 := by
  obtain ⟨hT, hf, hP, hW, hG, hB, ho, h1, hR, h2, hD, hL⟩ := h
  have hA := hW.1
  refine ⟨TQ_keep hT (keep_add (F := fun y e => (∃ vs, e = .inr (7, vs)) ∨ ∃ f, e = oInts cy 400 f) hA hAd (fun vs => ntf_obj (by decide)) (fun _ cap f => ntf_refs)), hf, PV_congr (fun s _ h => setR_ne (by omega)) (PV_keep hP (keep_add hA hAd (fun vs => npf_lst (Ne.symm hL.1)) (fun hn cap f => npf_arr (el_ne hA hP.1 (by decide) hn)))), ⟨?_, fun i hi => ?_⟩,
    GV_congr (fun s h _ => setR_ne (by omega)) (GV_keep hG (keep_add hA hAd (fun vs => naf_lst hL.2.2.2.1 (by decide)) (fun hn cap f => naf_arr (el_ne hA hG.1 (by decide) hn)))), BV_congr (setR_ne (by decide)) (BV_keep hB (keep_add hA hAd (fun vs => naf_lst hL.2.2.2.2.1 (by decide)) (fun hn cap f => naf_arr (el_ne hA hB.1 (by decide) hn)))),
    keep_add (F := fun y e => ∃ vs, e = .inr (3, vs)) hA hAd (fun vs z => by obtain ⟨v, z⟩ := z; cases z) (fun _ cap f z => by obtain ⟨v, z⟩ := z; cases z) _ _ ho ⟨_, rfl⟩, BK_add h1 hA hAd, hR, BK_add h2 hA hAd, hD, hL⟩
  · exact AL_add hA hAd hq (by decide) hn
  · have hk : ∀ y e, σ y = some e → (∃ vs, e = .inr (8, vs)) → σ' y = some e := keep_add (F := fun y e => ∃ vs, e = .inr (8, vs)) hA hAd (fun vs z => by obtain ⟨v, z⟩ := z; cases z) (fun _ cap f z => by obtain ⟨v, z⟩ := z; cases z)
    rw [setR_same]
    rw [cu_same] at hi
    by_cases h : i = N 26
    · subst h
      obtain ⟨e1, e2, e3, e4, e5⟩ := addW_new (f := M 25) (w := N 26) (a := a) (b := b) (c := c) (d := d) (e := e)
      rw [e1, e2, e3, e4, e5]
      dsimp only
      rw [if_pos rfl]
      exact hk _ _ hq ⟨_, rfl⟩
    · rw [addW_old (by omega), addW_old (by omega), addW_old (by omega), addW_old (by omega), addW_old (by omega)]
      dsimp only
      rw [if_neg h]
      exact hk _ _ (hW.2 i (by omega)) ⟨_, rfl⟩
/-- a boat's cell and its eight numbers change -/
theorem CXr_boat {i k : Nat} {g : Nat → Int32} (h : CXr cy P σ N M co gb gl wi t tb pl f lp ep pA rA lw ew wA lg eg gA lb eb bA o b1 a1 F C Kd Nm b2 a2 s2 F2 C2 K2 N2) (hi : i < N 36) (hk : k < N 6) (hg : g (8 * i) = nI k) (hold : ∀ j, (j < 8 * i ∨ 8 * i + 8 ≤ j) → g j = M 35 j) :
    CXr cy P (hup σ (bA i) (oBt (setR M 35 g) (pA k) i)) N (setR M 35 g) co gb gl wi t tb pl f lp ep pA rA lw ew wA lg eg gA lb eb bA o b1 a1 F C Kd Nm b2 a2 s2 F2 C2 K2 N2 := by
  obtain ⟨hT, hf, hP, hW, hG, hB, ho, h1, hR, h2, hD, hL⟩ := h
  obtain ⟨k0, -, -, hb⟩ := hB.2.1 i hi
  refine ⟨TQ_keep hT (keep_hup (F := fun y e => (∃ vs, e = .inr (7, vs)) ∨ ∃ f, e = oInts cy 400 f) hb (ntf_obj (by decide))), hf, PV_congr (fun s _ h => setR_ne (by omega)) (PV_keep hP (keep_hup hb (npf_obj (by decide) (by decide) (by decide)))), WV_congr (setR_ne (by decide)) (WV_keep hW (keep_hup hb (naf_obj (by decide) (by decide)))), GV_congr (fun s _ h => setR_ne (by omega)) (GV_keep hG (keep_hup hb (naf_obj (by decide) (by decide)))), ⟨?_, fun j hj => ?_, hB.2.2⟩,
    by rw [hup_ne _ _ (kne ho hb (by intro z; cases z))]; exact ho, BK_obj h1 hb (by decide), hR, BK_obj h2 hb (by decide), hD, hL⟩
  · obtain ⟨⟨mc, e1⟩, e2, e3, e4⟩ := hB.1
    refine ⟨⟨mc, by rw [hup_ne _ _ (kne e1 hb (by intro z; cases z))]; exact e1⟩, e2, ?_, fun j hj => ?_⟩
    · rcases e3 with e3 | ⟨x1, x2, f, x3, x4⟩
      · exact Or.inl e3
      · exact Or.inr ⟨x1, x2, f, by rw [hup_ne _ _ (kne x3 hb (by intro z; cases z))]; exact x3, x4⟩
    · by_cases hij : bA j = bA i
      · rw [hij, hup_same]; exact ⟨_, rfl⟩
      · rw [hup_ne _ _ hij]; exact e4 j hj
  · by_cases hij : j = i
    · subst hij
      exact ⟨k, hk, by rw [setR_same]; exact hg, hup_same _ _ _⟩
    · obtain ⟨k2, hk2, hk3, hb2⟩ := hB.2.1 j hj
      refine ⟨k2, hk2, by rw [setR_same, hold _ (by omega)]; exact hk3, ?_⟩
      rw [hup_ne _ _ (fun z => hij (hB.2.2 j i hj hi z)), hb2]
      simp only [oBt, hrC, setR_same]
      rw [hold (8 * j + 1) (by omega), hold (8 * j + 2) (by omega), hold (8 * j + 3) (by omega), hold (8 * j + 4) (by omega), hold (8 * j + 5) (by omega), hold (8 * j + 6) (by omega), hold (8 * j + 7) (by omega)]
end TR
