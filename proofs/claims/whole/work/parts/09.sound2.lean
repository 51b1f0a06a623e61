/-! ===== every step, and so the wp, is sound ===== -/
section STQ
variable {p : Program} {l : Launch} {e : Env} {R : Room} {s : State} {m : MethodId} {args : Array Value} {below : List Frame} {meth : Method} {c : Code}
variable {s0 : State} {D : va_G} {cy : Nat → ClassId} {O : Old} {A : Nat → Prop} {nL : Nat} {own : String} {cc : ByteArray}
variable {K : Option Value → Hp → Prop} {KX : String → Hp → Prop} {CL : Cl} {ob : Nat → Bool} {inv : Nat → Nat → Option Sg} {thr : Nat → Option String} {exc : String → Option (Option Nat)} {ret : Option FieldType}
theorem arr_cls (hK : va_K D vwCl (tysG cy) s) {cA : ClassId} {ty : FieldType} (t0 : Nat) (ht : (tysG cy)[t0]? = some (cy t0, ty)) (hp : ∀ C, ty ≠ .object C) (h : va_RA s cA ty) : cA = cy t0 := by
  have h2 := (hK.2 t0 _ ht).2
  dsimp only at h2
  cases ty with
  | object C => exact absurd rfl (hp C)
  | _ => exact Option.some.inj (h.symm.trans h2)
theorem r_newa {Q : State → Prop} (B : Bd p s m meth c s0 D cy O A nL own cc) {at9 : ArrayType} {ty : FieldType} (t0 : Nat) (hty : newarray.typeOf at9 = ty) (ht : (tysG cy)[t0]? = some (cy t0, ty)) (hp : ∀ C, ty ≠ .object C) (harr : (Cond.arrayClass ty).before args s = true) {w : vp_A} {n : Int32} {r : List Value} {pc : Nat} {ls : List (Option Value)} {σ : Hp} {rc rs : Nat}
    (ha : ∀ cA : ClassId, vp_cell cA w = arrV cA n.toNatClampNeg (fun _ => defaultValue ty)) (hcb : n.toNatClampNeg * componentBytes ty ≤ 536870912) (g1 : ¬ n < 0) (g3 : 1 ≤ rc) (g4 : n.toNatClampNeg ≤ rs)
    (h : ∀ q : Nat, σ q = none → q ≠ O.1 → JJ p l e R s m args below meth c s0 D A nL Q (pc + 2) ls (.ref q :: r) (hup σ q (.inl (cy t0, w))) (rc - 1) (rs - n.toNatClampNeg)) (hdg : decode cc pc = .ok (.newarray at9, 2)) : JJ p l e R s m args below meth c s0 D A nL Q pc ls (.int n :: r) σ rc rs := by
  subst hty
  refine r_new B g3 g4 h (fun H locs cells slots lsA L f hP hD hS hc hs kk => ?_)
  refine va_newa B.1 B.2.1 harr rfl B.2.2.2.2.2.1 hP hD hS B.2.2.2.2.2.2.1 ha g1 rfl hcb hc hs hdg (fun q cA H1 hK1 hP1 hD1 hS1 => ?_)
  have hcA : cA = cy t0 := arr_cls B.2.2.2.2.2.1 t0 ht hp (hK1.2 5 _ rfl).2
  subst hcA
  exact kk q H1 hP1 hD1 hS1
theorem r_newm {Q : State → Prop} (B : Bd p s m meth c s0 D cy O A nL own cc) {j : Nat} (hcl : (Cond.classLink own j ("[" ++ (FieldType.array .int).toString)).before args s = true) (hov : va_AOA .int s) (harr : (Cond.arrayClass .int).before args s = true) {r : List Value} {pc : Nat} {ls : List (Option Value)} {σ : Hp} {rc rs : Nat} (g3 : 9 ≤ rc) (g4 : 40 ≤ rs)
    (h : ∀ (q : Nat) (rr : Nat → Nat), σ q = none → q ≠ O.1 → (∀ i, i < 8 → σ (rr i) = none ∧ rr i ≠ O.1 ∧ rr i ≠ q) → (∀ i j, i < 8 → j < 8 → rr i = rr j → i = j) → JJ p l e R s m args below meth c s0 D A nL Q (pc + 4) ls (.ref q :: r)
      (fun b => if b = q then some (.inl (cy 4, 8, .inr (.inr (.inr (.inr (fun i => if i < 8 then some (rr i) else none)))))) else if b ∈ (List.range 8).map rr then some (.inl (cy 0, 4, .inl (fun _ => 0))) else σ b) (rc - 9) (rs - 40)) (hdg : decode cc pc = .ok (.multianewarray j 2, 4)) :
    JJ p l e R s m args below meth c s0 D A nL Q pc ls (.int 4 :: .int 8 :: r) σ rc rs := by
  obtain ⟨hx, hb, hml, hown, hlk, hK, hA1, hA2, hss, -, hold, hz, -⟩ := B
  intro H locs cells slots lsA h1 h2 h3 h4 h5 h6
  obtain ⟨L, f, i1, hP, hD, hD0⟩ := Okh_ope h1 h2
  have hcy : s.vm.findClass (FieldType.array .int).toString = some (cy 0) := (hK.2 0 _ rfl).2
  refine va_mna (X := []) (z := (4, .inl (fun _ => 0))) (N' := 8) (K' := 4) hx hb hown hcl hov harr hcy hK hP hD h3 hA1 (by decide) (by decide) (by decide) (by decide) (by decide) (by decide) (by decide) rfl rfl (by omega) (by omega) (fun c9 => ?_) hdg (fun q rr cA H1 hinj hnL hK1 hP1 hD1 hS1 => ?_)
  · show ({ cls := c9, slots := Array.replicate 4 _, vm := .none } : Cell) = _
    rw [arrV_new]
    rfl
  · have hcA : cA = cy 4 := arr_cls hK 4 rfl (fun C z => by cases z) (hK1.2 5 _ rfl).2
    subst hcA
    have e0 : ∀ (en : va_E) (L' : List Nat) (g : Nat → va_E), q ∉ L' → (([] : va_W) ++ [(q, en)]) ++ va_pl L' g = va_pl (q :: L') (va_up g q en) := by
      intro en L' g hq
      unfold va_pl
      rw [List.map_cons]
      simp only [List.nil_append, List.cons_append]
      congr 1
      · simp [va_up]
      · apply List.map_congr_left
        intro a ha
        have : a ≠ q := fun z => hq (z ▸ ha)
        simp [va_up, this]
    have hq : q ∉ L ++ (List.range 8).map rr := by
      intro hm
      obtain ⟨k0, hk0⟩ := pl_at (f := vr_up f ((List.range 8).map rr) (.inl (cy 0, (4, .inl (fun _ => 0))))) hm
      have e1 := hD1.1 0 (k0 + 1) _ _ (show _ = some (q, _) from rfl) (show _ = some (q, _) from hk0) rfl
      omega
    have e1 := e0 (.inl (cy 4, 8, .inr (.inr (.inr (.inr (fun i => if i < 8 then some (rr i) else none)))))) _ (vr_up f ((List.range 8).map rr) (.inl (cy 0, (4, .inl (fun _ => 0))))) hq
    rw [e1] at hP1 hD1
    have hL : ∀ a, σ a ≠ none → a ∈ L := fun a ha => by
      cases hv : σ a with
      | none => exact absurd hv ha
      | some w => exact ((i1 _ _).mp hv).1
    have hin : ∀ a, a ∈ q :: (L ++ (List.range 8).map rr) → A a := fun a ha => by
      obtain ⟨k0, hk0⟩ := pl_at (f := va_up (vr_up f ((List.range 8).map rr) (.inl (cy 0, (4, .inl (fun _ => 0))))) q (.inl (cy 4, 8, .inr (.inr (.inr (.inr (fun i => if i < 8 then some (rr i) else none))))))) ha
      exact hD1.2 k0 _ hk0
    have hmr : ∀ i, i < 8 → rr i ∈ (List.range 8).map rr := fun i hi => List.mem_map.mpr ⟨i, List.mem_range.mpr hi, rfl⟩
    have hno : ∀ a, a ∉ L → σ a = none := fun a ha => by
      cases hv : σ a with
      | none => rfl
      | some w => exact absurd ((i1 _ _).mp hv).1 ha
    have hqz : q ≠ O.1 := by have := hA2 q (hin q List.mem_cons_self); omega
    refine h q rr (hno q (fun z => hq (List.mem_append_left _ z))) hqz (fun i hi => ⟨hno _ (hnL i hi), ?_, ?_⟩) hinj H1 locs (cells + 1 + 8) (slots + 8 + 8 * 4) lsA ⟨q :: (L ++ (List.range 8).map rr), _, ?_, hP1, hD1.weaken (fun _ q _ h => hA2 q.1 h)⟩ ?_ hS1 (by omega) (by omega) h6
    · have := hA2 _ (hin (rr i) (List.mem_cons_of_mem _ (List.mem_append_right _ (hmr i hi))))
      omega
    · intro z
      exact hq (z ▸ List.mem_append_right _ (hmr i hi))
    · intro b en
      by_cases hbq : b = q
      · subst hbq; simp [va_up]
      · by_cases hbr : b ∈ (List.range 8).map rr
        · simp only [if_neg hbq, if_pos hbr, va_up, vr_up, List.mem_cons, List.mem_append]
          simp [hbq, hbr]
        · simp only [if_neg hbq, if_neg hbr, va_up, vr_up]
          rw [i1 b en]
          simp [hbq, hbr]
    · intro b hb9
      by_cases hbq : b = q
      · subst hbq; exact hin b List.mem_cons_self
      · by_cases hbr : b ∈ (List.range 8).map rr
        · exact hin b (List.mem_cons_of_mem _ (List.mem_append_right _ hbr))
        · simp only [if_neg hbq, if_neg hbr] at hb9
          exact h2 b hb9
set_option maxHeartbeats 4000000 in
theorem step_sound {Q : State → Prop} (B : Bd p s m meth c s0 D cy O A nL own cc) (hQ : Q = vx_MQ below (QcF s0 D A K) (XcF s0 D A KX) args s R.cells R.slots A) (hX : XOk p l e R s m args below meth c s0 D A nL cc KX thr exc Q) (hC : CLok s args meth own A CL ob)
    (hret : meth.sig.returnType = ret) (hinv : ∀ kd j g, inv kd j = some g → InvOK p l e R s m args below meth c s0 D A nL cc Q (insOf kd j) g)
    {k : Jt} (hk : ∀ pc ls st σ rc rs, k pc ls st σ rc rs → JJ p l e R s m args below meth c s0 D A nL Q pc ls st σ rc rs) {i : Instr} {len pc : Nat} {ls : List (Option Value)} {st : List Value} {σ : Hp} {rc rs : Nat}
    (hdg : decode cc pc = .ok (i, len)) (hlen : okLen i len = true) (h : stepI CL cy O ob inv thr exc ret K KX k i pc ls st σ rc rs) : JJ p l e R s m args below meth c s0 D A nL Q pc ls st σ rc rs := by
  have hx := B.1
  have hb := B.2.1
  cases i with
  | iconst n =>
    cases len_of (n := 1) hlen rfl
    exact r_go (hk _ _ _ _ _ _ h) (fun H locs cells slots lsA kk => lv_iconst hx hb hdg rfl kk)
  | bipush n =>
    cases len_of (n := 2) hlen rfl
    exact r_go (hk _ _ _ _ _ _ h) (fun H locs cells slots lsA kk => lv_bipush hx hb hdg rfl kk)
  | sipush n =>
    cases len_of (n := 3) hlen rfl
    exact r_go (hk _ _ _ _ _ _ h) (fun H locs cells slots lsA kk => lv_sipush hx hb hdg rfl kk)
  | lconst n =>
    cases len_of (n := 1) hlen rfl
    exact r_go (hk _ _ _ _ _ _ h) (fun H locs cells slots lsA kk => lv_lconst hx hb hdg rfl kk)
  | aconst_null =>
    cases len_of (n := 1) hlen rfl
    exact r_go (hk _ _ _ _ _ _ h) (fun H locs cells slots lsA kk => lv_null hx hb hdg kk)
  | iload_n j =>
    cases len_of (n := 1) hlen rfl
    dsimp only [stepI, ldI] at h
    split at h
    · rename_i hv
      intro H locs cells slots lsA h1 h2 h3 h4 h5 h6
      exact lv_iload_n hx hb hdg rfl (lh_at h6 hv) (hk _ _ _ _ _ _ h H locs cells slots lsA h1 h2 h3 h4 h5 h6)
    · exact h.elim
  | iload j =>
    cases len_of (n := 2) hlen rfl
    dsimp only [stepI, ldI] at h
    split at h
    · rename_i hv
      intro H locs cells slots lsA h1 h2 h3 h4 h5 h6
      exact lv_iload hx hb hdg (lh_at h6 hv) (hk _ _ _ _ _ _ h H locs cells slots lsA h1 h2 h3 h4 h5 h6)
    · exact h.elim
  | aload_n j =>
    cases len_of (n := 1) hlen rfl
    dsimp only [stepI, ldA] at h
    split at h
    · rename_i hv
      intro H locs cells slots lsA h1 h2 h3 h4 h5 h6
      exact lv_aload_n hx hb hdg rfl (lh_at h6 hv) (hk _ _ _ _ _ _ h H locs cells slots lsA h1 h2 h3 h4 h5 h6)
    · rename_i hv
      intro H locs cells slots lsA h1 h2 h3 h4 h5 h6
      exact lv_aload_nN hx hb hdg rfl (lh_at h6 hv) (hk _ _ _ _ _ _ h H locs cells slots lsA h1 h2 h3 h4 h5 h6)
    · exact h.elim
  | aload j =>
    cases len_of (n := 2) hlen rfl
    dsimp only [stepI, ldA] at h
    split at h
    · rename_i hv
      intro H locs cells slots lsA h1 h2 h3 h4 h5 h6
      exact lv_aload hx hb hdg (lh_at h6 hv) (hk _ _ _ _ _ _ h H locs cells slots lsA h1 h2 h3 h4 h5 h6)
    · rename_i hv
      intro H locs cells slots lsA h1 h2 h3 h4 h5 h6
      exact lv_aloadN hx hb hdg (lh_at h6 hv) (hk _ _ _ _ _ _ h H locs cells slots lsA h1 h2 h3 h4 h5 h6)
    · exact h.elim
  | istore_n j =>
    cases len_of (n := 1) hlen rfl
    dsimp only [stepI, stI] at h
    split at h
    · exact r_sti h.1 (hk _ _ _ _ _ _ h.2) (fun H locs cells slots lsA lv lv' g1 g2 g3 kk => lv_istore_n hx hb hdg rfl g1 g2 g3 kk)
    · exact h.elim
  | istore j =>
    cases len_of (n := 2) hlen rfl
    dsimp only [stepI, stI] at h
    split at h
    · exact r_sti h.1 (hk _ _ _ _ _ _ h.2) (fun H locs cells slots lsA lv lv' g1 g2 g3 kk => lv_istore hx hb hdg g1 g2 g3 kk)
    · exact h.elim
  | astore_n j =>
    cases len_of (n := 1) hlen rfl
    dsimp only [stepI, stA] at h
    split at h
    · exact r_sta h.1 (hk _ _ _ _ _ _ h.2) (fun H locs cells slots lsA lv lv' g1 g2 g3 kk => lv_astore_n hx hb hdg rfl g1 g2 g3 kk)
    · exact r_stn h.1 (hk _ _ _ _ _ _ h.2) (fun H locs cells slots lsA lv lv' g1 g2 g3 kk => lv_astore_nN hx hb hdg rfl g1 g2 g3 kk)
    · exact h.elim
  | astore j =>
    cases len_of (n := 2) hlen rfl
    dsimp only [stepI, stA] at h
    split at h
    · exact r_sta h.1 (hk _ _ _ _ _ _ h.2) (fun H locs cells slots lsA lv lv' g1 g2 g3 kk => lv_astore hx hb hdg g1 g2 g3 kk)
    · exact r_stn h.1 (hk _ _ _ _ _ _ h.2) (fun H locs cells slots lsA lv lv' g1 g2 g3 kk => lv_astoreN hx hb hdg g1 g2 g3 kk)
    · exact h.elim
  | iinc j n =>
    cases len_of (n := 3) hlen rfl
    dsimp only [stepI] at h
    split at h
    · rename_i hv
      exact r_inc B hv hdg (hk _ _ _ _ _ _ h)
    · exact h.elim
  | iadd =>
    cases len_of (n := 1) hlen rfl
    dsimp only [stepI, bin] at h
    split at h
    · exact r_go (hk _ _ _ _ _ _ h) (fun H locs cells slots lsA kk => lv_iadd hx hb hdg kk)
    · exact h.elim
  | isub =>
    cases len_of (n := 1) hlen rfl
    dsimp only [stepI, bin] at h
    split at h
    · exact r_go (hk _ _ _ _ _ _ h) (fun H locs cells slots lsA kk => lv_isub hx hb hdg kk)
    · exact h.elim
  | imul =>
    cases len_of (n := 1) hlen rfl
    dsimp only [stepI, bin] at h
    split at h
    · exact r_go (hk _ _ _ _ _ _ h) (fun H locs cells slots lsA kk => lv_imul hx hb hdg kk)
    · exact h.elim
  | iand =>
    cases len_of (n := 1) hlen rfl
    dsimp only [stepI, bin] at h
    split at h
    · exact r_go (hk _ _ _ _ _ _ h) (fun H locs cells slots lsA kk => lv_iand hx hb hdg kk)
    · exact h.elim
  | ior =>
    cases len_of (n := 1) hlen rfl
    dsimp only [stepI, bin] at h
    split at h
    · exact r_go (hk _ _ _ _ _ _ h) (fun H locs cells slots lsA kk => lv_ior hx hb hdg kk)
    · exact h.elim
  | ishl =>
    cases len_of (n := 1) hlen rfl
    dsimp only [stepI, bin] at h
    split at h
    · exact r_go (hk _ _ _ _ _ _ h) (fun H locs cells slots lsA kk => lv_ishl hx hb hdg kk)
    · exact h.elim
  | ishr =>
    cases len_of (n := 1) hlen rfl
    dsimp only [stepI, bin] at h
    split at h
    · exact r_go (hk _ _ _ _ _ _ h) (fun H locs cells slots lsA kk => lv_ishr hx hb hdg kk)
    · exact h.elim
  | iushr =>
    cases len_of (n := 1) hlen rfl
    dsimp only [stepI, bin] at h
    split at h
    · exact r_go (hk _ _ _ _ _ _ h) (fun H locs cells slots lsA kk => lv_iushr hx hb hdg rfl kk)
    · exact h.elim
  | idiv =>
    cases len_of (n := 1) hlen rfl
    dsimp only [stepI] at h
    split at h
    · exact r_go (hk _ _ _ _ _ _ h.2) (fun H locs cells slots lsA kk => lv_idiv hx hb hdg h.1 kk)
    · exact h.elim
  | irem =>
    cases len_of (n := 1) hlen rfl
    dsimp only [stepI] at h
    split at h
    · exact r_go (hk _ _ _ _ _ _ h.2) (fun H locs cells slots lsA kk => lv_irem hx hb hdg h.1 kk)
    · exact h.elim
  | i2b =>
    cases len_of (n := 1) hlen rfl
    dsimp only [stepI] at h
    split at h
    · exact r_go (hk _ _ _ _ _ _ h) (fun H locs cells slots lsA kk => lv_i2b hx hb hdg rfl kk)
    · exact h.elim
  | i2c =>
    cases len_of (n := 1) hlen rfl
    dsimp only [stepI] at h
    split at h
    · exact r_go (hk _ _ _ _ _ _ h) (fun H locs cells slots lsA kk => lv_i2c hx hb hdg rfl kk)
    · exact h.elim
  | i2l =>
    cases len_of (n := 1) hlen rfl
    dsimp only [stepI] at h
    split at h
    · exact r_go (hk _ _ _ _ _ _ h) (fun H locs cells slots lsA kk => lv_i2l hx hb hdg rfl kk)
    · exact h.elim
  | lcmp =>
    cases len_of (n := 1) hlen rfl
    dsimp only [stepI] at h
    split at h
    · exact r_go (hk _ _ _ _ _ _ h) (fun H locs cells slots lsA kk => W.lcmp hx hb hdg kk)
    · exact h.elim
  | dup =>
    cases len_of (n := 1) hlen rfl
    dsimp only [stepI] at h
    split at h
    · exact r_go (hk _ _ _ _ _ _ h.2) (fun H locs cells slots lsA kk => lv_dup hx hb hdg h.1 kk)
    · exact h.elim
  | pop =>
    cases len_of (n := 1) hlen rfl
    dsimp only [stepI] at h
    split at h
    · exact r_go (hk _ _ _ _ _ _ h.2) (fun H locs cells slots lsA kk => lv_pop hx hb hdg h.1 kk)
    · exact h.elim
  | dup_x1 =>
    cases len_of (n := 1) hlen rfl
    dsimp only [stepI] at h
    split at h
    · exact r_go (hk _ _ _ _ _ _ h.2.2) (fun H locs cells slots lsA kk => lv_dup_x1 hx hb hdg h.1 h.2.1 kk)
    · exact h.elim
  | dup2 =>
    cases len_of (n := 1) hlen rfl
    dsimp only [stepI] at h
    split at h
    · exact r_go (hk _ _ _ _ _ _ h.2.2) (fun H locs cells slots lsA kk => lv_dup2_11 hx hb hdg h.1 h.2.1 kk)
    · exact h.elim
  | goto o =>
    cases len_of (n := 3) hlen rfl
    obtain ⟨ht, hj⟩ := r_goTo hk h
    exact r_go hj (fun H locs cells slots lsA kk => lv_goto hx hb hdg ht kk)
  | ifCond cnd o =>
    cases cnd with
    | eq =>
      cases len_of (n := 3) hlen rfl
      dsimp only [stepI, cmp1, ifC] at h
      split at h
      · exact r_if (fun q => hk _ _ _ _ _ _ (h.2.1 q)) (fun q => hk _ _ _ _ _ _ (h.2.2 q)) (fun H locs cells slots lsA k1 k2 => lv_if_eq hx hb hdg (tgt_ok h.1) k1 k2)
      · exact h.elim
    | ne =>
      cases len_of (n := 3) hlen rfl
      dsimp only [stepI, cmp1, ifC] at h
      split at h
      · exact r_if (fun q => hk _ _ _ _ _ _ (h.2.1 q)) (fun q => hk _ _ _ _ _ _ (h.2.2 q)) (fun H locs cells slots lsA k1 k2 => lv_if_ne hx hb hdg (tgt_ok h.1) k1 (fun q => k2 (fun w => w q)))
      · exact h.elim
    | lt =>
      cases len_of (n := 3) hlen rfl
      dsimp only [stepI, cmp1, ifC] at h
      split at h
      · exact r_if (fun q => hk _ _ _ _ _ _ (h.2.1 q)) (fun q => hk _ _ _ _ _ _ (h.2.2 q)) (fun H locs cells slots lsA k1 k2 => lv_if_lt hx hb hdg (tgt_ok h.1) k1 k2)
      · exact h.elim
    | ge =>
      cases len_of (n := 3) hlen rfl
      dsimp only [stepI, cmp1, ifC] at h
      split at h
      · exact r_if (fun q => hk _ _ _ _ _ _ (h.2.1 q)) (fun q => hk _ _ _ _ _ _ (h.2.2 q)) (fun H locs cells slots lsA k1 k2 => lv_if_ge hx hb hdg (tgt_ok h.1) k1 k2)
      · exact h.elim
    | gt =>
      cases len_of (n := 3) hlen rfl
      dsimp only [stepI, cmp1, ifC] at h
      split at h
      · exact r_if (fun q => hk _ _ _ _ _ _ (h.2.1 q)) (fun q => hk _ _ _ _ _ _ (h.2.2 q)) (fun H locs cells slots lsA k1 k2 => lv_if_gt hx hb hdg (tgt_ok h.1) k1 k2)
      · exact h.elim
    | le =>
      cases len_of (n := 3) hlen rfl
      dsimp only [stepI, cmp1, ifC] at h
      split at h
      · exact r_if (fun q => hk _ _ _ _ _ _ (h.2.1 q)) (fun q => hk _ _ _ _ _ _ (h.2.2 q)) (fun H locs cells slots lsA k1 k2 => lv_if_le hx hb hdg (tgt_ok h.1) k1 k2)
      · exact h.elim
  | if_icmp cnd o =>
    cases cnd with
    | eq =>
      cases len_of (n := 3) hlen rfl
      dsimp only [stepI, cmp2, ifC] at h
      split at h
      · exact r_if (fun q => hk _ _ _ _ _ _ (h.2.1 q)) (fun q => hk _ _ _ _ _ _ (h.2.2 q)) (fun H locs cells slots lsA k1 k2 => lv_icmp_eq hx hb hdg (tgt_ok h.1) k1 k2)
      · exact h.elim
    | ne =>
      cases len_of (n := 3) hlen rfl
      dsimp only [stepI, cmp2, ifC] at h
      split at h
      · exact r_if (fun q => hk _ _ _ _ _ _ (h.2.1 q)) (fun q => hk _ _ _ _ _ _ (h.2.2 q)) (fun H locs cells slots lsA k1 k2 => lv_icmp_ne hx hb hdg (tgt_ok h.1) k1 (fun q => k2 (fun w => w q)))
      · exact h.elim
    | lt =>
      cases len_of (n := 3) hlen rfl
      dsimp only [stepI, cmp2, ifC] at h
      split at h
      · exact r_if (fun q => hk _ _ _ _ _ _ (h.2.1 q)) (fun q => hk _ _ _ _ _ _ (h.2.2 q)) (fun H locs cells slots lsA k1 k2 => lv_icmp_lt hx hb hdg (tgt_ok h.1) k1 k2)
      · exact h.elim
    | ge =>
      cases len_of (n := 3) hlen rfl
      dsimp only [stepI, cmp2, ifC] at h
      split at h
      · exact r_if (fun q => hk _ _ _ _ _ _ (h.2.1 q)) (fun q => hk _ _ _ _ _ _ (h.2.2 q)) (fun H locs cells slots lsA k1 k2 => lv_icmp_ge hx hb hdg (tgt_ok h.1) k1 k2)
      · exact h.elim
    | gt =>
      cases len_of (n := 3) hlen rfl
      dsimp only [stepI, cmp2, ifC] at h
      split at h
      · exact r_if (fun q => hk _ _ _ _ _ _ (h.2.1 q)) (fun q => hk _ _ _ _ _ _ (h.2.2 q)) (fun H locs cells slots lsA k1 k2 => lv_icmp_gt hx hb hdg (tgt_ok h.1) k1 k2)
      · exact h.elim
    | le =>
      cases len_of (n := 3) hlen rfl
      dsimp only [stepI, cmp2, ifC] at h
      split at h
      · exact r_if (fun q => hk _ _ _ _ _ _ (h.2.1 q)) (fun q => hk _ _ _ _ _ _ (h.2.2 q)) (fun H locs cells slots lsA k1 k2 => lv_icmp_le hx hb hdg (tgt_ok h.1) k1 k2)
      · exact h.elim
  | ifnull o =>
    cases len_of (n := 3) hlen rfl
    dsimp only [stepI] at h
    split at h
    · exact r_go (hk _ _ _ _ _ _ h) (fun H locs cells slots lsA kk => lv_ifnull hx hb hdg kk)
    · obtain ⟨ht, hj⟩ := r_goTo hk h
      exact r_go hj (fun H locs cells slots lsA kk => lv_ifnullN hx hb hdg ht kk)
    · exact h.elim
  | ifnonnull o =>
    cases len_of (n := 3) hlen rfl
    dsimp only [stepI] at h
    split at h
    · obtain ⟨ht, hj⟩ := r_goTo hk h
      exact r_go hj (fun H locs cells slots lsA kk => lv_ifnonnull hx hb hdg ht kk)
    · exact r_go (hk _ _ _ _ _ _ h) (fun H locs cells slots lsA kk => lv_ifnonnullN hx hb hdg kk)
    · exact h.elim
  | if_acmp cnd o =>
    cases cnd with
    | eq =>
      cases len_of (n := 3) hlen rfl
      dsimp only [stepI, acmp, ifC] at h
      split at h
      · rename_i bb aa rr
        refine r_if (C := aa = bb) (fun q => hk _ _ _ _ _ _ (h.2.1 q)) (fun q => hk _ _ _ _ _ _ (h.2.2 q)) (fun H locs cells slots lsA k1 k2 => ?_)
        exact lv_acmp_eq (rx := some aa) (ry := some bb) hx hb hdg (tgt_ok h.1) (fun q => k1 (by simpa using q)) (fun q => k2 (by simpa using q))
      · exact h.elim
    | ne =>
      cases len_of (n := 3) hlen rfl
      dsimp only [stepI, acmp, ifC] at h
      split at h
      · rename_i bb aa rr
        refine r_if (C := ¬ aa = bb) (fun q => hk _ _ _ _ _ _ (h.2.1 q)) (fun q => hk _ _ _ _ _ _ (h.2.2 q)) (fun H locs cells slots lsA k1 k2 => ?_)
        exact lv_acmp_ne (rx := some aa) (ry := some bb) hx hb hdg (tgt_ok h.1) (fun q => k1 (by simpa using q)) (fun q => k2 (by simpa using q))
      · exact h.elim
  | getfield j =>
    cases len_of (n := 3) hlen rfl
    dsimp only [stepI, getF] at h
    split at h
    · rename_i ci jj ty w a r he
      split at h
      · rename_i cn fs hσ
        obtain ⟨hc1, h⟩ := h
        subst hc1
        split at h
        · rename_i v hv
          exact r_get B (hC.1 _ _ _ _ _ he).1 hσ hv hdg (hk _ _ _ _ _ _ h)
        · exact h.elim
      · exact h.elim
    · rename_i a r he
      split at h
      · rename_i v hv
        obtain ⟨o, n, d, ref, h8, h9, h10⟩ := hC.2.2.2.2.2.1 _ _ _ hv
        intro H locs cells slots lsA h1 h2 h3 h4 h5 h6
        exact vk_getf hx hb h8 h3 B.2.2.2.1 h9 h10 hdg (hk _ _ _ _ _ _ h H locs cells slots lsA h1 h2 h3 h4 h5 h6)
      · exact h.elim
    · exact h.elim
  | putfield j =>
    cases len_of (n := 3) hlen rfl
    dsimp only [stepI, putF] at h
    split at h
    · rename_i ci jj ty v a r he
      split at h
      · rename_i cn fs hσ
        obtain ⟨hc1, h7, h8, h⟩ := h
        subst hc1
        exact r_put B ((hC.1 _ _ _ _ _ he).2 rfl) hσ h7 h8 hdg (hk _ _ _ _ _ _ h)
      · exact h.elim
    · exact h.elim
  | arraylength =>
    cases len_of (n := 1) hlen rfl
    dsimp only [stepI, alen] at h
    split at h
    · rename_i a r
      split at h
      · rename_i hz
        subst hz
        exact r_alenz B hdg (hk _ _ _ _ _ _ h)
      · split at h
        · rename_i cA x hσ
          exact r_alen B hσ h.1 hdg (hk _ _ _ _ _ _ h.2)
        · split at h
          · rename_i n f ho
            obtain ⟨-, -, -, -, -, -, -, -, -, -, -, -, -, hO⟩ := B
            intro H locs cells slots lsA h1 h2 h3 h4 h5 h6
            exact va_tlen hx hb (hO _ _ _ ho) h3 rfl hdg (hk _ _ _ _ _ _ h H locs cells slots lsA h1 h2 h3 h4 h5 h6)
          · exact h.elim
        · exact h.elim
    · exact h.elim
  | iaload =>
    cases len_of (n := 1) hlen rfl
    dsimp only [stepI, ald] at h
    split at h
    · split at h
      · rename_i cn n f hσ
        obtain ⟨rfl, h7, h⟩ := h
        exact r_iald B hσ h7 hdg (hk _ _ _ _ _ _ h)
      · exact h.elim
    · exact h.elim
  | baload =>
    cases len_of (n := 1) hlen rfl
    dsimp only [stepI, bald] at h
    split at h
    · split at h
      · rename_i cn n f hσ
        obtain ⟨rfl, h7, h⟩ := h
        exact r_bald B hσ h7 hdg (hk _ _ _ _ _ _ h)
      · split at h
        · rename_i n f ho
          obtain ⟨-, -, -, -, -, -, -, -, -, -, -, -, -, hO⟩ := B
          intro H locs cells slots lsA h1 h2 h3 h4 h5 h6
          exact va_tb hx hb (hO _ _ _ ho) h3 h.1 rfl hdg (hk _ _ _ _ _ _ h.2 H locs cells slots lsA h1 h2 h3 h4 h5 h6)
        · exact h.elim
      · exact h.elim
    · exact h.elim
  | laload =>
    cases len_of (n := 1) hlen rfl
    dsimp only [stepI, lald] at h
    split at h
    · split at h
      · rename_i cn n f hσ
        obtain ⟨rfl, h7, h⟩ := h
        exact r_lald B hσ h7 hdg (hk _ _ _ _ _ _ h)
      · exact h.elim
    · exact h.elim
  | aaload =>
    cases len_of (n := 1) hlen rfl
    dsimp only [stepI, rald] at h
    split at h
    · split at h
      · rename_i cn n f hσ
        exact r_rald B hσ h.1 h.2.1 hdg (hk _ _ _ _ _ _ h.2.2)
      · exact h.elim
    · exact h.elim
  | iastore =>
    cases len_of (n := 1) hlen rfl
    dsimp only [stepI, ast] at h
    split at h
    · split at h
      · rename_i cn n f hσ
        obtain ⟨rfl, h7, h⟩ := h
        exact r_set B hσ (hk _ _ _ _ _ _ h) (fun H locs cells slots lsA L f k0 hP hD hS hk0 i1 kk => va_iast hx hb B.2.2.2.2.2.1 hP hD hS k0 0 hk0 rfl h7 hdg kk)
      · exact h.elim
    · exact h.elim
  | bastore =>
    cases len_of (n := 1) hlen rfl
    dsimp only [stepI, ast] at h
    split at h
    · split at h
      · rename_i cn n f hσ
        obtain ⟨rfl, h7, h⟩ := h
        exact r_set B hσ (hk _ _ _ _ _ _ h) (fun H locs cells slots lsA L f k0 hP hD hS hk0 i1 kk => va_bast hx hb B.2.2.2.2.2.1 hP hD hS k0 1 hk0 rfl h7 hdg kk)
      · exact h.elim
    · exact h.elim
  | lastore =>
    cases len_of (n := 1) hlen rfl
    dsimp only [stepI, last] at h
    split at h
    · split at h
      · rename_i cn n f hσ
        obtain ⟨rfl, h7, h⟩ := h
        exact r_set B hσ (hk _ _ _ _ _ _ h) (fun H locs cells slots lsA L f k0 hP hD hS hk0 i1 kk => va_last hx hb B.2.2.2.2.2.1 hP hD hS k0 2 hk0 rfl h7 hdg kk)
      · exact h.elim
    · exact h.elim
  | aastore =>
    cases len_of (n := 1) hlen rfl
    dsimp only [stepI, rast] at h
    split at h
    · rename_i v i a r
      split at h
      · rename_i cn n f hσ
        obtain ⟨rfl, h7, h8, h⟩ := h
        split at h8
        · rename_i ci vs hv
          obtain ⟨C, T, N, hc, hca⟩ := hC.2.2.2.2.2.2.2.2.1 ci h8
          refine r_set B hσ (hk _ _ _ _ _ _ h) (fun H locs cells slots lsA L f k0 hP hD hS hk0 i1 kk => ?_)
          obtain ⟨hvL, hvf⟩ := (i1 _ _).mp hv
          obtain ⟨k1, hk1⟩ := pl_at (f := f) hvL
          rw [hvf] at hk1
          exact va_astqO hx hb B.2.2.2.2.2.1 hP hD hS k0 3 k1 ci hk0 rfl hca hk1 hc h7 hdg kk
        · exact h8.elim
      · exact h.elim
    · exact h.elim
  | anewarray j =>
    cases len_of (n := 3) hlen rfl
    dsimp only [stepI, nwR] at h
    obtain ⟨hj, h⟩ := h
    split at h
    · rename_i n r
      obtain ⟨g1, g2, g3, g4, h⟩ := h
      refine r_new B g3 g4 (fun q a b => hk _ _ _ _ _ _ (h q a b)) (fun H locs cells slots lsA L f hP hD hS hc hs kk => ?_)
      refine va_newq hx hb B.2.2.2.1 (hC.2.2.2.2.2.2.1 j hj) hC.2.2.2.2.2.2.2.2.2.2.2.2.1 B.2.2.2.2.2.1 hP hD hS B.2.2.2.2.2.2.1 g1 rfl (by omega) hc hs hdg (fun q cA H1 hK1 hP1 hD1 hS1 => ?_)
      have hcA : cA = cy 3 := by
        obtain ⟨kA, comp, -, -, -, w1⟩ := (hK1.2 5 _ rfl).2
        obtain ⟨kA2, comp2, -, -, -, w2⟩ := (hK1.2 3 _ rfl).2
        exact Option.some.inj (w1.symm.trans w2)
      subst hcA
      exact kk q H1 hP1 hD1 hS1
    · exact h.elim
  | newarray at9 =>
    cases at9 with
    | int =>
      cases len_of (n := 2) hlen rfl
      dsimp only [stepI, nwA] at h
      split at h
      · rename_i n r
        obtain ⟨g1, g2, g3, g4, h⟩ := h
        exact r_newa B (at9 := .int) (ty := .int) 0 rfl rfl (fun C z => by cases z) hC.2.2.2.2.2.2.2.2.2.1 (fun c => rfl) (Nat.le_trans (Nat.mul_le_mul_left _ (show componentBytes .int ≤ 8 by decide)) (by omega)) g1 g3 g4 (fun q a b => hk _ _ _ _ _ _ (h q a b)) hdg
      · exact h.elim
    | byte =>
      cases len_of (n := 2) hlen rfl
      dsimp only [stepI, nwA] at h
      split at h
      · rename_i n r
        obtain ⟨g1, g2, g3, g4, h⟩ := h
        exact r_newa B (at9 := .byte) (ty := .byte) 1 rfl rfl (fun C z => by cases z) hC.2.2.2.2.2.2.2.2.2.2.1 (fun c => rfl) (Nat.le_trans (Nat.mul_le_mul_left _ (show componentBytes .byte ≤ 8 by decide)) (by omega)) g1 g3 g4 (fun q a b => hk _ _ _ _ _ _ (h q a b)) hdg
      · exact h.elim
    | long =>
      cases len_of (n := 2) hlen rfl
      dsimp only [stepI, nwA] at h
      split at h
      · rename_i n r
        obtain ⟨g1, g2, g3, g4, h⟩ := h
        exact r_newa B (at9 := .long) (ty := .long) 2 rfl rfl (fun C z => by cases z) hC.2.2.2.2.2.2.2.2.2.2.2.1 (fun c => rfl) (Nat.le_trans (Nat.mul_le_mul_left _ (show componentBytes .long ≤ 8 by decide)) (by omega)) g1 g3 g4 (fun q a b => hk _ _ _ _ _ _ (h q a b)) hdg
      · exact h.elim
    | _ => exact h.elim
  | new j =>
    have hl3 := len_of (n := 3) hlen rfl
    subst hl3
    dsimp only [stepI] at h
    split at h
    · rename_i E hE
      obtain ⟨g1, g2, g3, g4⟩ := h
      intro H locs cells slots lsA h1 h2 h3 h4 h5 h6
      exact hX.1 pc E hE j 3 hdg σ H locs cells slots lsA st g4 h1 h2 h3 (by omega) (by omega) h6.2.1.1 g3
    · unfold nwO at h
      split at h
      · rename_i ci fs he
        obtain ⟨g1, g2, h⟩ := h
        obtain ⟨C, T, N, ty0, w1, w2, w3, w4, w5, w6, w7, w8⟩ := hC.2.1 _ _ _ he
        subst w2
        refine r_new B g1 g2 (fun q a b => hk _ _ _ _ _ _ (h q a b)) (fun H locs cells slots lsA L f hP hD hS hc hs kk => ?_)
        exact va_new hx hb w3 (fun _ h => h) ty0 w4 B.2.2.2.1 w5 w6 w7 B.2.2.2.2.2.1 hP hD hS B.2.2.2.2.2.2.1 w1 w8 hc hs hdg (fun q H1 hP1 hD1 hS1 => kk q H1 hP1 hD1 hS1)
      · exact h.elim
  | ldc j =>
    cases len_of (n := 2) hlen rfl
    dsimp only [stepI] at h
    split at h
    · rename_i v hv
      rcases hC.2.2.1 _ _ hv with ⟨tx, q, rfl, hR⟩ | ⟨C, mi, rfl, hl1, hM⟩ | ⟨x, rfl, hc1⟩
      · exact r_go (hk _ _ _ _ _ _ h) (fun H locs cells slots lsA kk => va_ldcS hx hb B.2.2.2.1 hR hdg kk)
      · exact r_go (hk _ _ _ _ _ _ h) (fun H locs cells slots lsA kk => va_ldcM hx hb B.2.2.2.1 hl1 hM hdg kk)
      · exact r_go (hk _ _ _ _ _ _ h) (fun H locs cells slots lsA kk => lv_ldc hx hb B.2.2.2.1 hc1 hdg kk)
    · exact h.elim
  | getstatic j =>
    cases len_of (n := 3) hlen rfl
    dsimp only [stepI] at h
    split at h
    · rename_i v hv
      obtain ⟨C, n, d, ref, w1, w2, w3⟩ := hC.2.2.2.1 _ _ hv
      intro H locs cells slots lsA h1 h2 h3 h4 h5 h6
      exact va_gets hx hb w1 h3 B.2.2.2.1 w2 w3 hdg (hk _ _ _ _ _ _ h H locs cells slots lsA h1 h2 h3 h4 h5 h6)
    · exact h.elim
  | checkcast j =>
    cases len_of (n := 3) hlen rfl
    dsimp only [stepI] at h
    split at h
    · split at h
      · rename_i a r ci fs hσ
        obtain ⟨C, T, N, w1, w2⟩ := hC.2.2.2.2.1 _ _ h.1
        intro H locs cells slots lsA h1 h2 h3 h4 h5 h6
        obtain ⟨L, f, i1, hP, hD, hD0⟩ := Okh_ope h1 h2
        obtain ⟨ha, he⟩ := (i1 _ _).mp hσ
        obtain ⟨k0, hk0⟩ := pl_at (f := f) ha
        rw [he] at hk0
        exact va_castS hx hb B.2.2.2.1 w2 (B.2.2.2.2.2.1.1 _ _ w1).2 (va_recv B.2.2.2.2.2.1 hP w1 hk0) hdg (hk _ _ _ _ _ _ h.2 H locs cells slots lsA h1 h2 h3 h4 h5 h6)
      · exact h.elim
    · exact h.elim
  | invokevirtual j =>
    cases len_of (n := 3) hlen rfl
    exact r_inv (kd := 0) (j := j) B hQ hX hk (fun g hg => hinv 0 j g hg) hdg h
  | invokestatic j =>
    cases len_of (n := 3) hlen rfl
    exact r_inv (kd := 1) (j := j) B hQ hX hk (fun g hg => hinv 1 j g hg) hdg h
  | invokespecial j =>
    cases len_of (n := 3) hlen rfl
    exact r_inv (kd := 2) (j := j) B hQ hX hk (fun g hg => hinv 2 j g hg) hdg h
  | tableswitch d lo hi offs =>
    dsimp only [stepI, swT] at h
    split at h
    · rename_i x r
      by_cases hr : x.toInt < lo ∨ hi < x.toInt
      · obtain ⟨ht, hj⟩ := r_goTo hk (h.1 hr)
        exact r_go hj (fun H locs cells slots lsA kk => lv_tableOut hx hb hdg hr ht kk)
      · have h7 : ¬ x.toInt < lo := fun z => hr (Or.inl z)
        have h8 : ¬ hi < x.toInt := fun z => hr (Or.inr z)
        have h9 := h.2 h7 h8
        split at h9
        · rename_i o ho
          obtain ⟨ht, hj⟩ := r_goTo hk h9
          exact r_go hj (fun H locs cells slots lsA kk => lv_tableIn hx hb hdg h7 h8 (by rw [nth_eq] at ho; rw [← Array.getElem?_toList]; exact ho) ht kk)
        · exact h9.elim
    · exact h.elim
  | lookupswitch d ps =>
    dsimp only [stepI] at h
    split at h
    · obtain ⟨ht, hj⟩ := r_goTo hk h.2
      exact r_go hj (fun H locs cells slots lsA kk => lv_lookup hx hb hdg h.1 rfl ht kk)
    · exact h.elim
  | multianewarray j dm =>
    match dm, hdg, hlen, h with
    | 2, hdg, hlen, h =>
      cases len_of (n := 4) hlen rfl
      dsimp only [stepI, nwM] at h
      obtain ⟨hj, h⟩ := h
      split at h
      · rename_i n kk r
        obtain ⟨rfl, rfl, g3, g4, h⟩ := h
        exact r_newm B (hC.2.2.2.2.2.2.2.1 j hj) hC.2.2.2.2.2.2.2.2.2.2.2.2.2 hC.2.2.2.2.2.2.2.2.2.1 g3 g4 (fun q rr a b cc9 d => hk _ _ _ _ _ _ (h q rr a b cc9 d)) hdg
      · exact h.elim
    | 0, hdg, hlen, h => exact h.elim
    | 1, hdg, hlen, h => exact h.elim
    | n + 3, hdg, hlen, h => exact h.elim
  | ireturn =>
    cases len_of (n := 1) hlen rfl
    dsimp only [stepI] at h
    split at h
    · rw [hQ]
      exact r_iret B hret h.1 h.2 hdg
    · exact h.elim
  | areturn =>
    cases len_of (n := 1) hlen rfl
    dsimp only [stepI] at h
    split at h
    · rw [hQ]
      exact r_aret B hret (Or.inl ⟨_, rfl⟩) (Or.inr ⟨_, rfl⟩) h hdg
    · rw [hQ]
      exact r_aret B hret (Or.inl ⟨_, rfl⟩) (Or.inl rfl) h hdg
    · rw [hQ]
      exact r_aret B hret (Or.inr ⟨_, rfl⟩) (Or.inr ⟨_, rfl⟩) h hdg
    · exact h.elim
  | return_ =>
    cases len_of (n := 1) hlen rfl
    dsimp only [stepI] at h
    split at h
    · rw [hQ]
      exact r_vret B hret h hdg
    · exact h.elim
  | _ => exact h.elim
theorem wp_sound {Q : State → Prop} {cut : Nat → Bool} (B : Bd p s m meth c s0 D cy O A nL own cc) (hQ : Q = vx_MQ below (QcF s0 D A K) (XcF s0 D A KX) args s R.cells R.slots A) (hX : XOk p l e R s m args below meth c s0 D A nL cc KX thr exc Q) (hC : CLok s args meth own A CL ob)
    (hret : meth.sig.returnType = ret) (hinv : ∀ kd j g, inv kd j = some g → InvOK p l e R s m args below meth c s0 D A nL cc Q (insOf kd j) g) :
    ∀ (n pc : Nat) (ls : List (Option Value)) (st : List Value) (σ : Hp) (rc rs : Nat), wp CL cy O ob cc inv thr exc ret K KX cut (JJ p l e R s m args below meth c s0 D A nL Q) n pc ls st σ rc rs → JJ p l e R s m args below meth c s0 D A nL Q pc ls st σ rc rs
  | 0, pc, ls, st, σ, rc, rs, h => h
  | n + 1, pc, ls, st, σ, rc, rs, h => by
    unfold wp at h
    split at h
    · exact h
    · split at h
      · rename_i i len hd
        exact step_sound B hQ hX hC hret hinv (wp_sound B hQ hX hC hret hinv n) hd h.1 h.2
      · exact h.elim
end STQ
