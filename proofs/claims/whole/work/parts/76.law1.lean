/-! ===== the law's reads of its script ===== -/
theorem inv1_go {g : Sg} {exc : String → Option (Option Nat)} {KX : String → Hp → Prop} {k : Jt} {pc : Nat} {ls : List (Option Value)} {st : List Value} {σ : Hp} {rc rs : Nat} : inv1 (some g) exc KX k pc ls st σ rc rs = (match popN g.1 st [] with
    | some (as, r) => rsum r ≤ 8 ∧ (g.2.1 as σ).1 ≤ rc ∧ (g.2.1 as σ).2 ≤ rs ∧ g.2.2 as σ (fun v σ' => k (pc + 3) ls (v.toList ++ r) σ' (rc - (g.2.1 as σ).1) (rs - (g.2.1 as σ).2))
        (fun E σ' => match exc E with
          | some (some h) => ∀ q : Nat, k h ls [.ref q] σ' (rc - (g.2.1 as σ).1) (rs - (g.2.1 as σ).2)
          | some none => KX E σ'
          | none => False)
    | none => False) := rfl
/-- one read: aload_0, iload 4, iconst k, iadd, iaload -/
theorem rdS {CL : Cl} {cy : Nat → ClassId} {O : Old} {ob : Nat → Bool} {cc : ByteArray} {inv : Nat → Nat → Option Sg} {thr : Nat → Option String} {exc : String → Option (Option Nat)} {ret : Option FieldType} {K : Option Value → Hp → Prop} {KX : String → Hp → Prop} {J : Jt} {scr L : Nat} {xs : Nat → Int32}
    (hJ : ∀ cut n pc ls st σ rc rs, wpS CL cy O ob cc inv thr exc ret K KX cut J n pc ls st σ rc rs → J pc ls st σ rc rs)
    (hI : ∀ pc ls st σ rc rs i, decode cc pc = .ok (.iaload, 1) → i < L → J (pc + 1) ls (.int (xs i) :: st) σ rc rs → J pc ls (.int (nI i) :: .ref scr :: st) σ rc rs)
    {pc i : Nat} {v1 v2 v3 l5 l6 : Option Value} {st : List Value} {σ : Hp} {rc rs : Nat} (a : Int) (k : Nat) (d0 : decode cc pc = .ok (.aload_n 0, 1)) (d1 : decode cc (pc + 1) = .ok (.iload 4, 2)) (d3 : decode cc (pc + 3) = .ok (.iconst a, 1)) (d4 : decode cc (pc + 4) = .ok (.iadd, 1)) (d5 : decode cc (pc + 5) = .ok (.iaload, 1))
    (ha : Int32.ofInt a = nI k) (hk : i + k < L) (hs : ∀ i k, nI i + nI k = nI (i + k)) (h : J (pc + 6) [some (.ref scr), v1, v2, v3, some (.int (nI i)), l5, l6] (.int (xs (i + k)) :: st) σ rc rs) : J pc [some (.ref scr), v1, v2, v3, some (.int (nI i)), l5, l6] st σ rc rs := by
  have hc : ∀ q, q ≠ pc + 5 → (fun q => decide (q = pc + 5)) q = false := fun q hq => decide_eq_false hq
  refine wp_of_S hJ (fun q => decide (q = pc + 5)) 5 _ _ _ _ _ _ ?_
  rw [w_aload_n (i := 0) (pc' := pc + 1) (hc _ (by omega)) d0 rfl rfl]
  simp only [nth, ldA]
  rw [w_iload (i := 4) (pc' := pc + 3) (hc _ (by omega)) d1 rfl rfl]
  simp only [nth, ldI]
  rw [w_iconst (pc' := pc + 4) (hc _ (by omega)) d3 rfl ha, w_iadd (pc' := pc + 5) (hc _ (by omega)) d4 rfl, w_cut (decide_eq_true rfl), hs]
  exact hI _ _ _ _ _ _ _ d5 hk h
