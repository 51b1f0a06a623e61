/-! ===== the law's reads of its script ===== -/
theorem inv1_go {g : Sg} {exc : String → Option (Option Nat)} {KX : String → Hp → Prop} {k : Jt} {pc : Nat} {ls : List (Option Value)} {st : List Value} {σ : Hp} {rc rs : Nat} : inv1 (some g) exc KX k pc ls st σ rc rs = (match popN g.1 st [] with
    | some (as, r) => rsum r ≤ 8 ∧ (g.2.1 as σ).1 ≤ rc ∧ (g.2.1 as σ).2 ≤ rs ∧ g.2.2 as σ (fun v σ' => k (pc + 3) ls (v.toList ++ r) σ' (rc - (g.2.1 as σ).1) (rs - (g.2.1 as σ).2))
        (fun E σ' => match exc E with
          | some (some h) => ∀ q : Nat, k h ls [.ref q] σ' (rc - (g.2.1 as σ).1) (rs - (g.2.1 as σ).2)
          | some none => KX E σ'
          | none => False)
    | none => False) := rfl
