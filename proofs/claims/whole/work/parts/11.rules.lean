/-! ===== the wp, instruction by instruction, as equations ===== -/
section WR
variable {CL : Cl} {cy : Nat → ClassId} {O : Old} {ob : Nat → Bool} {cc : ByteArray} {inv : Nat → Nat → Option Sg} {thr : Nat → Option String} {exc : String → Option (Option Nat)} {ret : Option FieldType} {K : Option Value → Hp → Prop} {KX : String → Hp → Prop} {cut : Nat → Bool} {J : Jt}
variable {n pc pc' : Nat} {ls : List (Option Value)} {st : List Value} {σ : Hp} {rc rs : Nat}
theorem w_cut (hc : cut pc = true) : wp CL cy O ob cc inv thr exc ret K KX cut J (n + 1) pc ls st σ rc rs = J pc ls st σ rc rs := by
  simp only [wp, hc]
theorem w_zero : wp CL cy O ob cc inv thr exc ret K KX cut J 0 pc ls st σ rc rs = J pc ls st σ rc rs := rfl
theorem w_step {i : Instr} {len : Nat} (hc : cut pc = false) (hd : decode cc pc = .ok (i, len)) (hl : okLen i len = true) : wp CL cy O ob cc inv thr exc ret K KX cut J (n + 1) pc ls st σ rc rs = stepI CL cy O ob inv thr exc ret K KX (wp CL cy O ob cc inv thr exc ret K KX cut J n) i pc ls st σ rc rs := by
  simp only [wp, hc, hd, hl, true_and]
theorem w_S {i : Instr} {len : Nat} (hd : decode cc pc = .ok (i, len)) (hl : okLen i len = true) : wpS CL cy O ob cc inv thr exc ret K KX cut J n pc ls st σ rc rs = stepI CL cy O ob inv thr exc ret K KX (wp CL cy O ob cc inv thr exc ret K KX cut J n) i pc ls st σ rc rs := by
  simp only [wpS, hd, hl, true_and]
theorem w_iconst {a : Int} {v : Int32} (hc : cut pc = false) (hd : decode cc pc = .ok (.iconst a, 1)) (hp : pc + 1 = pc') (hv : Int32.ofInt a = v) : wp CL cy O ob cc inv thr exc ret K KX cut J (n + 1) pc ls st σ rc rs = wp CL cy O ob cc inv thr exc ret K KX cut J n pc' ls (.int v :: st) σ rc rs := by
  subst hp
  subst hv
  exact w_step hc hd rfl
theorem w_bipush {a : Int} {v : Int32} (hc : cut pc = false) (hd : decode cc pc = .ok (.bipush a, 2)) (hp : pc + 2 = pc') (hv : (Int8.ofInt a).toInt32 = v) : wp CL cy O ob cc inv thr exc ret K KX cut J (n + 1) pc ls st σ rc rs = wp CL cy O ob cc inv thr exc ret K KX cut J n pc' ls (.int v :: st) σ rc rs := by
  subst hp
  subst hv
  exact w_step hc hd rfl
theorem w_sipush {a : Int} {v : Int32} (hc : cut pc = false) (hd : decode cc pc = .ok (.sipush a, 3)) (hp : pc + 3 = pc') (hv : (Int16.ofInt a).toInt32 = v) : wp CL cy O ob cc inv thr exc ret K KX cut J (n + 1) pc ls st σ rc rs = wp CL cy O ob cc inv thr exc ret K KX cut J n pc' ls (.int v :: st) σ rc rs := by
  subst hp
  subst hv
  exact w_step hc hd rfl
theorem w_lconst {a : Fin 2} {v : Int64} (hc : cut pc = false) (hd : decode cc pc = .ok (.lconst a, 1)) (hp : pc + 1 = pc') (hv : Int64.ofNat a = v) : wp CL cy O ob cc inv thr exc ret K KX cut J (n + 1) pc ls st σ rc rs = wp CL cy O ob cc inv thr exc ret K KX cut J n pc' ls (.long v :: st) σ rc rs := by
  subst hp
  subst hv
  exact w_step hc hd rfl
theorem w_aconst_null  (hc : cut pc = false) (hd : decode cc pc = .ok (.aconst_null, 1)) (hp : pc + 1 = pc') : wp CL cy O ob cc inv thr exc ret K KX cut J (n + 1) pc ls st σ rc rs = wp CL cy O ob cc inv thr exc ret K KX cut J n pc' ls (.null :: st) σ rc rs := by
  subst hp
  exact w_step hc hd rfl
theorem w_iload_n {j : Fin 4} {i : Nat} (hc : cut pc = false) (hd : decode cc pc = .ok (.iload_n j, 1)) (hp : pc + 1 = pc') (hi : (j : Nat) = i) : wp CL cy O ob cc inv thr exc ret K KX cut J (n + 1) pc ls st σ rc rs = ldI (wp CL cy O ob cc inv thr exc ret K KX cut J n) (nth ls i) pc' ls st σ rc rs := by
  subst hp
  subst hi
  exact w_step hc hd rfl
theorem w_iload {j : Nat} {i : Nat} (hc : cut pc = false) (hd : decode cc pc = .ok (.iload j, 2)) (hp : pc + 2 = pc') (hi : (j : Nat) = i) : wp CL cy O ob cc inv thr exc ret K KX cut J (n + 1) pc ls st σ rc rs = ldI (wp CL cy O ob cc inv thr exc ret K KX cut J n) (nth ls i) pc' ls st σ rc rs := by
  subst hp
  subst hi
  exact w_step hc hd rfl
theorem w_aload_n {j : Fin 4} {i : Nat} (hc : cut pc = false) (hd : decode cc pc = .ok (.aload_n j, 1)) (hp : pc + 1 = pc') (hi : (j : Nat) = i) : wp CL cy O ob cc inv thr exc ret K KX cut J (n + 1) pc ls st σ rc rs = ldA (wp CL cy O ob cc inv thr exc ret K KX cut J n) (nth ls i) pc' ls st σ rc rs := by
  subst hp
  subst hi
  exact w_step hc hd rfl
theorem w_aload {j : Nat} {i : Nat} (hc : cut pc = false) (hd : decode cc pc = .ok (.aload j, 2)) (hp : pc + 2 = pc') (hi : (j : Nat) = i) : wp CL cy O ob cc inv thr exc ret K KX cut J (n + 1) pc ls st σ rc rs = ldA (wp CL cy O ob cc inv thr exc ret K KX cut J n) (nth ls i) pc' ls st σ rc rs := by
  subst hp
  subst hi
  exact w_step hc hd rfl
theorem w_istore_n {j : Fin 4} {i : Nat} {x : Int32} (hc : cut pc = false) (hd : decode cc pc = .ok (.istore_n j, 1)) (hp : pc + 1 = pc') (hi : (j : Nat) = i) : wp CL cy O ob cc inv thr exc ret K KX cut J (n + 1) pc ls (.int x :: st) σ rc rs = (i < ls.length ∧ wp CL cy O ob cc inv thr exc ret K KX cut J n pc' (sto ls i (.int x)) st σ rc rs) := by
  subst hp
  subst hi
  exact w_step hc hd rfl
theorem w_istore {j : Nat} {i : Nat} {x : Int32} (hc : cut pc = false) (hd : decode cc pc = .ok (.istore j, 2)) (hp : pc + 2 = pc') (hi : (j : Nat) = i) : wp CL cy O ob cc inv thr exc ret K KX cut J (n + 1) pc ls (.int x :: st) σ rc rs = (i < ls.length ∧ wp CL cy O ob cc inv thr exc ret K KX cut J n pc' (sto ls i (.int x)) st σ rc rs) := by
  subst hp
  subst hi
  exact w_step hc hd rfl
theorem w_astore_n {j : Fin 4} {i : Nat} {x : Nat} (hc : cut pc = false) (hd : decode cc pc = .ok (.astore_n j, 1)) (hp : pc + 1 = pc') (hi : (j : Nat) = i) : wp CL cy O ob cc inv thr exc ret K KX cut J (n + 1) pc ls (.ref x :: st) σ rc rs = (i < ls.length ∧ wp CL cy O ob cc inv thr exc ret K KX cut J n pc' (sto ls i (.ref x)) st σ rc rs) := by
  subst hp
  subst hi
  exact w_step hc hd rfl
theorem w_astore_nN {j : Fin 4} {i : Nat} (hc : cut pc = false) (hd : decode cc pc = .ok (.astore_n j, 1)) (hp : pc + 1 = pc') (hi : (j : Nat) = i) : wp CL cy O ob cc inv thr exc ret K KX cut J (n + 1) pc ls (.null :: st) σ rc rs = (i < ls.length ∧ wp CL cy O ob cc inv thr exc ret K KX cut J n pc' (sto ls i .null) st σ rc rs) := by
  subst hp
  subst hi
  exact w_step hc hd rfl
theorem w_astore {j : Nat} {i : Nat} {x : Nat} (hc : cut pc = false) (hd : decode cc pc = .ok (.astore j, 2)) (hp : pc + 2 = pc') (hi : (j : Nat) = i) : wp CL cy O ob cc inv thr exc ret K KX cut J (n + 1) pc ls (.ref x :: st) σ rc rs = (i < ls.length ∧ wp CL cy O ob cc inv thr exc ret K KX cut J n pc' (sto ls i (.ref x)) st σ rc rs) := by
  subst hp
  subst hi
  exact w_step hc hd rfl
theorem w_astoreN {j : Nat} {i : Nat} (hc : cut pc = false) (hd : decode cc pc = .ok (.astore j, 2)) (hp : pc + 2 = pc') (hi : (j : Nat) = i) : wp CL cy O ob cc inv thr exc ret K KX cut J (n + 1) pc ls (.null :: st) σ rc rs = (i < ls.length ∧ wp CL cy O ob cc inv thr exc ret K KX cut J n pc' (sto ls i .null) st σ rc rs) := by
  subst hp
  subst hi
  exact w_step hc hd rfl
def incK (k : Jt) (v : Option (Option Value)) (j : Nat) (d : Int32) (pc : Nat) (ls : List (Option Value)) (st : List Value) (σ : Hp) (rc rs : Nat) : Prop := match v with
  | some (some (.int x)) => k pc (sto ls j (.int (x + d))) st σ rc rs
  | _ => False
theorem w_iinc {j : Nat} {a : Int} {d : Int32} (hc : cut pc = false) (hd : decode cc pc = .ok (.iinc j a, 3)) (hp : pc + 3 = pc') (hv : Int32.ofInt a = d) : wp CL cy O ob cc inv thr exc ret K KX cut J (n + 1) pc ls st σ rc rs = incK (wp CL cy O ob cc inv thr exc ret K KX cut J n) (nth ls j) j d pc' ls st σ rc rs := by
  subst hp
  subst hv
  exact w_step hc hd rfl
theorem w_iadd {x y : Int32} (hc : cut pc = false) (hd : decode cc pc = .ok (.iadd, 1)) (hp : pc + 1 = pc') : wp CL cy O ob cc inv thr exc ret K KX cut J (n + 1) pc ls (.int y :: .int x :: st) σ rc rs = wp CL cy O ob cc inv thr exc ret K KX cut J n pc' ls (.int (x + y) :: st) σ rc rs := by
  subst hp
  exact w_step hc hd rfl
theorem w_isub {x y : Int32} (hc : cut pc = false) (hd : decode cc pc = .ok (.isub, 1)) (hp : pc + 1 = pc') : wp CL cy O ob cc inv thr exc ret K KX cut J (n + 1) pc ls (.int y :: .int x :: st) σ rc rs = wp CL cy O ob cc inv thr exc ret K KX cut J n pc' ls (.int (x - y) :: st) σ rc rs := by
  subst hp
  exact w_step hc hd rfl
theorem w_imul {x y : Int32} (hc : cut pc = false) (hd : decode cc pc = .ok (.imul, 1)) (hp : pc + 1 = pc') : wp CL cy O ob cc inv thr exc ret K KX cut J (n + 1) pc ls (.int y :: .int x :: st) σ rc rs = wp CL cy O ob cc inv thr exc ret K KX cut J n pc' ls (.int (x * y) :: st) σ rc rs := by
  subst hp
  exact w_step hc hd rfl
theorem w_iand {x y : Int32} (hc : cut pc = false) (hd : decode cc pc = .ok (.iand, 1)) (hp : pc + 1 = pc') : wp CL cy O ob cc inv thr exc ret K KX cut J (n + 1) pc ls (.int y :: .int x :: st) σ rc rs = wp CL cy O ob cc inv thr exc ret K KX cut J n pc' ls (.int (x &&& y) :: st) σ rc rs := by
  subst hp
  exact w_step hc hd rfl
theorem w_ior {x y : Int32} (hc : cut pc = false) (hd : decode cc pc = .ok (.ior, 1)) (hp : pc + 1 = pc') : wp CL cy O ob cc inv thr exc ret K KX cut J (n + 1) pc ls (.int y :: .int x :: st) σ rc rs = wp CL cy O ob cc inv thr exc ret K KX cut J n pc' ls (.int (x ||| y) :: st) σ rc rs := by
  subst hp
  exact w_step hc hd rfl
theorem w_ishl {x y : Int32} (hc : cut pc = false) (hd : decode cc pc = .ok (.ishl, 1)) (hp : pc + 1 = pc') : wp CL cy O ob cc inv thr exc ret K KX cut J (n + 1) pc ls (.int y :: .int x :: st) σ rc rs = wp CL cy O ob cc inv thr exc ret K KX cut J n pc' ls (.int (x <<< (y &&& 31)) :: st) σ rc rs := by
  subst hp
  exact w_step hc hd rfl
theorem w_ishr {x y : Int32} (hc : cut pc = false) (hd : decode cc pc = .ok (.ishr, 1)) (hp : pc + 1 = pc') : wp CL cy O ob cc inv thr exc ret K KX cut J (n + 1) pc ls (.int y :: .int x :: st) σ rc rs = wp CL cy O ob cc inv thr exc ret K KX cut J n pc' ls (.int (x >>> (y &&& 31)) :: st) σ rc rs := by
  subst hp
  exact w_step hc hd rfl
theorem w_iushr {x y : Int32} (hc : cut pc = false) (hd : decode cc pc = .ok (.iushr, 1)) (hp : pc + 1 = pc') : wp CL cy O ob cc inv thr exc ret K KX cut J (n + 1) pc ls (.int y :: .int x :: st) σ rc rs = wp CL cy O ob cc inv thr exc ret K KX cut J n pc' ls (.int ((x.toUInt32 >>> (y.toUInt32 &&& Int32.toUInt32 31)).toInt32) :: st) σ rc rs := by
  subst hp
  exact w_step hc hd rfl
theorem w_idiv {x y : Int32} (hc : cut pc = false) (hd : decode cc pc = .ok (.idiv, 1)) (hp : pc + 1 = pc') : wp CL cy O ob cc inv thr exc ret K KX cut J (n + 1) pc ls (.int y :: .int x :: st) σ rc rs = (¬ y = 0 ∧ wp CL cy O ob cc inv thr exc ret K KX cut J n pc' ls (.int (x / y) :: st) σ rc rs) := by
  subst hp
  exact w_step hc hd rfl
theorem w_irem {x y : Int32} (hc : cut pc = false) (hd : decode cc pc = .ok (.irem, 1)) (hp : pc + 1 = pc') : wp CL cy O ob cc inv thr exc ret K KX cut J (n + 1) pc ls (.int y :: .int x :: st) σ rc rs = (¬ y = 0 ∧ wp CL cy O ob cc inv thr exc ret K KX cut J n pc' ls (.int (x - x / y * y) :: st) σ rc rs) := by
  subst hp
  exact w_step hc hd rfl
theorem w_i2b {x : Int32} (hc : cut pc = false) (hd : decode cc pc = .ok (.i2b, 1)) (hp : pc + 1 = pc') : wp CL cy O ob cc inv thr exc ret K KX cut J (n + 1) pc ls (.int x :: st) σ rc rs = wp CL cy O ob cc inv thr exc ret K KX cut J n pc' ls (.int x.toInt8.toInt32 :: st) σ rc rs := by
  subst hp
  exact w_step hc hd rfl
theorem w_i2c {x : Int32} (hc : cut pc = false) (hd : decode cc pc = .ok (.i2c, 1)) (hp : pc + 1 = pc') : wp CL cy O ob cc inv thr exc ret K KX cut J (n + 1) pc ls (.int x :: st) σ rc rs = wp CL cy O ob cc inv thr exc ret K KX cut J n pc' ls (.int (x.toUInt32 % 65536).toInt32 :: st) σ rc rs := by
  subst hp
  exact w_step hc hd rfl
theorem w_i2l {x : Int32} (hc : cut pc = false) (hd : decode cc pc = .ok (.i2l, 1)) (hp : pc + 1 = pc') : wp CL cy O ob cc inv thr exc ret K KX cut J (n + 1) pc ls (.int x :: st) σ rc rs = wp CL cy O ob cc inv thr exc ret K KX cut J n pc' ls (.long x.toInt64 :: st) σ rc rs := by
  subst hp
  exact w_step hc hd rfl
theorem w_lcmp {x y : Int64} (hc : cut pc = false) (hd : decode cc pc = .ok (.lcmp, 1)) (hp : pc + 1 = pc') : wp CL cy O ob cc inv thr exc ret K KX cut J (n + 1) pc ls (.long y :: .long x :: st) σ rc rs = wp CL cy O ob cc inv thr exc ret K KX cut J n pc' ls (.int (lg_cmp x y) :: st) σ rc rs := by
  subst hp
  exact w_step hc hd rfl
def cat1 (v : Value) : Prop := v.category = 1
theorem cat1_int (x : Int32) : cat1 (.int x) = True := eq_true rfl
theorem cat1_ref (x : Nat) : cat1 (.ref x) = True := eq_true rfl
theorem cat1_null : cat1 .null = True := eq_true rfl
theorem cat1_rf (r : Option Nat) : cat1 (va_rf r) = True := by cases r <;> exact eq_true rfl
theorem w_dup {v : Value} (hc : cut pc = false) (hd : decode cc pc = .ok (.dup, 1)) (hp : pc + 1 = pc') : wp CL cy O ob cc inv thr exc ret K KX cut J (n + 1) pc ls (v :: st) σ rc rs = (cat1 v ∧ wp CL cy O ob cc inv thr exc ret K KX cut J n pc' ls (v :: v :: st) σ rc rs) := by
  subst hp
  exact w_step hc hd rfl
theorem w_pop {v : Value} (hc : cut pc = false) (hd : decode cc pc = .ok (.pop, 1)) (hp : pc + 1 = pc') : wp CL cy O ob cc inv thr exc ret K KX cut J (n + 1) pc ls (v :: st) σ rc rs = (cat1 v ∧ wp CL cy O ob cc inv thr exc ret K KX cut J n pc' ls st σ rc rs) := by
  subst hp
  exact w_step hc hd rfl
theorem w_dup_x1 {v w : Value} (hc : cut pc = false) (hd : decode cc pc = .ok (.dup_x1, 1)) (hp : pc + 1 = pc') : wp CL cy O ob cc inv thr exc ret K KX cut J (n + 1) pc ls (v :: w :: st) σ rc rs = (cat1 v ∧ cat1 w ∧ wp CL cy O ob cc inv thr exc ret K KX cut J n pc' ls (v :: w :: v :: st) σ rc rs) := by
  subst hp
  exact w_step hc hd rfl
theorem w_dup2 {v w : Value} (hc : cut pc = false) (hd : decode cc pc = .ok (.dup2, 1)) (hp : pc + 1 = pc') : wp CL cy O ob cc inv thr exc ret K KX cut J (n + 1) pc ls (v :: w :: st) σ rc rs = (cat1 v ∧ cat1 w ∧ wp CL cy O ob cc inv thr exc ret K KX cut J n pc' ls (v :: w :: v :: w :: st) σ rc rs) := by
  subst hp
  exact w_step hc hd rfl
theorem w_if_eq {x : Int32} {a : Int} {t : Nat} (hc : cut pc = false) (hd : decode cc pc = .ok (.ifCond .eq a, 3)) (hp : pc + 3 = pc') (h0 : 0 ≤ (pc : Int) + a) (ht : tgt pc a = t) : wp CL cy O ob cc inv thr exc ret K KX cut J (n + 1) pc ls (.int x :: st) σ rc rs = ((x = 0 → wp CL cy O ob cc inv thr exc ret K KX cut J n t ls st σ rc rs) ∧ (¬ (x = 0) → wp CL cy O ob cc inv thr exc ret K KX cut J n pc' ls st σ rc rs)) := by
  subst hp
  subst ht
  rw [w_step hc hd rfl]
  exact propext ⟨fun h => h.2, fun h => ⟨h0, h⟩⟩
theorem w_if_ne {x : Int32} {a : Int} {t : Nat} (hc : cut pc = false) (hd : decode cc pc = .ok (.ifCond .ne a, 3)) (hp : pc + 3 = pc') (h0 : 0 ≤ (pc : Int) + a) (ht : tgt pc a = t) : wp CL cy O ob cc inv thr exc ret K KX cut J (n + 1) pc ls (.int x :: st) σ rc rs = ((¬ x = 0 → wp CL cy O ob cc inv thr exc ret K KX cut J n t ls st σ rc rs) ∧ (¬ (¬ x = 0) → wp CL cy O ob cc inv thr exc ret K KX cut J n pc' ls st σ rc rs)) := by
  subst hp
  subst ht
  rw [w_step hc hd rfl]
  exact propext ⟨fun h => h.2, fun h => ⟨h0, h⟩⟩
theorem w_if_lt {x : Int32} {a : Int} {t : Nat} (hc : cut pc = false) (hd : decode cc pc = .ok (.ifCond .lt a, 3)) (hp : pc + 3 = pc') (h0 : 0 ≤ (pc : Int) + a) (ht : tgt pc a = t) : wp CL cy O ob cc inv thr exc ret K KX cut J (n + 1) pc ls (.int x :: st) σ rc rs = ((x < 0 → wp CL cy O ob cc inv thr exc ret K KX cut J n t ls st σ rc rs) ∧ (¬ (x < 0) → wp CL cy O ob cc inv thr exc ret K KX cut J n pc' ls st σ rc rs)) := by
  subst hp
  subst ht
  rw [w_step hc hd rfl]
  exact propext ⟨fun h => h.2, fun h => ⟨h0, h⟩⟩
theorem w_if_ge {x : Int32} {a : Int} {t : Nat} (hc : cut pc = false) (hd : decode cc pc = .ok (.ifCond .ge a, 3)) (hp : pc + 3 = pc') (h0 : 0 ≤ (pc : Int) + a) (ht : tgt pc a = t) : wp CL cy O ob cc inv thr exc ret K KX cut J (n + 1) pc ls (.int x :: st) σ rc rs = ((0 ≤ x → wp CL cy O ob cc inv thr exc ret K KX cut J n t ls st σ rc rs) ∧ (¬ (0 ≤ x) → wp CL cy O ob cc inv thr exc ret K KX cut J n pc' ls st σ rc rs)) := by
  subst hp
  subst ht
  rw [w_step hc hd rfl]
  exact propext ⟨fun h => h.2, fun h => ⟨h0, h⟩⟩
theorem w_if_gt {x : Int32} {a : Int} {t : Nat} (hc : cut pc = false) (hd : decode cc pc = .ok (.ifCond .gt a, 3)) (hp : pc + 3 = pc') (h0 : 0 ≤ (pc : Int) + a) (ht : tgt pc a = t) : wp CL cy O ob cc inv thr exc ret K KX cut J (n + 1) pc ls (.int x :: st) σ rc rs = ((0 < x → wp CL cy O ob cc inv thr exc ret K KX cut J n t ls st σ rc rs) ∧ (¬ (0 < x) → wp CL cy O ob cc inv thr exc ret K KX cut J n pc' ls st σ rc rs)) := by
  subst hp
  subst ht
  rw [w_step hc hd rfl]
  exact propext ⟨fun h => h.2, fun h => ⟨h0, h⟩⟩
theorem w_if_le {x : Int32} {a : Int} {t : Nat} (hc : cut pc = false) (hd : decode cc pc = .ok (.ifCond .le a, 3)) (hp : pc + 3 = pc') (h0 : 0 ≤ (pc : Int) + a) (ht : tgt pc a = t) : wp CL cy O ob cc inv thr exc ret K KX cut J (n + 1) pc ls (.int x :: st) σ rc rs = ((x ≤ 0 → wp CL cy O ob cc inv thr exc ret K KX cut J n t ls st σ rc rs) ∧ (¬ (x ≤ 0) → wp CL cy O ob cc inv thr exc ret K KX cut J n pc' ls st σ rc rs)) := by
  subst hp
  subst ht
  rw [w_step hc hd rfl]
  exact propext ⟨fun h => h.2, fun h => ⟨h0, h⟩⟩
theorem w_icmp_eq {x y : Int32} {a : Int} {t : Nat} (hc : cut pc = false) (hd : decode cc pc = .ok (.if_icmp .eq a, 3)) (hp : pc + 3 = pc') (h0 : 0 ≤ (pc : Int) + a) (ht : tgt pc a = t) : wp CL cy O ob cc inv thr exc ret K KX cut J (n + 1) pc ls (.int y :: .int x :: st) σ rc rs = ((x = y → wp CL cy O ob cc inv thr exc ret K KX cut J n t ls st σ rc rs) ∧ (¬ (x = y) → wp CL cy O ob cc inv thr exc ret K KX cut J n pc' ls st σ rc rs)) := by
  subst hp
  subst ht
  rw [w_step hc hd rfl]
  exact propext ⟨fun h => h.2, fun h => ⟨h0, h⟩⟩
theorem w_icmp_ne {x y : Int32} {a : Int} {t : Nat} (hc : cut pc = false) (hd : decode cc pc = .ok (.if_icmp .ne a, 3)) (hp : pc + 3 = pc') (h0 : 0 ≤ (pc : Int) + a) (ht : tgt pc a = t) : wp CL cy O ob cc inv thr exc ret K KX cut J (n + 1) pc ls (.int y :: .int x :: st) σ rc rs = ((¬ x = y → wp CL cy O ob cc inv thr exc ret K KX cut J n t ls st σ rc rs) ∧ (¬ (¬ x = y) → wp CL cy O ob cc inv thr exc ret K KX cut J n pc' ls st σ rc rs)) := by
  subst hp
  subst ht
  rw [w_step hc hd rfl]
  exact propext ⟨fun h => h.2, fun h => ⟨h0, h⟩⟩
theorem w_icmp_lt {x y : Int32} {a : Int} {t : Nat} (hc : cut pc = false) (hd : decode cc pc = .ok (.if_icmp .lt a, 3)) (hp : pc + 3 = pc') (h0 : 0 ≤ (pc : Int) + a) (ht : tgt pc a = t) : wp CL cy O ob cc inv thr exc ret K KX cut J (n + 1) pc ls (.int y :: .int x :: st) σ rc rs = ((x < y → wp CL cy O ob cc inv thr exc ret K KX cut J n t ls st σ rc rs) ∧ (¬ (x < y) → wp CL cy O ob cc inv thr exc ret K KX cut J n pc' ls st σ rc rs)) := by
  subst hp
  subst ht
  rw [w_step hc hd rfl]
  exact propext ⟨fun h => h.2, fun h => ⟨h0, h⟩⟩
theorem w_icmp_ge {x y : Int32} {a : Int} {t : Nat} (hc : cut pc = false) (hd : decode cc pc = .ok (.if_icmp .ge a, 3)) (hp : pc + 3 = pc') (h0 : 0 ≤ (pc : Int) + a) (ht : tgt pc a = t) : wp CL cy O ob cc inv thr exc ret K KX cut J (n + 1) pc ls (.int y :: .int x :: st) σ rc rs = ((y ≤ x → wp CL cy O ob cc inv thr exc ret K KX cut J n t ls st σ rc rs) ∧ (¬ (y ≤ x) → wp CL cy O ob cc inv thr exc ret K KX cut J n pc' ls st σ rc rs)) := by
  subst hp
  subst ht
  rw [w_step hc hd rfl]
  exact propext ⟨fun h => h.2, fun h => ⟨h0, h⟩⟩
theorem w_icmp_gt {x y : Int32} {a : Int} {t : Nat} (hc : cut pc = false) (hd : decode cc pc = .ok (.if_icmp .gt a, 3)) (hp : pc + 3 = pc') (h0 : 0 ≤ (pc : Int) + a) (ht : tgt pc a = t) : wp CL cy O ob cc inv thr exc ret K KX cut J (n + 1) pc ls (.int y :: .int x :: st) σ rc rs = ((y < x → wp CL cy O ob cc inv thr exc ret K KX cut J n t ls st σ rc rs) ∧ (¬ (y < x) → wp CL cy O ob cc inv thr exc ret K KX cut J n pc' ls st σ rc rs)) := by
  subst hp
  subst ht
  rw [w_step hc hd rfl]
  exact propext ⟨fun h => h.2, fun h => ⟨h0, h⟩⟩
theorem w_icmp_le {x y : Int32} {a : Int} {t : Nat} (hc : cut pc = false) (hd : decode cc pc = .ok (.if_icmp .le a, 3)) (hp : pc + 3 = pc') (h0 : 0 ≤ (pc : Int) + a) (ht : tgt pc a = t) : wp CL cy O ob cc inv thr exc ret K KX cut J (n + 1) pc ls (.int y :: .int x :: st) σ rc rs = ((x ≤ y → wp CL cy O ob cc inv thr exc ret K KX cut J n t ls st σ rc rs) ∧ (¬ (x ≤ y) → wp CL cy O ob cc inv thr exc ret K KX cut J n pc' ls st σ rc rs)) := by
  subst hp
  subst ht
  rw [w_step hc hd rfl]
  exact propext ⟨fun h => h.2, fun h => ⟨h0, h⟩⟩
theorem w_acmp_eq {x y : Nat} {a : Int} {t : Nat} (hc : cut pc = false) (hd : decode cc pc = .ok (.if_acmp .eq a, 3)) (hp : pc + 3 = pc') (h0 : 0 ≤ (pc : Int) + a) (ht : tgt pc a = t) : wp CL cy O ob cc inv thr exc ret K KX cut J (n + 1) pc ls (.ref y :: .ref x :: st) σ rc rs = ((x = y → wp CL cy O ob cc inv thr exc ret K KX cut J n t ls st σ rc rs) ∧ (¬ (x = y) → wp CL cy O ob cc inv thr exc ret K KX cut J n pc' ls st σ rc rs)) := by
  subst hp
  subst ht
  rw [w_step hc hd rfl]
  exact propext ⟨fun h => h.2, fun h => ⟨h0, h⟩⟩
theorem w_acmp_ne {x y : Nat} {a : Int} {t : Nat} (hc : cut pc = false) (hd : decode cc pc = .ok (.if_acmp .ne a, 3)) (hp : pc + 3 = pc') (h0 : 0 ≤ (pc : Int) + a) (ht : tgt pc a = t) : wp CL cy O ob cc inv thr exc ret K KX cut J (n + 1) pc ls (.ref y :: .ref x :: st) σ rc rs = ((¬ x = y → wp CL cy O ob cc inv thr exc ret K KX cut J n t ls st σ rc rs) ∧ (¬ (¬ x = y) → wp CL cy O ob cc inv thr exc ret K KX cut J n pc' ls st σ rc rs)) := by
  subst hp
  subst ht
  rw [w_step hc hd rfl]
  exact propext ⟨fun h => h.2, fun h => ⟨h0, h⟩⟩
theorem w_goto  {a : Int} {t : Nat} (hc : cut pc = false) (hd : decode cc pc = .ok (.goto a, 3)) (h0 : 0 ≤ (pc : Int) + a) (ht : tgt pc a = t) : wp CL cy O ob cc inv thr exc ret K KX cut J (n + 1) pc ls st σ rc rs = wp CL cy O ob cc inv thr exc ret K KX cut J n t ls st σ rc rs := by
  subst ht
  rw [w_step hc hd rfl]
  exact propext ⟨fun h => h.2, fun h => ⟨h0, h⟩⟩
theorem w_ifnull_ref {x : Nat} {a : Int} (hc : cut pc = false) (hd : decode cc pc = .ok (.ifnull a, 3)) (hp : pc + 3 = pc') : wp CL cy O ob cc inv thr exc ret K KX cut J (n + 1) pc ls (.ref x :: st) σ rc rs = wp CL cy O ob cc inv thr exc ret K KX cut J n pc' ls st σ rc rs := by
  subst hp
  exact w_step hc hd rfl
theorem w_ifnull_null  {a : Int} {t : Nat} (hc : cut pc = false) (hd : decode cc pc = .ok (.ifnull a, 3)) (h0 : 0 ≤ (pc : Int) + a) (ht : tgt pc a = t) : wp CL cy O ob cc inv thr exc ret K KX cut J (n + 1) pc ls (.null :: st) σ rc rs = wp CL cy O ob cc inv thr exc ret K KX cut J n t ls st σ rc rs := by
  subst ht
  rw [w_step hc hd rfl]
  exact propext ⟨fun h => h.2, fun h => ⟨h0, h⟩⟩
theorem w_ifnonnull_ref {x : Nat} {a : Int} {t : Nat} (hc : cut pc = false) (hd : decode cc pc = .ok (.ifnonnull a, 3)) (h0 : 0 ≤ (pc : Int) + a) (ht : tgt pc a = t) : wp CL cy O ob cc inv thr exc ret K KX cut J (n + 1) pc ls (.ref x :: st) σ rc rs = wp CL cy O ob cc inv thr exc ret K KX cut J n t ls st σ rc rs := by
  subst ht
  rw [w_step hc hd rfl]
  exact propext ⟨fun h => h.2, fun h => ⟨h0, h⟩⟩
theorem w_ifnonnull_null {a : Int} (hc : cut pc = false) (hd : decode cc pc = .ok (.ifnonnull a, 3)) (hp : pc + 3 = pc') : wp CL cy O ob cc inv thr exc ret K KX cut J (n + 1) pc ls (.null :: st) σ rc rs = wp CL cy O ob cc inv thr exc ret K KX cut J n pc' ls st σ rc rs := by
  subst hp
  exact w_step hc hd rfl
def getK (k : Jt) (q : Option va_E) (ci j : Nat) (pc : Nat) (ls : List (Option Value)) (st : List Value) (σ : Hp) (rc rs : Nat) : Prop := match q with
  | some (.inr (c, fs)) => c = ci ∧ match nth fs j with
    | some v => k pc ls (v :: st) σ rc rs
    | none => False
  | _ => False
def putK (k : Jt) (q : Option va_E) (a ci j : Nat) (ty : FieldType) (v : Value) (pc : Nat) (ls : List (Option Value)) (st : List Value) (σ : Hp) (rc rs : Nat) : Prop := match q with
  | some (.inr (c, fs)) => c = ci ∧ j < fs.length ∧ okv ty v = true ∧ k pc ls st (hup σ a (.inr (ci, setN fs j v))) rc rs
  | _ => False
def oldK (k : Jt) (q : Option Value) (pc : Nat) (ls : List (Option Value)) (st : List Value) (σ : Hp) (rc rs : Nat) : Prop := match q with
  | some v => k pc ls (v :: st) σ rc rs
  | none => False
theorem w_getfield {f a ci j : Nat} {ty : FieldType} {b : Bool} (hc : cut pc = false) (hd : decode cc pc = .ok (.getfield f, 3)) (hp : pc + 3 = pc') (hf : CL.1 f = some (ci, j, ty, b)) : wp CL cy O ob cc inv thr exc ret K KX cut J (n + 1) pc ls (.ref a :: st) σ rc rs = getK (wp CL cy O ob cc inv thr exc ret K KX cut J n) (σ a) ci j pc' ls st σ rc rs := by
  subst hp
  rw [w_step hc hd rfl]
  show getF (CL.1 f) _ _ _ _ _ _ _ _ = _
  rw [hf]
  rfl
theorem w_getold {f a : Nat} (hc : cut pc = false) (hd : decode cc pc = .ok (.getfield f, 3)) (hp : pc + 3 = pc') (hf : CL.1 f = none) : wp CL cy O ob cc inv thr exc ret K KX cut J (n + 1) pc ls (.ref a :: st) σ rc rs = oldK (wp CL cy O ob cc inv thr exc ret K KX cut J n) (CL.2.2.2.2.2.1 f a) pc' ls st σ rc rs := by
  subst hp
  rw [w_step hc hd rfl]
  show getF (CL.1 f) _ _ _ _ _ _ _ _ = _
  rw [hf]
  rfl
theorem w_putfield {f a ci j : Nat} {ty : FieldType} {v : Value} (hc : cut pc = false) (hd : decode cc pc = .ok (.putfield f, 3)) (hp : pc + 3 = pc') (hf : CL.1 f = some (ci, j, ty, true)) : wp CL cy O ob cc inv thr exc ret K KX cut J (n + 1) pc ls (v :: .ref a :: st) σ rc rs = putK (wp CL cy O ob cc inv thr exc ret K KX cut J n) (σ a) a ci j ty v pc' ls st σ rc rs := by
  subst hp
  rw [w_step hc hd rfl]
  show putF (CL.1 f) _ _ _ _ _ _ _ = _
  rw [hf]
  rfl
theorem w_arraylength (hc : cut pc = false) (hd : decode cc pc = .ok (.arraylength, 1)) : wp CL cy O ob cc inv thr exc ret K KX cut J (n + 1) pc ls st σ rc rs = alen cy O (wp CL cy O ob cc inv thr exc ret K KX cut J n) pc ls st σ rc rs := w_step hc hd rfl
theorem w_iaload (hc : cut pc = false) (hd : decode cc pc = .ok (.iaload, 1)) : wp CL cy O ob cc inv thr exc ret K KX cut J (n + 1) pc ls st σ rc rs = ald (cy 0) (wp CL cy O ob cc inv thr exc ret K KX cut J n) pc ls st σ rc rs := w_step hc hd rfl
theorem w_baload (hc : cut pc = false) (hd : decode cc pc = .ok (.baload, 1)) : wp CL cy O ob cc inv thr exc ret K KX cut J (n + 1) pc ls st σ rc rs = bald (cy 1) O (wp CL cy O ob cc inv thr exc ret K KX cut J n) pc ls st σ rc rs := w_step hc hd rfl
theorem w_iastore (hc : cut pc = false) (hd : decode cc pc = .ok (.iastore, 1)) : wp CL cy O ob cc inv thr exc ret K KX cut J (n + 1) pc ls st σ rc rs = ast (cy 0) (fun x => x) (wp CL cy O ob cc inv thr exc ret K KX cut J n) pc ls st σ rc rs := w_step hc hd rfl
theorem w_bastore (hc : cut pc = false) (hd : decode cc pc = .ok (.bastore, 1)) : wp CL cy O ob cc inv thr exc ret K KX cut J (n + 1) pc ls st σ rc rs = ast (cy 1) (fun x => vp_nar .byte x) (wp CL cy O ob cc inv thr exc ret K KX cut J n) pc ls st σ rc rs := w_step hc hd rfl
theorem w_laload (hc : cut pc = false) (hd : decode cc pc = .ok (.laload, 1)) : wp CL cy O ob cc inv thr exc ret K KX cut J (n + 1) pc ls st σ rc rs = lald (cy 2) (wp CL cy O ob cc inv thr exc ret K KX cut J n) pc ls st σ rc rs := w_step hc hd rfl
theorem w_lastore (hc : cut pc = false) (hd : decode cc pc = .ok (.lastore, 1)) : wp CL cy O ob cc inv thr exc ret K KX cut J (n + 1) pc ls st σ rc rs = last (cy 2) (wp CL cy O ob cc inv thr exc ret K KX cut J n) pc ls st σ rc rs := w_step hc hd rfl
theorem w_aaload (hc : cut pc = false) (hd : decode cc pc = .ok (.aaload, 1)) : wp CL cy O ob cc inv thr exc ret K KX cut J (n + 1) pc ls st σ rc rs = rald (cy 3) (cy 4) (wp CL cy O ob cc inv thr exc ret K KX cut J n) pc ls st σ rc rs := w_step hc hd rfl
theorem w_aastore (hc : cut pc = false) (hd : decode cc pc = .ok (.aastore, 1)) : wp CL cy O ob cc inv thr exc ret K KX cut J (n + 1) pc ls st σ rc rs = rast (cy 3) ob (wp CL cy O ob cc inv thr exc ret K KX cut J n) pc ls st σ rc rs := w_step hc hd rfl
theorem w_newarray_int (hc : cut pc = false) (hd : decode cc pc = .ok (.newarray .int, 2)) : wp CL cy O ob cc inv thr exc ret K KX cut J (n + 1) pc ls st σ rc rs = nwA (cy 0) (fun n => (n, .inl (fun _ => 0))) O.1 (wp CL cy O ob cc inv thr exc ret K KX cut J n) pc ls st σ rc rs := w_step hc hd rfl
theorem w_newarray_byte (hc : cut pc = false) (hd : decode cc pc = .ok (.newarray .byte, 2)) : wp CL cy O ob cc inv thr exc ret K KX cut J (n + 1) pc ls st σ rc rs = nwA (cy 1) (fun n => (n, .inl (fun _ => 0))) O.1 (wp CL cy O ob cc inv thr exc ret K KX cut J n) pc ls st σ rc rs := w_step hc hd rfl
theorem w_newarray_long (hc : cut pc = false) (hd : decode cc pc = .ok (.newarray .long, 2)) : wp CL cy O ob cc inv thr exc ret K KX cut J (n + 1) pc ls st σ rc rs = nwA (cy 2) (fun n => (n, .inr (.inl (fun _ => 0)))) O.1 (wp CL cy O ob cc inv thr exc ret K KX cut J n) pc ls st σ rc rs := w_step hc hd rfl
theorem w_new {f ci : Nat} {fs : List Value} (hc : cut pc = false) (hd : decode cc pc = .ok (.new f, 3)) (ht : thr pc = none) (hf : CL.2.1 f = some (ci, fs)) : wp CL cy O ob cc inv thr exc ret K KX cut J (n + 1) pc ls st σ rc rs = nwO (some (ci, fs)) O.1 (wp CL cy O ob cc inv thr exc ret K KX cut J n) pc ls st σ rc rs := by
  rw [w_step hc hd rfl]
  dsimp only [stepI]
  rw [ht, hf]
theorem w_throw {f : Nat} {E : String} (hc : cut pc = false) (hd : decode cc pc = .ok (.new f, 3)) (ht : thr pc = some E) : wp CL cy O ob cc inv thr exc ret K KX cut J (n + 1) pc ls st σ rc rs = (1 ≤ rc ∧ 6 ≤ rs ∧ st.length ≤ 4 ∧ KX E σ) := by
  rw [w_step hc hd rfl]
  dsimp only [stepI]
  rw [ht]
theorem w_anewarray {f : Nat} (hc : cut pc = false) (hd : decode cc pc = .ok (.anewarray f, 3)) (hf : CL.2.2.2.2.2.2 f = 1) : wp CL cy O ob cc inv thr exc ret K KX cut J (n + 1) pc ls st σ rc rs = nwR (cy 3) O.1 (wp CL cy O ob cc inv thr exc ret K KX cut J n) pc ls st σ rc rs := by
  rw [w_step hc hd rfl]
  exact propext ⟨fun h => h.2, fun h => ⟨hf, h⟩⟩
theorem w_multianewarray {f : Nat} (hc : cut pc = false) (hd : decode cc pc = .ok (.multianewarray f 2, 4)) (hf : CL.2.2.2.2.2.2 f = 2) : wp CL cy O ob cc inv thr exc ret K KX cut J (n + 1) pc ls st σ rc rs = nwM (cy 0) (cy 4) O.1 (wp CL cy O ob cc inv thr exc ret K KX cut J n) pc ls st σ rc rs := by
  rw [w_step hc hd rfl]
  exact propext ⟨fun h => h.2, fun h => ⟨hf, h⟩⟩
theorem w_ldc {f : Nat} {v : Value} (hc : cut pc = false) (hd : decode cc pc = .ok (.ldc f, 2)) (hp : pc + 2 = pc') (hf : CL.2.2.1 f = some v) : wp CL cy O ob cc inv thr exc ret K KX cut J (n + 1) pc ls st σ rc rs = wp CL cy O ob cc inv thr exc ret K KX cut J n pc' ls (v :: st) σ rc rs := by
  subst hp
  rw [w_step hc hd rfl]
  dsimp only [stepI]
  rw [hf]
theorem w_getstatic {f : Nat} {v : Value} (hc : cut pc = false) (hd : decode cc pc = .ok (.getstatic f, 3)) (hp : pc + 3 = pc') (hf : CL.2.2.2.1 f = some v) : wp CL cy O ob cc inv thr exc ret K KX cut J (n + 1) pc ls st σ rc rs = wp CL cy O ob cc inv thr exc ret K KX cut J n pc' ls (v :: st) σ rc rs := by
  subst hp
  rw [w_step hc hd rfl]
  dsimp only [stepI]
  rw [hf]
def castK (k : Jt) (q : Option va_E) (a : Nat) (ok : Nat → Bool) (pc : Nat) (ls : List (Option Value)) (st : List Value) (σ : Hp) (rc rs : Nat) : Prop := match q with
  | some (.inr (c, _)) => ok c = true ∧ k pc ls (.ref a :: st) σ rc rs
  | _ => False
theorem w_checkcast {f a : Nat} (hc : cut pc = false) (hd : decode cc pc = .ok (.checkcast f, 3)) (hp : pc + 3 = pc') : wp CL cy O ob cc inv thr exc ret K KX cut J (n + 1) pc ls (.ref a :: st) σ rc rs = castK (wp CL cy O ob cc inv thr exc ret K KX cut J n) (σ a) a (CL.2.2.2.2.1 f) pc' ls st σ rc rs := by
  subst hp
  rw [w_step hc hd rfl]
  rfl
theorem w_invoke {i : Instr} {kd f : Nat} {g : Sg} (hc : cut pc = false) (hd : decode cc pc = .ok (i, 3)) (hi : i = insOf kd f) (hk : kd < 3) (hg : inv kd f = some g) : wp CL cy O ob cc inv thr exc ret K KX cut J (n + 1) pc ls st σ rc rs = inv1 (some g) exc KX (wp CL cy O ob cc inv thr exc ret K KX cut J n) pc ls st σ rc rs := by
  subst hi
  match kd, hk, hd, hg with
  | 0, _, hd, hg => rw [w_step hc hd rfl, ← hg]; rfl
  | 1, _, hd, hg => rw [w_step hc hd rfl, ← hg]; rfl
  | 2, _, hd, hg => rw [w_step hc hd rfl, ← hg]; rfl
theorem w_tableswitch {d lo hi : Int} {offs : Array Int} {len : Nat} {x : Int32} (hc : cut pc = false) (hd : decode cc pc = .ok (.tableswitch d lo hi offs, len)) : wp CL cy O ob cc inv thr exc ret K KX cut J (n + 1) pc ls (.int x :: st) σ rc rs = swT (wp CL cy O ob cc inv thr exc ret K KX cut J n) x pc d lo hi offs.toList ls st σ rc rs := w_step hc hd rfl
theorem w_lookupswitch {d : Int} {ps : Array (Int × Int)} {len : Nat} {x : Int32} (hc : cut pc = false) (hd : decode cc pc = .ok (.lookupswitch d ps, len)) (ho : (ps.toList.zip (ps.toList.drop 1)).all (fun (a, next) => a.1 < next.1) = true) : wp CL cy O ob cc inv thr exc ret K KX cut J (n + 1) pc ls (.int x :: st) σ rc rs = goTo (wp CL cy O ob cc inv thr exc ret K KX cut J n) pc (Op.lookupswitch.offset ps.toList d x.toInt) ls st σ rc rs := by
  rw [w_step hc hd rfl]
  exact propext ⟨fun h => h.2, fun h => ⟨ho, h⟩⟩
theorem w_ireturn {v : Int32} {ty : FieldType} (hc : cut pc = false) (hd : decode cc pc = .ok (.ireturn, 1)) (hr : ret = some ty) : wp CL cy O ob cc inv thr exc ret K KX cut J (n + 1) pc ls [.int v] σ rc rs = (narrow ty (.int v) = .int v ∧ K (some (.int v)) σ) := by
  subst hr
  exact w_step hc hd rfl
theorem w_ireturnI {v : Int32} (hc : cut pc = false) (hd : decode cc pc = .ok (.ireturn, 1)) (hr : ret = some .int) : wp CL cy O ob cc inv thr exc ret K KX cut J (n + 1) pc ls [.int v] σ rc rs = K (some (.int v)) σ := by
  rw [w_ireturn hc hd hr]
  exact propext ⟨fun h => h.2, fun h => ⟨rfl, h⟩⟩
theorem w_areturn_ref {a : Nat} {C : String} (hc : cut pc = false) (hd : decode cc pc = .ok (.areturn, 1)) (hr : ret = some (.object C)) : wp CL cy O ob cc inv thr exc ret K KX cut J (n + 1) pc ls [.ref a] σ rc rs = K (some (.ref a)) σ := by
  subst hr
  exact w_step hc hd rfl
theorem w_areturn_null {C : String} (hc : cut pc = false) (hd : decode cc pc = .ok (.areturn, 1)) (hr : ret = some (.object C)) : wp CL cy O ob cc inv thr exc ret K KX cut J (n + 1) pc ls [.null] σ rc rs = K (some .null) σ := by
  subst hr
  exact w_step hc hd rfl
theorem w_areturn_arr {a : Nat} {t : FieldType} (hc : cut pc = false) (hd : decode cc pc = .ok (.areturn, 1)) (hr : ret = some (.array t)) : wp CL cy O ob cc inv thr exc ret K KX cut J (n + 1) pc ls [.ref a] σ rc rs = K (some (.ref a)) σ := by
  subst hr
  exact w_step hc hd rfl
theorem w_return (hc : cut pc = false) (hd : decode cc pc = .ok (.return_, 1)) (hr : ret = none) : wp CL cy O ob cc inv thr exc ret K KX cut J (n + 1) pc ls [] σ rc rs = K none σ := by
  subst hr
  exact w_step hc hd rfl
theorem w_tsw {d lo hi : Int} {offs : Array Int} {len : Nat} {v : Int32} {o : Int} {t : Nat} (hc : cut pc = false) (hd : decode cc pc = .ok (.tableswitch d lo hi offs, len)) (h1 : ¬ v.toInt < lo) (h2 : ¬ hi < v.toInt) (ho : nth offs.toList (v.toInt - lo).toNat = some o) (h0 : 0 ≤ (pc : Int) + o) (ht : tgt pc o = t) : wp CL cy O ob cc inv thr exc ret K KX cut J (n + 1) pc ls (.int v :: st) σ rc rs = wp CL cy O ob cc inv thr exc ret K KX cut J n t ls st σ rc rs := by
  subst ht
  rw [w_tableswitch hc hd]
  unfold swT
  rw [ho]
  exact propext ⟨fun h => (h.2 h1 h2).2, fun h => ⟨fun q => (q.elim h1 h2).elim, fun _ _ => ⟨h0, h⟩⟩⟩
theorem w_tsd {d lo hi : Int} {offs : Array Int} {len : Nat} {x : Int32} {t : Nat} (hc : cut pc = false) (hd : decode cc pc = .ok (.tableswitch d lo hi offs, len)) (h0 : 0 ≤ (pc : Int) + d) (ht : tgt pc d = t) (h : x.toInt < lo ∨ hi < x.toInt) : wp CL cy O ob cc inv thr exc ret K KX cut J (n + 1) pc ls (.int x :: st) σ rc rs = wp CL cy O ob cc inv thr exc ret K KX cut J n t ls st σ rc rs := by
  subst ht
  rw [w_tableswitch hc hd]
  unfold swT
  exact propext ⟨fun q => (q.1 h).2, fun q => ⟨fun _ => ⟨h0, q⟩, fun a b => (h.elim a b).elim⟩⟩
theorem w_lsw {d : Int} {ps : Array (Int × Int)} {len : Nat} {v : Int32} {o : Int} {t : Nat} (hc : cut pc = false) (hd : decode cc pc = .ok (.lookupswitch d ps, len)) (hs : (ps.toList.zip (ps.toList.drop 1)).all (fun (a, next) => a.1 < next.1) = true) (ho : Op.lookupswitch.offset ps.toList d v.toInt = o) (h0 : 0 ≤ (pc : Int) + o) (ht : tgt pc o = t) : wp CL cy O ob cc inv thr exc ret K KX cut J (n + 1) pc ls (.int v :: st) σ rc rs = wp CL cy O ob cc inv thr exc ret K KX cut J n t ls st σ rc rs := by
  subst ht
  rw [w_lookupswitch hc hd hs, ho]
  exact propext ⟨fun h => h.2, fun h => ⟨h0, h⟩⟩
theorem wp_of_S (hJ : ∀ cut n pc ls st σ rc rs, wpS CL cy O ob cc inv thr exc ret K KX cut J n pc ls st σ rc rs → J pc ls st σ rc rs) (cut : Nat → Bool) (n pc : Nat) (ls : List (Option Value)) (st : List Value) (σ : Hp) (rc rs : Nat) (h : wp CL cy O ob cc inv thr exc ret K KX cut J n pc ls st σ rc rs) : J pc ls st σ rc rs := by
  cases n with
  | zero => exact h
  | succ n =>
    unfold wp at h
    split at h
    · exact h
    · exact hJ cut n pc ls st σ rc rs h
theorem s_iload_n {j : Fin 4} {i : Nat} (hd : decode cc pc = .ok (.iload_n j, 1)) (hp : pc + 1 = pc') (hi : (j : Nat) = i) : wpS CL cy O ob cc inv thr exc ret K KX cut J n pc ls st σ rc rs ↔ ldI (wp CL cy O ob cc inv thr exc ret K KX cut J n) (nth ls i) pc' ls st σ rc rs := by
  subst hp; subst hi; rw [w_S hd rfl]; rfl
theorem s_iload {j i : Nat} (hd : decode cc pc = .ok (.iload j, 2)) (hp : pc + 2 = pc') (hi : j = i) : wpS CL cy O ob cc inv thr exc ret K KX cut J n pc ls st σ rc rs ↔ ldI (wp CL cy O ob cc inv thr exc ret K KX cut J n) (nth ls i) pc' ls st σ rc rs := by
  subst hp; subst hi; rw [w_S hd rfl]; rfl
theorem s_aload_n {j : Fin 4} {i : Nat} (hd : decode cc pc = .ok (.aload_n j, 1)) (hp : pc + 1 = pc') (hi : (j : Nat) = i) : wpS CL cy O ob cc inv thr exc ret K KX cut J n pc ls st σ rc rs ↔ ldA (wp CL cy O ob cc inv thr exc ret K KX cut J n) (nth ls i) pc' ls st σ rc rs := by
  subst hp; subst hi; rw [w_S hd rfl]; rfl
theorem s_aload {j i : Nat} (hd : decode cc pc = .ok (.aload j, 2)) (hp : pc + 2 = pc') (hi : j = i) : wpS CL cy O ob cc inv thr exc ret K KX cut J n pc ls st σ rc rs ↔ ldA (wp CL cy O ob cc inv thr exc ret K KX cut J n) (nth ls i) pc' ls st σ rc rs := by
  subst hp; subst hi; rw [w_S hd rfl]; rfl
end WR
def ct (l : List Nat) (n : Nat) : Bool := l.any (fun m => Nat.beq m n)

