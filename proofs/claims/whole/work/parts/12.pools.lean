/-! ===== the classes' pools (by program) ===== -/
/-- addresses of the String constants that are read; the old arrays; the mirror of Object[]; a String's byte array; a formatter -/
abbrev Pm : Type := (Nat → Nat) × Old × Nat × (Nat → Option Nat) × Value
def fl_X0 : Nat → Option (Nat × Nat × FieldType × Bool)
  | 9 => some (1, 0, (.object "StormFlags$Port"), false)
  | 15 => some (1, 1, .int, false)
  | 19 => some (1, 2, .int, false)
  | 22 => some (1, 3, .int, true)
  | 25 => some (1, 4, .int, true)
  | 28 => some (1, 5, .int, true)
  | 31 => some (1, 6, .int, true)
  | 34 => some (1, 7, .int, true)
  | _ => none
def fl_X0i : Nat → Option (Nat × Nat × FieldType × Bool)
  | 9 => some (1, 0, (.object "StormFlags$Port"), true)
  | 15 => some (1, 1, .int, true)
  | 19 => some (1, 2, .int, true)
  | 22 => some (1, 3, .int, true)
  | 25 => some (1, 4, .int, true)
  | 28 => some (1, 5, .int, true)
  | 31 => some (1, 6, .int, true)
  | 34 => some (1, 7, .int, true)
  | _ => none
def nw_X0 : Nat → Option (Nat × List Value)
  | _ => none
def ld_X0 (P : Pm) : Nat → Option Value
  | _ => none
def gs_X0 (P : Pm) : Nat → Option Value
  | _ => none
def cs_X0 : Nat → Nat → Bool
  | _, _ => false
def og_X0 (P : Pm) : Nat → Nat → Option Value := fun _ _ => none
def ra_X0 : Nat → Nat
  | _ => 0
def cl_X0 (P : Pm) : Cl := (fl_X0, nw_X0, ld_X0 P, gs_X0 P, cs_X0, og_X0 P, ra_X0)
theorem q_X0_f9 (P : Pm) : (cl_X0 P).1 9 = some (1, 0, (.object "StormFlags$Port"), false) := rfl
theorem q_X0_f15 (P : Pm) : (cl_X0 P).1 15 = some (1, 1, .int, false) := rfl
theorem q_X0_f19 (P : Pm) : (cl_X0 P).1 19 = some (1, 2, .int, false) := rfl
theorem q_X0_f22 (P : Pm) : (cl_X0 P).1 22 = some (1, 3, .int, true) := rfl
theorem q_X0_f25 (P : Pm) : (cl_X0 P).1 25 = some (1, 4, .int, true) := rfl
theorem q_X0_f28 (P : Pm) : (cl_X0 P).1 28 = some (1, 5, .int, true) := rfl
theorem q_X0_f31 (P : Pm) : (cl_X0 P).1 31 = some (1, 6, .int, true) := rfl
theorem q_X0_f34 (P : Pm) : (cl_X0 P).1 34 = some (1, 7, .int, true) := rfl
def cl_X0i (P : Pm) : Cl := (fl_X0i, nw_X0, ld_X0 P, gs_X0 P, cs_X0, og_X0 P, ra_X0)
theorem q_X0i_f9 (P : Pm) : (cl_X0i P).1 9 = some (1, 0, (.object "StormFlags$Port"), true) := rfl
theorem q_X0i_f15 (P : Pm) : (cl_X0i P).1 15 = some (1, 1, .int, true) := rfl
theorem q_X0i_f19 (P : Pm) : (cl_X0i P).1 19 = some (1, 2, .int, true) := rfl
theorem q_X0i_f22 (P : Pm) : (cl_X0i P).1 22 = some (1, 3, .int, true) := rfl
theorem q_X0i_f25 (P : Pm) : (cl_X0i P).1 25 = some (1, 4, .int, true) := rfl
theorem q_X0i_f28 (P : Pm) : (cl_X0i P).1 28 = some (1, 5, .int, true) := rfl
theorem q_X0i_f31 (P : Pm) : (cl_X0i P).1 31 = some (1, 6, .int, true) := rfl
theorem q_X0i_f34 (P : Pm) : (cl_X0i P).1 34 = some (1, 7, .int, true) := rfl
def fl_X1 : Nat → Option (Nat × Nat × FieldType × Bool)
  | 7 => some (2, 0, .int, false)
  | 13 => some (2, 1, .int, false)
  | 16 => some (2, 2, .int, false)
  | 19 => some (2, 3, .int, false)
  | 22 => some (4, 0, .int, false)
  | _ => none
def fl_X1i : Nat → Option (Nat × Nat × FieldType × Bool)
  | 7 => some (2, 0, .int, true)
  | 13 => some (2, 1, .int, true)
  | 16 => some (2, 2, .int, true)
  | 19 => some (2, 3, .int, true)
  | 22 => some (4, 0, .int, false)
  | _ => none
def nw_X1 : Nat → Option (Nat × List Value)
  | _ => none
def ld_X1 (P : Pm) : Nat → Option Value
  | _ => none
def gs_X1 (P : Pm) : Nat → Option Value
  | _ => none
def cs_X1 : Nat → Nat → Bool
  | _, _ => false
def og_X1 (P : Pm) : Nat → Nat → Option Value := fun _ _ => none
def ra_X1 : Nat → Nat
  | _ => 0
def cl_X1 (P : Pm) : Cl := (fl_X1, nw_X1, ld_X1 P, gs_X1 P, cs_X1, og_X1 P, ra_X1)
theorem q_X1_f7 (P : Pm) : (cl_X1 P).1 7 = some (2, 0, .int, false) := rfl
theorem q_X1_f13 (P : Pm) : (cl_X1 P).1 13 = some (2, 1, .int, false) := rfl
theorem q_X1_f16 (P : Pm) : (cl_X1 P).1 16 = some (2, 2, .int, false) := rfl
theorem q_X1_f19 (P : Pm) : (cl_X1 P).1 19 = some (2, 3, .int, false) := rfl
theorem q_X1_f22 (P : Pm) : (cl_X1 P).1 22 = some (4, 0, .int, false) := rfl
def cl_X1i (P : Pm) : Cl := (fl_X1i, nw_X1, ld_X1 P, gs_X1 P, cs_X1, og_X1 P, ra_X1)
theorem q_X1i_f7 (P : Pm) : (cl_X1i P).1 7 = some (2, 0, .int, true) := rfl
theorem q_X1i_f13 (P : Pm) : (cl_X1i P).1 13 = some (2, 1, .int, true) := rfl
theorem q_X1i_f16 (P : Pm) : (cl_X1i P).1 16 = some (2, 2, .int, true) := rfl
theorem q_X1i_f19 (P : Pm) : (cl_X1i P).1 19 = some (2, 3, .int, true) := rfl
theorem q_X1i_f22 (P : Pm) : (cl_X1i P).1 22 = some (4, 0, .int, false) := rfl
def fl_X2 : Nat → Option (Nat × Nat × FieldType × Bool)
  | 9 => some (3, 0, .int, true)
  | 15 => some (3, 1, .int, true)
  | 18 => some (3, 2, .int, true)
  | 21 => some (3, 3, .int, true)
  | _ => none
def fl_X2i : Nat → Option (Nat × Nat × FieldType × Bool)
  | 9 => some (3, 0, .int, true)
  | 15 => some (3, 1, .int, true)
  | 18 => some (3, 2, .int, true)
  | 21 => some (3, 3, .int, true)
  | _ => none
def nw_X2 : Nat → Option (Nat × List Value)
  | _ => none
def ld_X2 (P : Pm) : Nat → Option Value
  | _ => none
def gs_X2 (P : Pm) : Nat → Option Value
  | _ => none
def cs_X2 : Nat → Nat → Bool
  | _, _ => false
def og_X2 (P : Pm) : Nat → Nat → Option Value := fun _ _ => none
def ra_X2 : Nat → Nat
  | _ => 0
def cl_X2 (P : Pm) : Cl := (fl_X2, nw_X2, ld_X2 P, gs_X2 P, cs_X2, og_X2 P, ra_X2)
theorem q_X2_f9 (P : Pm) : (cl_X2 P).1 9 = some (3, 0, .int, true) := rfl
theorem q_X2_f15 (P : Pm) : (cl_X2 P).1 15 = some (3, 1, .int, true) := rfl
theorem q_X2_f18 (P : Pm) : (cl_X2 P).1 18 = some (3, 2, .int, true) := rfl
theorem q_X2_f21 (P : Pm) : (cl_X2 P).1 21 = some (3, 3, .int, true) := rfl
def cl_X2i (P : Pm) : Cl := (fl_X2i, nw_X2, ld_X2 P, gs_X2 P, cs_X2, og_X2 P, ra_X2)
theorem q_X2i_f9 (P : Pm) : (cl_X2i P).1 9 = some (3, 0, .int, true) := rfl
theorem q_X2i_f15 (P : Pm) : (cl_X2i P).1 15 = some (3, 1, .int, true) := rfl
theorem q_X2i_f18 (P : Pm) : (cl_X2i P).1 18 = some (3, 2, .int, true) := rfl
theorem q_X2i_f21 (P : Pm) : (cl_X2i P).1 21 = some (3, 3, .int, true) := rfl
def fl_X3 : Nat → Option (Nat × Nat × FieldType × Bool)
  | 9 => some (4, 0, .int, false)
  | 15 => some (4, 1, .int, false)
  | 18 => some (4, 2, .int, false)
  | 21 => some (4, 3, .int, false)
  | 24 => some (4, 4, .int, false)
  | 27 => some (4, 5, (.object "StormFlags$Report"), true)
  | 31 => some (5, 1, .int, false)
  | 36 => some (5, 4, .int, false)
  | 39 => some (5, 5, (.object "StormFlags$Report"), false)
  | 46 => some (5, 3, .int, false)
  | _ => none
def fl_X3i : Nat → Option (Nat × Nat × FieldType × Bool)
  | 9 => some (4, 0, .int, true)
  | 15 => some (4, 1, .int, true)
  | 18 => some (4, 2, .int, true)
  | 21 => some (4, 3, .int, true)
  | 24 => some (4, 4, .int, true)
  | 27 => some (4, 5, (.object "StormFlags$Report"), true)
  | 31 => some (5, 1, .int, false)
  | 36 => some (5, 4, .int, false)
  | 39 => some (5, 5, (.object "StormFlags$Report"), false)
  | 46 => some (5, 3, .int, false)
  | _ => none
def nw_X3 : Nat → Option (Nat × List Value)
  | _ => none
def ld_X3 (P : Pm) : Nat → Option Value
  | _ => none
def gs_X3 (P : Pm) : Nat → Option Value
  | _ => none
def cs_X3 : Nat → Nat → Bool
  | _, _ => false
def og_X3 (P : Pm) : Nat → Nat → Option Value := fun _ _ => none
def ra_X3 : Nat → Nat
  | _ => 0
def cl_X3 (P : Pm) : Cl := (fl_X3, nw_X3, ld_X3 P, gs_X3 P, cs_X3, og_X3 P, ra_X3)
theorem q_X3_f9 (P : Pm) : (cl_X3 P).1 9 = some (4, 0, .int, false) := rfl
theorem q_X3_f15 (P : Pm) : (cl_X3 P).1 15 = some (4, 1, .int, false) := rfl
theorem q_X3_f18 (P : Pm) : (cl_X3 P).1 18 = some (4, 2, .int, false) := rfl
theorem q_X3_f21 (P : Pm) : (cl_X3 P).1 21 = some (4, 3, .int, false) := rfl
theorem q_X3_f24 (P : Pm) : (cl_X3 P).1 24 = some (4, 4, .int, false) := rfl
theorem q_X3_f27 (P : Pm) : (cl_X3 P).1 27 = some (4, 5, (.object "StormFlags$Report"), true) := rfl
theorem q_X3_f31 (P : Pm) : (cl_X3 P).1 31 = some (5, 1, .int, false) := rfl
theorem q_X3_f36 (P : Pm) : (cl_X3 P).1 36 = some (5, 4, .int, false) := rfl
theorem q_X3_f39 (P : Pm) : (cl_X3 P).1 39 = some (5, 5, (.object "StormFlags$Report"), false) := rfl
theorem q_X3_f46 (P : Pm) : (cl_X3 P).1 46 = some (5, 3, .int, false) := rfl
def cl_X3i (P : Pm) : Cl := (fl_X3i, nw_X3, ld_X3 P, gs_X3 P, cs_X3, og_X3 P, ra_X3)
theorem q_X3i_f9 (P : Pm) : (cl_X3i P).1 9 = some (4, 0, .int, true) := rfl
theorem q_X3i_f15 (P : Pm) : (cl_X3i P).1 15 = some (4, 1, .int, true) := rfl
theorem q_X3i_f18 (P : Pm) : (cl_X3i P).1 18 = some (4, 2, .int, true) := rfl
theorem q_X3i_f21 (P : Pm) : (cl_X3i P).1 21 = some (4, 3, .int, true) := rfl
theorem q_X3i_f24 (P : Pm) : (cl_X3i P).1 24 = some (4, 4, .int, true) := rfl
theorem q_X3i_f27 (P : Pm) : (cl_X3i P).1 27 = some (4, 5, (.object "StormFlags$Report"), true) := rfl
theorem q_X3i_f31 (P : Pm) : (cl_X3i P).1 31 = some (5, 1, .int, false) := rfl
theorem q_X3i_f36 (P : Pm) : (cl_X3i P).1 36 = some (5, 4, .int, false) := rfl
theorem q_X3i_f39 (P : Pm) : (cl_X3i P).1 39 = some (5, 5, (.object "StormFlags$Report"), false) := rfl
theorem q_X3i_f46 (P : Pm) : (cl_X3i P).1 46 = some (5, 3, .int, false) := rfl
def fl_X4 : Nat → Option (Nat × Nat × FieldType × Bool)
  | 7 => some (5, 0, .int, false)
  | 13 => some (5, 1, .int, false)
  | 16 => some (5, 2, .int, false)
  | 19 => some (5, 3, .int, false)
  | 22 => some (5, 4, .int, false)
  | 25 => some (5, 5, (.object "StormFlags$Report"), false)
  | _ => none
def fl_X4i : Nat → Option (Nat × Nat × FieldType × Bool)
  | 7 => some (5, 0, .int, true)
  | 13 => some (5, 1, .int, true)
  | 16 => some (5, 2, .int, true)
  | 19 => some (5, 3, .int, true)
  | 22 => some (5, 4, .int, true)
  | 25 => some (5, 5, (.object "StormFlags$Report"), true)
  | _ => none
def nw_X4 : Nat → Option (Nat × List Value)
  | _ => none
def ld_X4 (P : Pm) : Nat → Option Value
  | _ => none
def gs_X4 (P : Pm) : Nat → Option Value
  | _ => none
def cs_X4 : Nat → Nat → Bool
  | _, _ => false
def og_X4 (P : Pm) : Nat → Nat → Option Value := fun _ _ => none
def ra_X4 : Nat → Nat
  | _ => 0
def cl_X4 (P : Pm) : Cl := (fl_X4, nw_X4, ld_X4 P, gs_X4 P, cs_X4, og_X4 P, ra_X4)
theorem q_X4_f7 (P : Pm) : (cl_X4 P).1 7 = some (5, 0, .int, false) := rfl
theorem q_X4_f13 (P : Pm) : (cl_X4 P).1 13 = some (5, 1, .int, false) := rfl
theorem q_X4_f16 (P : Pm) : (cl_X4 P).1 16 = some (5, 2, .int, false) := rfl
theorem q_X4_f19 (P : Pm) : (cl_X4 P).1 19 = some (5, 3, .int, false) := rfl
theorem q_X4_f22 (P : Pm) : (cl_X4 P).1 22 = some (5, 4, .int, false) := rfl
theorem q_X4_f25 (P : Pm) : (cl_X4 P).1 25 = some (5, 5, (.object "StormFlags$Report"), false) := rfl
def cl_X4i (P : Pm) : Cl := (fl_X4i, nw_X4, ld_X4 P, gs_X4 P, cs_X4, og_X4 P, ra_X4)
theorem q_X4i_f7 (P : Pm) : (cl_X4i P).1 7 = some (5, 0, .int, true) := rfl
theorem q_X4i_f13 (P : Pm) : (cl_X4i P).1 13 = some (5, 1, .int, true) := rfl
theorem q_X4i_f16 (P : Pm) : (cl_X4i P).1 16 = some (5, 2, .int, true) := rfl
theorem q_X4i_f19 (P : Pm) : (cl_X4i P).1 19 = some (5, 3, .int, true) := rfl
theorem q_X4i_f22 (P : Pm) : (cl_X4i P).1 22 = some (5, 4, .int, true) := rfl
theorem q_X4i_f25 (P : Pm) : (cl_X4i P).1 25 = some (5, 5, (.object "StormFlags$Report"), true) := rfl
def fl_X5 : Nat → Option (Nat × Nat × FieldType × Bool)
  | 11 => some (6, 0, (.array .int), false)
  | 15 => some (6, 1, (.array .int), false)
  | 20 => some (6, 2, (.array (.array .int)), false)
  | 23 => some (6, 3, (.array (.array .int)), false)
  | 26 => some (6, 4, .int, true)
  | _ => none
def fl_X5i : Nat → Option (Nat × Nat × FieldType × Bool)
  | 11 => some (6, 0, (.array .int), true)
  | 15 => some (6, 1, (.array .int), true)
  | 20 => some (6, 2, (.array (.array .int)), true)
  | 23 => some (6, 3, (.array (.array .int)), true)
  | 26 => some (6, 4, .int, true)
  | _ => none
def nw_X5 : Nat → Option (Nat × List Value)
  | _ => none
def ld_X5 (P : Pm) : Nat → Option Value
  | 65 => some (.ref (P.1 6))
  | 81 => some (.ref (P.1 0))
  | 83 => some (.ref (P.1 1))
  | 85 => some (.ref (P.1 2))
  | 87 => some (.ref (P.1 3))
  | 89 => some (.ref (P.1 4))
  | 91 => some (.ref (P.1 5))
  | _ => none
def gs_X5 (P : Pm) : Nat → Option Value
  | _ => none
def cs_X5 : Nat → Nat → Bool
  | _, _ => false
def og_X5 (P : Pm) : Nat → Nat → Option Value := fun _ _ => none
def ra_X5 : Nat → Nat
  | 18 => 2
  | _ => 0
def cl_X5 (P : Pm) : Cl := (fl_X5, nw_X5, ld_X5 P, gs_X5 P, cs_X5, og_X5 P, ra_X5)
theorem q_X5_f11 (P : Pm) : (cl_X5 P).1 11 = some (6, 0, (.array .int), false) := rfl
theorem q_X5_f15 (P : Pm) : (cl_X5 P).1 15 = some (6, 1, (.array .int), false) := rfl
theorem q_X5_f20 (P : Pm) : (cl_X5 P).1 20 = some (6, 2, (.array (.array .int)), false) := rfl
theorem q_X5_f23 (P : Pm) : (cl_X5 P).1 23 = some (6, 3, (.array (.array .int)), false) := rfl
theorem q_X5_f26 (P : Pm) : (cl_X5 P).1 26 = some (6, 4, .int, true) := rfl
theorem q_X5_l65 (P : Pm) : (cl_X5 P).2.2.1 65 = some (.ref (P.1 6)) := rfl
theorem q_X5_l81 (P : Pm) : (cl_X5 P).2.2.1 81 = some (.ref (P.1 0)) := rfl
theorem q_X5_l83 (P : Pm) : (cl_X5 P).2.2.1 83 = some (.ref (P.1 1)) := rfl
theorem q_X5_l85 (P : Pm) : (cl_X5 P).2.2.1 85 = some (.ref (P.1 2)) := rfl
theorem q_X5_l87 (P : Pm) : (cl_X5 P).2.2.1 87 = some (.ref (P.1 3)) := rfl
theorem q_X5_l89 (P : Pm) : (cl_X5 P).2.2.1 89 = some (.ref (P.1 4)) := rfl
theorem q_X5_l91 (P : Pm) : (cl_X5 P).2.2.1 91 = some (.ref (P.1 5)) := rfl
def cl_X5i (P : Pm) : Cl := (fl_X5i, nw_X5, ld_X5 P, gs_X5 P, cs_X5, og_X5 P, ra_X5)
theorem q_X5i_f11 (P : Pm) : (cl_X5i P).1 11 = some (6, 0, (.array .int), true) := rfl
theorem q_X5i_f15 (P : Pm) : (cl_X5i P).1 15 = some (6, 1, (.array .int), true) := rfl
theorem q_X5i_f20 (P : Pm) : (cl_X5i P).1 20 = some (6, 2, (.array (.array .int)), true) := rfl
theorem q_X5i_f23 (P : Pm) : (cl_X5i P).1 23 = some (6, 3, (.array (.array .int)), true) := rfl
theorem q_X5i_f26 (P : Pm) : (cl_X5i P).1 26 = some (6, 4, .int, true) := rfl
theorem q_X5i_l65 (P : Pm) : (cl_X5i P).2.2.1 65 = some (.ref (P.1 6)) := rfl
theorem q_X5i_l81 (P : Pm) : (cl_X5i P).2.2.1 81 = some (.ref (P.1 0)) := rfl
theorem q_X5i_l83 (P : Pm) : (cl_X5i P).2.2.1 83 = some (.ref (P.1 1)) := rfl
theorem q_X5i_l85 (P : Pm) : (cl_X5i P).2.2.1 85 = some (.ref (P.1 2)) := rfl
theorem q_X5i_l87 (P : Pm) : (cl_X5i P).2.2.1 87 = some (.ref (P.1 3)) := rfl
theorem q_X5i_l89 (P : Pm) : (cl_X5i P).2.2.1 89 = some (.ref (P.1 4)) := rfl
theorem q_X5i_l91 (P : Pm) : (cl_X5i P).2.2.1 91 = some (.ref (P.1 5)) := rfl
def fl_X6 : Nat → Option (Nat × Nat × FieldType × Bool)
  | 9 => some (7, 0, (.array .int), false)
  | 15 => some (7, 1, .int, true)
  | 19 => some (7, 2, .int, true)
  | _ => none
def fl_X6i : Nat → Option (Nat × Nat × FieldType × Bool)
  | 9 => some (7, 0, (.array .int), true)
  | 15 => some (7, 1, .int, true)
  | 19 => some (7, 2, .int, true)
  | _ => none
def nw_X6 : Nat → Option (Nat × List Value)
  | _ => none
def ld_X6 (P : Pm) : Nat → Option Value
  | _ => none
def gs_X6 (P : Pm) : Nat → Option Value
  | _ => none
def cs_X6 : Nat → Nat → Bool
  | _, _ => false
def og_X6 (P : Pm) : Nat → Nat → Option Value := fun _ _ => none
def ra_X6 : Nat → Nat
  | _ => 0
def cl_X6 (P : Pm) : Cl := (fl_X6, nw_X6, ld_X6 P, gs_X6 P, cs_X6, og_X6 P, ra_X6)
theorem q_X6_f9 (P : Pm) : (cl_X6 P).1 9 = some (7, 0, (.array .int), false) := rfl
theorem q_X6_f15 (P : Pm) : (cl_X6 P).1 15 = some (7, 1, .int, true) := rfl
theorem q_X6_f19 (P : Pm) : (cl_X6 P).1 19 = some (7, 2, .int, true) := rfl
def cl_X6i (P : Pm) : Cl := (fl_X6i, nw_X6, ld_X6 P, gs_X6 P, cs_X6, og_X6 P, ra_X6)
theorem q_X6i_f9 (P : Pm) : (cl_X6i P).1 9 = some (7, 0, (.array .int), true) := rfl
theorem q_X6i_f15 (P : Pm) : (cl_X6i P).1 15 = some (7, 1, .int, true) := rfl
theorem q_X6i_f19 (P : Pm) : (cl_X6i P).1 19 = some (7, 2, .int, true) := rfl
def fl_X7 : Nat → Option (Nat × Nat × FieldType × Bool)
  | 9 => some (8, 0, .int, false)
  | 15 => some (8, 1, .int, false)
  | 18 => some (8, 2, .int, false)
  | 21 => some (8, 3, .int, false)
  | 24 => some (8, 4, .int, false)
  | 27 => some (4, 3, .int, false)
  | 30 => some (4, 0, .int, false)
  | 33 => some (4, 4, .int, false)
  | _ => none
def fl_X7i : Nat → Option (Nat × Nat × FieldType × Bool)
  | 9 => some (8, 0, .int, true)
  | 15 => some (8, 1, .int, true)
  | 18 => some (8, 2, .int, true)
  | 21 => some (8, 3, .int, true)
  | 24 => some (8, 4, .int, true)
  | 27 => some (4, 3, .int, false)
  | 30 => some (4, 0, .int, false)
  | 33 => some (4, 4, .int, false)
  | _ => none
def nw_X7 : Nat → Option (Nat × List Value)
  | _ => none
def ld_X7 (P : Pm) : Nat → Option Value
  | _ => none
def gs_X7 (P : Pm) : Nat → Option Value
  | _ => none
def cs_X7 : Nat → Nat → Bool
  | _, _ => false
def og_X7 (P : Pm) : Nat → Nat → Option Value := fun _ _ => none
def ra_X7 : Nat → Nat
  | _ => 0
def cl_X7 (P : Pm) : Cl := (fl_X7, nw_X7, ld_X7 P, gs_X7 P, cs_X7, og_X7 P, ra_X7)
theorem q_X7_f9 (P : Pm) : (cl_X7 P).1 9 = some (8, 0, .int, false) := rfl
theorem q_X7_f15 (P : Pm) : (cl_X7 P).1 15 = some (8, 1, .int, false) := rfl
theorem q_X7_f18 (P : Pm) : (cl_X7 P).1 18 = some (8, 2, .int, false) := rfl
theorem q_X7_f21 (P : Pm) : (cl_X7 P).1 21 = some (8, 3, .int, false) := rfl
theorem q_X7_f24 (P : Pm) : (cl_X7 P).1 24 = some (8, 4, .int, false) := rfl
theorem q_X7_f27 (P : Pm) : (cl_X7 P).1 27 = some (4, 3, .int, false) := rfl
theorem q_X7_f30 (P : Pm) : (cl_X7 P).1 30 = some (4, 0, .int, false) := rfl
theorem q_X7_f33 (P : Pm) : (cl_X7 P).1 33 = some (4, 4, .int, false) := rfl
def cl_X7i (P : Pm) : Cl := (fl_X7i, nw_X7, ld_X7 P, gs_X7 P, cs_X7, og_X7 P, ra_X7)
theorem q_X7i_f9 (P : Pm) : (cl_X7i P).1 9 = some (8, 0, .int, true) := rfl
theorem q_X7i_f15 (P : Pm) : (cl_X7i P).1 15 = some (8, 1, .int, true) := rfl
theorem q_X7i_f18 (P : Pm) : (cl_X7i P).1 18 = some (8, 2, .int, true) := rfl
theorem q_X7i_f21 (P : Pm) : (cl_X7i P).1 21 = some (8, 3, .int, true) := rfl
theorem q_X7i_f24 (P : Pm) : (cl_X7i P).1 24 = some (8, 4, .int, true) := rfl
theorem q_X7i_f27 (P : Pm) : (cl_X7i P).1 27 = some (4, 3, .int, false) := rfl
theorem q_X7i_f30 (P : Pm) : (cl_X7i P).1 30 = some (4, 0, .int, false) := rfl
theorem q_X7i_f33 (P : Pm) : (cl_X7i P).1 33 = some (4, 4, .int, false) := rfl
def fl_X8 : Nat → Option (Nat × Nat × FieldType × Bool)
  | 10 => some (9, 0, (.object "StormFlags$Tape"), false)
  | 19 => some (9, 1, (.object "java/util/ArrayList"), false)
  | 23 => some (9, 2, (.object "java/util/ArrayList"), false)
  | 26 => some (9, 3, (.object "java/util/ArrayList"), false)
  | 29 => some (9, 4, (.object "java/util/ArrayList"), false)
  | 35 => some (9, 5, (.object "StormFlags$Outlook"), false)
  | 42 => some (9, 6, (.object "StormFlags$RuleBook"), true)
  | 46 => some (9, 7, (.object "StormFlags$RuleBook"), true)
  | 49 => some (9, 8, .int, true)
  | 53 => some (9, 9, .int, true)
  | 56 => some (9, 10, .int, true)
  | 117 => some (4, 5, (.object "StormFlags$Report"), true)
  | 123 => some (4, 4, .int, false)
  | 133 => some (5, 0, .int, false)
  | 158 => some (4, 0, .int, false)
  | 200 => some (8, 0, .int, false)
  | 203 => some (8, 1, .int, false)
  | 206 => some (8, 2, .int, false)
  | 209 => some (8, 3, .int, false)
  | 217 => some (1, 3, .int, true)
  | 220 => some (1, 6, .int, true)
  | 223 => some (1, 7, .int, true)
  | 226 => some (1, 4, .int, true)
  | 254 => some (5, 2, .int, false)
  | 274 => some (4, 3, .int, false)
  | 275 => some (4, 1, .int, false)
  | 278 => some (4, 2, .int, false)
  | 289 => some (3, 0, .int, true)
  | 290 => some (3, 1, .int, true)
  | 293 => some (3, 2, .int, true)
  | 294 => some (3, 3, .int, true)
  | 311 => some (1, 0, (.object "StormFlags$Port"), false)
  | 325 => some (2, 3, .int, false)
  | 328 => some (1, 2, .int, false)
  | 345 => some (2, 0, .int, false)
  | 348 => some (2, 1, .int, false)
  | _ => none
def fl_X8i : Nat → Option (Nat × Nat × FieldType × Bool)
  | 10 => some (9, 0, (.object "StormFlags$Tape"), true)
  | 19 => some (9, 1, (.object "java/util/ArrayList"), true)
  | 23 => some (9, 2, (.object "java/util/ArrayList"), true)
  | 26 => some (9, 3, (.object "java/util/ArrayList"), true)
  | 29 => some (9, 4, (.object "java/util/ArrayList"), true)
  | 35 => some (9, 5, (.object "StormFlags$Outlook"), true)
  | 42 => some (9, 6, (.object "StormFlags$RuleBook"), true)
  | 46 => some (9, 7, (.object "StormFlags$RuleBook"), true)
  | 49 => some (9, 8, .int, true)
  | 53 => some (9, 9, .int, true)
  | 56 => some (9, 10, .int, true)
  | 117 => some (4, 5, (.object "StormFlags$Report"), true)
  | 123 => some (4, 4, .int, false)
  | 133 => some (5, 0, .int, false)
  | 158 => some (4, 0, .int, false)
  | 200 => some (8, 0, .int, false)
  | 203 => some (8, 1, .int, false)
  | 206 => some (8, 2, .int, false)
  | 209 => some (8, 3, .int, false)
  | 217 => some (1, 3, .int, true)
  | 220 => some (1, 6, .int, true)
  | 223 => some (1, 7, .int, true)
  | 226 => some (1, 4, .int, true)
  | 254 => some (5, 2, .int, false)
  | 274 => some (4, 3, .int, false)
  | 275 => some (4, 1, .int, false)
  | 278 => some (4, 2, .int, false)
  | 289 => some (3, 0, .int, true)
  | 290 => some (3, 1, .int, true)
  | 293 => some (3, 2, .int, true)
  | 294 => some (3, 3, .int, true)
  | 311 => some (1, 0, (.object "StormFlags$Port"), false)
  | 325 => some (2, 3, .int, false)
  | 328 => some (1, 2, .int, false)
  | 345 => some (2, 0, .int, false)
  | 348 => some (2, 1, .int, false)
  | _ => none
def nw_X8 : Nat → Option (Nat × List Value)
  | 7 => some (7, [.null, .int 0, .int 0])
  | 16 => some (0, [.int 0, .null, .int 0])
  | 32 => some (3, [.int 0, .int 0, .int 0, .int 0])
  | 39 => some (6, [.null, .null, .null, .null, .int 0])
  | 97 => some (4, [.int 0, .int 0, .int 0, .int 0, .int 0, .null])
  | 121 => some (5, [.int 0, .int 0, .int 0, .int 0, .int 0, .null])
  | 156 => some (2, [.int 0, .int 0, .int 0, .int 0])
  | 166 => some (1, [.null, .int 0, .int 0, .int 0, .int 0, .int 0, .int 0, .int 0])
  | 198 => some (8, [.int 0, .int 0, .int 0, .int 0, .int 0])
  | _ => none
def ld_X8 (P : Pm) : Nat → Option Value
  | _ => none
def gs_X8 (P : Pm) : Nat → Option Value
  | _ => none
def cs_X8 : Nat → Nat → Bool
  | 97, 4 => true
  | 156, 2 => true
  | 166, 1 => true
  | 198, 8 => true
  | _, _ => false
def og_X8 (P : Pm) : Nat → Nat → Option Value := fun _ _ => none
def ra_X8 : Nat → Nat
  | _ => 0
def cl_X8 (P : Pm) : Cl := (fl_X8, nw_X8, ld_X8 P, gs_X8 P, cs_X8, og_X8 P, ra_X8)
theorem q_X8_f10 (P : Pm) : (cl_X8 P).1 10 = some (9, 0, (.object "StormFlags$Tape"), false) := rfl
theorem q_X8_f19 (P : Pm) : (cl_X8 P).1 19 = some (9, 1, (.object "java/util/ArrayList"), false) := rfl
theorem q_X8_f23 (P : Pm) : (cl_X8 P).1 23 = some (9, 2, (.object "java/util/ArrayList"), false) := rfl
theorem q_X8_f26 (P : Pm) : (cl_X8 P).1 26 = some (9, 3, (.object "java/util/ArrayList"), false) := rfl
theorem q_X8_f29 (P : Pm) : (cl_X8 P).1 29 = some (9, 4, (.object "java/util/ArrayList"), false) := rfl
theorem q_X8_f35 (P : Pm) : (cl_X8 P).1 35 = some (9, 5, (.object "StormFlags$Outlook"), false) := rfl
theorem q_X8_f42 (P : Pm) : (cl_X8 P).1 42 = some (9, 6, (.object "StormFlags$RuleBook"), true) := rfl
theorem q_X8_f46 (P : Pm) : (cl_X8 P).1 46 = some (9, 7, (.object "StormFlags$RuleBook"), true) := rfl
theorem q_X8_f49 (P : Pm) : (cl_X8 P).1 49 = some (9, 8, .int, true) := rfl
theorem q_X8_f53 (P : Pm) : (cl_X8 P).1 53 = some (9, 9, .int, true) := rfl
theorem q_X8_f56 (P : Pm) : (cl_X8 P).1 56 = some (9, 10, .int, true) := rfl
theorem q_X8_f117 (P : Pm) : (cl_X8 P).1 117 = some (4, 5, (.object "StormFlags$Report"), true) := rfl
theorem q_X8_f123 (P : Pm) : (cl_X8 P).1 123 = some (4, 4, .int, false) := rfl
theorem q_X8_f133 (P : Pm) : (cl_X8 P).1 133 = some (5, 0, .int, false) := rfl
theorem q_X8_f158 (P : Pm) : (cl_X8 P).1 158 = some (4, 0, .int, false) := rfl
theorem q_X8_f200 (P : Pm) : (cl_X8 P).1 200 = some (8, 0, .int, false) := rfl
theorem q_X8_f203 (P : Pm) : (cl_X8 P).1 203 = some (8, 1, .int, false) := rfl
theorem q_X8_f206 (P : Pm) : (cl_X8 P).1 206 = some (8, 2, .int, false) := rfl
theorem q_X8_f209 (P : Pm) : (cl_X8 P).1 209 = some (8, 3, .int, false) := rfl
theorem q_X8_f217 (P : Pm) : (cl_X8 P).1 217 = some (1, 3, .int, true) := rfl
theorem q_X8_f220 (P : Pm) : (cl_X8 P).1 220 = some (1, 6, .int, true) := rfl
theorem q_X8_f223 (P : Pm) : (cl_X8 P).1 223 = some (1, 7, .int, true) := rfl
theorem q_X8_f226 (P : Pm) : (cl_X8 P).1 226 = some (1, 4, .int, true) := rfl
theorem q_X8_f254 (P : Pm) : (cl_X8 P).1 254 = some (5, 2, .int, false) := rfl
theorem q_X8_f274 (P : Pm) : (cl_X8 P).1 274 = some (4, 3, .int, false) := rfl
theorem q_X8_f275 (P : Pm) : (cl_X8 P).1 275 = some (4, 1, .int, false) := rfl
theorem q_X8_f278 (P : Pm) : (cl_X8 P).1 278 = some (4, 2, .int, false) := rfl
theorem q_X8_f289 (P : Pm) : (cl_X8 P).1 289 = some (3, 0, .int, true) := rfl
theorem q_X8_f290 (P : Pm) : (cl_X8 P).1 290 = some (3, 1, .int, true) := rfl
theorem q_X8_f293 (P : Pm) : (cl_X8 P).1 293 = some (3, 2, .int, true) := rfl
theorem q_X8_f294 (P : Pm) : (cl_X8 P).1 294 = some (3, 3, .int, true) := rfl
theorem q_X8_f311 (P : Pm) : (cl_X8 P).1 311 = some (1, 0, (.object "StormFlags$Port"), false) := rfl
theorem q_X8_f325 (P : Pm) : (cl_X8 P).1 325 = some (2, 3, .int, false) := rfl
theorem q_X8_f328 (P : Pm) : (cl_X8 P).1 328 = some (1, 2, .int, false) := rfl
theorem q_X8_f345 (P : Pm) : (cl_X8 P).1 345 = some (2, 0, .int, false) := rfl
theorem q_X8_f348 (P : Pm) : (cl_X8 P).1 348 = some (2, 1, .int, false) := rfl
theorem q_X8_n7 (P : Pm) : (cl_X8 P).2.1 7 = some (7, [.null, .int 0, .int 0]) := rfl
theorem q_X8_n16 (P : Pm) : (cl_X8 P).2.1 16 = some (0, [.int 0, .null, .int 0]) := rfl
theorem q_X8_n32 (P : Pm) : (cl_X8 P).2.1 32 = some (3, [.int 0, .int 0, .int 0, .int 0]) := rfl
theorem q_X8_n39 (P : Pm) : (cl_X8 P).2.1 39 = some (6, [.null, .null, .null, .null, .int 0]) := rfl
theorem q_X8_n97 (P : Pm) : (cl_X8 P).2.1 97 = some (4, [.int 0, .int 0, .int 0, .int 0, .int 0, .null]) := rfl
theorem q_X8_n121 (P : Pm) : (cl_X8 P).2.1 121 = some (5, [.int 0, .int 0, .int 0, .int 0, .int 0, .null]) := rfl
theorem q_X8_n156 (P : Pm) : (cl_X8 P).2.1 156 = some (2, [.int 0, .int 0, .int 0, .int 0]) := rfl
theorem q_X8_n166 (P : Pm) : (cl_X8 P).2.1 166 = some (1, [.null, .int 0, .int 0, .int 0, .int 0, .int 0, .int 0, .int 0]) := rfl
theorem q_X8_n198 (P : Pm) : (cl_X8 P).2.1 198 = some (8, [.int 0, .int 0, .int 0, .int 0, .int 0]) := rfl
theorem q_X8_c97 (P : Pm) : (cl_X8 P).2.2.2.2.1 97 4 = true := rfl
theorem q_X8_c156 (P : Pm) : (cl_X8 P).2.2.2.2.1 156 2 = true := rfl
theorem q_X8_c166 (P : Pm) : (cl_X8 P).2.2.2.2.1 166 1 = true := rfl
theorem q_X8_c198 (P : Pm) : (cl_X8 P).2.2.2.2.1 198 8 = true := rfl
def cl_X8i (P : Pm) : Cl := (fl_X8i, nw_X8, ld_X8 P, gs_X8 P, cs_X8, og_X8 P, ra_X8)
theorem q_X8i_f10 (P : Pm) : (cl_X8i P).1 10 = some (9, 0, (.object "StormFlags$Tape"), true) := rfl
theorem q_X8i_f19 (P : Pm) : (cl_X8i P).1 19 = some (9, 1, (.object "java/util/ArrayList"), true) := rfl
theorem q_X8i_f23 (P : Pm) : (cl_X8i P).1 23 = some (9, 2, (.object "java/util/ArrayList"), true) := rfl
theorem q_X8i_f26 (P : Pm) : (cl_X8i P).1 26 = some (9, 3, (.object "java/util/ArrayList"), true) := rfl
theorem q_X8i_f29 (P : Pm) : (cl_X8i P).1 29 = some (9, 4, (.object "java/util/ArrayList"), true) := rfl
theorem q_X8i_f35 (P : Pm) : (cl_X8i P).1 35 = some (9, 5, (.object "StormFlags$Outlook"), true) := rfl
theorem q_X8i_f42 (P : Pm) : (cl_X8i P).1 42 = some (9, 6, (.object "StormFlags$RuleBook"), true) := rfl
theorem q_X8i_f46 (P : Pm) : (cl_X8i P).1 46 = some (9, 7, (.object "StormFlags$RuleBook"), true) := rfl
theorem q_X8i_f49 (P : Pm) : (cl_X8i P).1 49 = some (9, 8, .int, true) := rfl
theorem q_X8i_f53 (P : Pm) : (cl_X8i P).1 53 = some (9, 9, .int, true) := rfl
theorem q_X8i_f56 (P : Pm) : (cl_X8i P).1 56 = some (9, 10, .int, true) := rfl
theorem q_X8i_f117 (P : Pm) : (cl_X8i P).1 117 = some (4, 5, (.object "StormFlags$Report"), true) := rfl
theorem q_X8i_f123 (P : Pm) : (cl_X8i P).1 123 = some (4, 4, .int, false) := rfl
theorem q_X8i_f133 (P : Pm) : (cl_X8i P).1 133 = some (5, 0, .int, false) := rfl
theorem q_X8i_f158 (P : Pm) : (cl_X8i P).1 158 = some (4, 0, .int, false) := rfl
theorem q_X8i_f200 (P : Pm) : (cl_X8i P).1 200 = some (8, 0, .int, false) := rfl
theorem q_X8i_f203 (P : Pm) : (cl_X8i P).1 203 = some (8, 1, .int, false) := rfl
theorem q_X8i_f206 (P : Pm) : (cl_X8i P).1 206 = some (8, 2, .int, false) := rfl
theorem q_X8i_f209 (P : Pm) : (cl_X8i P).1 209 = some (8, 3, .int, false) := rfl
theorem q_X8i_f217 (P : Pm) : (cl_X8i P).1 217 = some (1, 3, .int, true) := rfl
theorem q_X8i_f220 (P : Pm) : (cl_X8i P).1 220 = some (1, 6, .int, true) := rfl
theorem q_X8i_f223 (P : Pm) : (cl_X8i P).1 223 = some (1, 7, .int, true) := rfl
theorem q_X8i_f226 (P : Pm) : (cl_X8i P).1 226 = some (1, 4, .int, true) := rfl
theorem q_X8i_f254 (P : Pm) : (cl_X8i P).1 254 = some (5, 2, .int, false) := rfl
theorem q_X8i_f274 (P : Pm) : (cl_X8i P).1 274 = some (4, 3, .int, false) := rfl
theorem q_X8i_f275 (P : Pm) : (cl_X8i P).1 275 = some (4, 1, .int, false) := rfl
theorem q_X8i_f278 (P : Pm) : (cl_X8i P).1 278 = some (4, 2, .int, false) := rfl
theorem q_X8i_f289 (P : Pm) : (cl_X8i P).1 289 = some (3, 0, .int, true) := rfl
theorem q_X8i_f290 (P : Pm) : (cl_X8i P).1 290 = some (3, 1, .int, true) := rfl
theorem q_X8i_f293 (P : Pm) : (cl_X8i P).1 293 = some (3, 2, .int, true) := rfl
theorem q_X8i_f294 (P : Pm) : (cl_X8i P).1 294 = some (3, 3, .int, true) := rfl
theorem q_X8i_f311 (P : Pm) : (cl_X8i P).1 311 = some (1, 0, (.object "StormFlags$Port"), false) := rfl
theorem q_X8i_f325 (P : Pm) : (cl_X8i P).1 325 = some (2, 3, .int, false) := rfl
theorem q_X8i_f328 (P : Pm) : (cl_X8i P).1 328 = some (1, 2, .int, false) := rfl
theorem q_X8i_f345 (P : Pm) : (cl_X8i P).1 345 = some (2, 0, .int, false) := rfl
theorem q_X8i_f348 (P : Pm) : (cl_X8i P).1 348 = some (2, 1, .int, false) := rfl
theorem q_X8i_n7 (P : Pm) : (cl_X8i P).2.1 7 = some (7, [.null, .int 0, .int 0]) := rfl
theorem q_X8i_n16 (P : Pm) : (cl_X8i P).2.1 16 = some (0, [.int 0, .null, .int 0]) := rfl
theorem q_X8i_n32 (P : Pm) : (cl_X8i P).2.1 32 = some (3, [.int 0, .int 0, .int 0, .int 0]) := rfl
theorem q_X8i_n39 (P : Pm) : (cl_X8i P).2.1 39 = some (6, [.null, .null, .null, .null, .int 0]) := rfl
theorem q_X8i_n97 (P : Pm) : (cl_X8i P).2.1 97 = some (4, [.int 0, .int 0, .int 0, .int 0, .int 0, .null]) := rfl
theorem q_X8i_n121 (P : Pm) : (cl_X8i P).2.1 121 = some (5, [.int 0, .int 0, .int 0, .int 0, .int 0, .null]) := rfl
theorem q_X8i_n156 (P : Pm) : (cl_X8i P).2.1 156 = some (2, [.int 0, .int 0, .int 0, .int 0]) := rfl
theorem q_X8i_n166 (P : Pm) : (cl_X8i P).2.1 166 = some (1, [.null, .int 0, .int 0, .int 0, .int 0, .int 0, .int 0, .int 0]) := rfl
theorem q_X8i_n198 (P : Pm) : (cl_X8i P).2.1 198 = some (8, [.int 0, .int 0, .int 0, .int 0, .int 0]) := rfl
theorem q_X8i_c97 (P : Pm) : (cl_X8i P).2.2.2.2.1 97 4 = true := rfl
theorem q_X8i_c156 (P : Pm) : (cl_X8i P).2.2.2.2.1 156 2 = true := rfl
theorem q_X8i_c166 (P : Pm) : (cl_X8i P).2.2.2.2.1 166 1 = true := rfl
theorem q_X8i_c198 (P : Pm) : (cl_X8i P).2.2.2.2.1 198 8 = true := rfl
def fl_X9 : Nat → Option (Nat × Nat × FieldType × Bool)
  | 9 => some (10, 2, (.array .int), false)
  | 13 => some (10, 3, (.array .int), false)
  | 16 => some (10, 4, (.array .int), false)
  | 19 => some (10, 5, (.array .int), false)
  | 22 => some (10, 7, (.array .int), false)
  | 25 => some (10, 8, (.array .int), false)
  | 28 => some (10, 9, (.array .int), false)
  | 31 => some (10, 10, (.array .int), false)
  | 34 => some (10, 11, (.array .int), false)
  | 37 => some (10, 13, (.array .int), false)
  | 40 => some (10, 14, (.array .int), false)
  | 43 => some (10, 15, (.array .int), false)
  | 46 => some (10, 16, (.array .int), false)
  | 49 => some (10, 18, (.array .byte), false)
  | 53 => some (10, 23, .int, true)
  | 57 => some (10, 24, (.array .int), false)
  | 60 => some (10, 25, (.array .int), false)
  | 63 => some (10, 30, (.array .int), false)
  | 66 => some (10, 31, (.array .int), false)
  | 69 => some (10, 32, (.array .int), false)
  | 72 => some (10, 33, (.array .int), false)
  | 75 => some (10, 35, (.array .int), false)
  | 78 => some (10, 0, .int, true)
  | 81 => some (10, 6, .int, true)
  | 92 => some (10, 1, .int, true)
  | 99 => some (10, 12, .int, true)
  | 116 => some (10, 19, .int, true)
  | 119 => some (10, 20, .int, true)
  | 122 => some (10, 21, .int, true)
  | 129 => some (10, 22, .int, true)
  | 174 => some (10, 17, .int, true)
  | 177 => some (10, 27, .int, true)
  | 180 => some (10, 28, .int, true)
  | 183 => some (10, 29, .int, true)
  | 189 => some (10, 26, .int, true)
  | 195 => some (10, 34, .int, true)
  | 198 => some (10, 36, .int, true)
  | _ => none
def fl_X9i : Nat → Option (Nat × Nat × FieldType × Bool)
  | 9 => some (10, 2, (.array .int), true)
  | 13 => some (10, 3, (.array .int), true)
  | 16 => some (10, 4, (.array .int), true)
  | 19 => some (10, 5, (.array .int), true)
  | 22 => some (10, 7, (.array .int), true)
  | 25 => some (10, 8, (.array .int), true)
  | 28 => some (10, 9, (.array .int), true)
  | 31 => some (10, 10, (.array .int), true)
  | 34 => some (10, 11, (.array .int), true)
  | 37 => some (10, 13, (.array .int), true)
  | 40 => some (10, 14, (.array .int), true)
  | 43 => some (10, 15, (.array .int), true)
  | 46 => some (10, 16, (.array .int), true)
  | 49 => some (10, 18, (.array .byte), true)
  | 53 => some (10, 23, .int, true)
  | 57 => some (10, 24, (.array .int), true)
  | 60 => some (10, 25, (.array .int), true)
  | 63 => some (10, 30, (.array .int), true)
  | 66 => some (10, 31, (.array .int), true)
  | 69 => some (10, 32, (.array .int), true)
  | 72 => some (10, 33, (.array .int), true)
  | 75 => some (10, 35, (.array .int), true)
  | 78 => some (10, 0, .int, true)
  | 81 => some (10, 6, .int, true)
  | 92 => some (10, 1, .int, true)
  | 99 => some (10, 12, .int, true)
  | 116 => some (10, 19, .int, true)
  | 119 => some (10, 20, .int, true)
  | 122 => some (10, 21, .int, true)
  | 129 => some (10, 22, .int, true)
  | 174 => some (10, 17, .int, true)
  | 177 => some (10, 27, .int, true)
  | 180 => some (10, 28, .int, true)
  | 183 => some (10, 29, .int, true)
  | 189 => some (10, 26, .int, true)
  | 195 => some (10, 34, .int, true)
  | 198 => some (10, 36, .int, true)
  | _ => none
def nw_X9 : Nat → Option (Nat × List Value)
  | _ => none
def ld_X9 (P : Pm) : Nat → Option Value
  | 148 => some (.ref (P.1 2))
  | 154 => some (.ref (P.1 3))
  | 156 => some (.ref (P.1 4))
  | 158 => some (.ref (P.1 5))
  | 159 => some (.ref (P.1 0))
  | 161 => some (.ref (P.1 1))
  | 166 => some (.ref (P.1 6))
  | _ => none
def gs_X9 (P : Pm) : Nat → Option Value
  | _ => none
def cs_X9 : Nat → Nat → Bool
  | _, _ => false
def og_X9 (P : Pm) : Nat → Nat → Option Value := fun _ _ => none
def ra_X9 : Nat → Nat
  | _ => 0
def cl_X9 (P : Pm) : Cl := (fl_X9, nw_X9, ld_X9 P, gs_X9 P, cs_X9, og_X9 P, ra_X9)
theorem q_X9_f9 (P : Pm) : (cl_X9 P).1 9 = some (10, 2, (.array .int), false) := rfl
theorem q_X9_f13 (P : Pm) : (cl_X9 P).1 13 = some (10, 3, (.array .int), false) := rfl
theorem q_X9_f16 (P : Pm) : (cl_X9 P).1 16 = some (10, 4, (.array .int), false) := rfl
theorem q_X9_f19 (P : Pm) : (cl_X9 P).1 19 = some (10, 5, (.array .int), false) := rfl
theorem q_X9_f22 (P : Pm) : (cl_X9 P).1 22 = some (10, 7, (.array .int), false) := rfl
theorem q_X9_f25 (P : Pm) : (cl_X9 P).1 25 = some (10, 8, (.array .int), false) := rfl
theorem q_X9_f28 (P : Pm) : (cl_X9 P).1 28 = some (10, 9, (.array .int), false) := rfl
theorem q_X9_f31 (P : Pm) : (cl_X9 P).1 31 = some (10, 10, (.array .int), false) := rfl
theorem q_X9_f34 (P : Pm) : (cl_X9 P).1 34 = some (10, 11, (.array .int), false) := rfl
theorem q_X9_f37 (P : Pm) : (cl_X9 P).1 37 = some (10, 13, (.array .int), false) := rfl
theorem q_X9_f40 (P : Pm) : (cl_X9 P).1 40 = some (10, 14, (.array .int), false) := rfl
theorem q_X9_f43 (P : Pm) : (cl_X9 P).1 43 = some (10, 15, (.array .int), false) := rfl
theorem q_X9_f46 (P : Pm) : (cl_X9 P).1 46 = some (10, 16, (.array .int), false) := rfl
theorem q_X9_f49 (P : Pm) : (cl_X9 P).1 49 = some (10, 18, (.array .byte), false) := rfl
theorem q_X9_f53 (P : Pm) : (cl_X9 P).1 53 = some (10, 23, .int, true) := rfl
theorem q_X9_f57 (P : Pm) : (cl_X9 P).1 57 = some (10, 24, (.array .int), false) := rfl
theorem q_X9_f60 (P : Pm) : (cl_X9 P).1 60 = some (10, 25, (.array .int), false) := rfl
theorem q_X9_f63 (P : Pm) : (cl_X9 P).1 63 = some (10, 30, (.array .int), false) := rfl
theorem q_X9_f66 (P : Pm) : (cl_X9 P).1 66 = some (10, 31, (.array .int), false) := rfl
theorem q_X9_f69 (P : Pm) : (cl_X9 P).1 69 = some (10, 32, (.array .int), false) := rfl
theorem q_X9_f72 (P : Pm) : (cl_X9 P).1 72 = some (10, 33, (.array .int), false) := rfl
theorem q_X9_f75 (P : Pm) : (cl_X9 P).1 75 = some (10, 35, (.array .int), false) := rfl
theorem q_X9_f78 (P : Pm) : (cl_X9 P).1 78 = some (10, 0, .int, true) := rfl
theorem q_X9_f81 (P : Pm) : (cl_X9 P).1 81 = some (10, 6, .int, true) := rfl
theorem q_X9_f92 (P : Pm) : (cl_X9 P).1 92 = some (10, 1, .int, true) := rfl
theorem q_X9_f99 (P : Pm) : (cl_X9 P).1 99 = some (10, 12, .int, true) := rfl
theorem q_X9_f116 (P : Pm) : (cl_X9 P).1 116 = some (10, 19, .int, true) := rfl
theorem q_X9_f119 (P : Pm) : (cl_X9 P).1 119 = some (10, 20, .int, true) := rfl
theorem q_X9_f122 (P : Pm) : (cl_X9 P).1 122 = some (10, 21, .int, true) := rfl
theorem q_X9_f129 (P : Pm) : (cl_X9 P).1 129 = some (10, 22, .int, true) := rfl
theorem q_X9_f174 (P : Pm) : (cl_X9 P).1 174 = some (10, 17, .int, true) := rfl
theorem q_X9_f177 (P : Pm) : (cl_X9 P).1 177 = some (10, 27, .int, true) := rfl
theorem q_X9_f180 (P : Pm) : (cl_X9 P).1 180 = some (10, 28, .int, true) := rfl
theorem q_X9_f183 (P : Pm) : (cl_X9 P).1 183 = some (10, 29, .int, true) := rfl
theorem q_X9_f189 (P : Pm) : (cl_X9 P).1 189 = some (10, 26, .int, true) := rfl
theorem q_X9_f195 (P : Pm) : (cl_X9 P).1 195 = some (10, 34, .int, true) := rfl
theorem q_X9_f198 (P : Pm) : (cl_X9 P).1 198 = some (10, 36, .int, true) := rfl
theorem q_X9_l148 (P : Pm) : (cl_X9 P).2.2.1 148 = some (.ref (P.1 2)) := rfl
theorem q_X9_l154 (P : Pm) : (cl_X9 P).2.2.1 154 = some (.ref (P.1 3)) := rfl
theorem q_X9_l156 (P : Pm) : (cl_X9 P).2.2.1 156 = some (.ref (P.1 4)) := rfl
theorem q_X9_l158 (P : Pm) : (cl_X9 P).2.2.1 158 = some (.ref (P.1 5)) := rfl
theorem q_X9_l159 (P : Pm) : (cl_X9 P).2.2.1 159 = some (.ref (P.1 0)) := rfl
theorem q_X9_l161 (P : Pm) : (cl_X9 P).2.2.1 161 = some (.ref (P.1 1)) := rfl
theorem q_X9_l166 (P : Pm) : (cl_X9 P).2.2.1 166 = some (.ref (P.1 6)) := rfl
def cl_X9i (P : Pm) : Cl := (fl_X9i, nw_X9, ld_X9 P, gs_X9 P, cs_X9, og_X9 P, ra_X9)
theorem q_X9i_f9 (P : Pm) : (cl_X9i P).1 9 = some (10, 2, (.array .int), true) := rfl
theorem q_X9i_f13 (P : Pm) : (cl_X9i P).1 13 = some (10, 3, (.array .int), true) := rfl
theorem q_X9i_f16 (P : Pm) : (cl_X9i P).1 16 = some (10, 4, (.array .int), true) := rfl
theorem q_X9i_f19 (P : Pm) : (cl_X9i P).1 19 = some (10, 5, (.array .int), true) := rfl
theorem q_X9i_f22 (P : Pm) : (cl_X9i P).1 22 = some (10, 7, (.array .int), true) := rfl
theorem q_X9i_f25 (P : Pm) : (cl_X9i P).1 25 = some (10, 8, (.array .int), true) := rfl
theorem q_X9i_f28 (P : Pm) : (cl_X9i P).1 28 = some (10, 9, (.array .int), true) := rfl
theorem q_X9i_f31 (P : Pm) : (cl_X9i P).1 31 = some (10, 10, (.array .int), true) := rfl
theorem q_X9i_f34 (P : Pm) : (cl_X9i P).1 34 = some (10, 11, (.array .int), true) := rfl
theorem q_X9i_f37 (P : Pm) : (cl_X9i P).1 37 = some (10, 13, (.array .int), true) := rfl
theorem q_X9i_f40 (P : Pm) : (cl_X9i P).1 40 = some (10, 14, (.array .int), true) := rfl
theorem q_X9i_f43 (P : Pm) : (cl_X9i P).1 43 = some (10, 15, (.array .int), true) := rfl
theorem q_X9i_f46 (P : Pm) : (cl_X9i P).1 46 = some (10, 16, (.array .int), true) := rfl
theorem q_X9i_f49 (P : Pm) : (cl_X9i P).1 49 = some (10, 18, (.array .byte), true) := rfl
theorem q_X9i_f53 (P : Pm) : (cl_X9i P).1 53 = some (10, 23, .int, true) := rfl
theorem q_X9i_f57 (P : Pm) : (cl_X9i P).1 57 = some (10, 24, (.array .int), true) := rfl
theorem q_X9i_f60 (P : Pm) : (cl_X9i P).1 60 = some (10, 25, (.array .int), true) := rfl
theorem q_X9i_f63 (P : Pm) : (cl_X9i P).1 63 = some (10, 30, (.array .int), true) := rfl
theorem q_X9i_f66 (P : Pm) : (cl_X9i P).1 66 = some (10, 31, (.array .int), true) := rfl
theorem q_X9i_f69 (P : Pm) : (cl_X9i P).1 69 = some (10, 32, (.array .int), true) := rfl
theorem q_X9i_f72 (P : Pm) : (cl_X9i P).1 72 = some (10, 33, (.array .int), true) := rfl
theorem q_X9i_f75 (P : Pm) : (cl_X9i P).1 75 = some (10, 35, (.array .int), true) := rfl
theorem q_X9i_f78 (P : Pm) : (cl_X9i P).1 78 = some (10, 0, .int, true) := rfl
theorem q_X9i_f81 (P : Pm) : (cl_X9i P).1 81 = some (10, 6, .int, true) := rfl
theorem q_X9i_f92 (P : Pm) : (cl_X9i P).1 92 = some (10, 1, .int, true) := rfl
theorem q_X9i_f99 (P : Pm) : (cl_X9i P).1 99 = some (10, 12, .int, true) := rfl
theorem q_X9i_f116 (P : Pm) : (cl_X9i P).1 116 = some (10, 19, .int, true) := rfl
theorem q_X9i_f119 (P : Pm) : (cl_X9i P).1 119 = some (10, 20, .int, true) := rfl
theorem q_X9i_f122 (P : Pm) : (cl_X9i P).1 122 = some (10, 21, .int, true) := rfl
theorem q_X9i_f129 (P : Pm) : (cl_X9i P).1 129 = some (10, 22, .int, true) := rfl
theorem q_X9i_f174 (P : Pm) : (cl_X9i P).1 174 = some (10, 17, .int, true) := rfl
theorem q_X9i_f177 (P : Pm) : (cl_X9i P).1 177 = some (10, 27, .int, true) := rfl
theorem q_X9i_f180 (P : Pm) : (cl_X9i P).1 180 = some (10, 28, .int, true) := rfl
theorem q_X9i_f183 (P : Pm) : (cl_X9i P).1 183 = some (10, 29, .int, true) := rfl
theorem q_X9i_f189 (P : Pm) : (cl_X9i P).1 189 = some (10, 26, .int, true) := rfl
theorem q_X9i_f195 (P : Pm) : (cl_X9i P).1 195 = some (10, 34, .int, true) := rfl
theorem q_X9i_f198 (P : Pm) : (cl_X9i P).1 198 = some (10, 36, .int, true) := rfl
theorem q_X9i_l148 (P : Pm) : (cl_X9i P).2.2.1 148 = some (.ref (P.1 2)) := rfl
theorem q_X9i_l154 (P : Pm) : (cl_X9i P).2.2.1 154 = some (.ref (P.1 3)) := rfl
theorem q_X9i_l156 (P : Pm) : (cl_X9i P).2.2.1 156 = some (.ref (P.1 4)) := rfl
theorem q_X9i_l158 (P : Pm) : (cl_X9i P).2.2.1 158 = some (.ref (P.1 5)) := rfl
theorem q_X9i_l159 (P : Pm) : (cl_X9i P).2.2.1 159 = some (.ref (P.1 0)) := rfl
theorem q_X9i_l161 (P : Pm) : (cl_X9i P).2.2.1 161 = some (.ref (P.1 1)) := rfl
theorem q_X9i_l166 (P : Pm) : (cl_X9i P).2.2.1 166 = some (.ref (P.1 6)) := rfl
def fl_Jx4a65c : Nat → Option (Nat × Nat × FieldType × Bool)
  | 9 => some (0, 1, (.array (.object "java/lang/Object")), true)
  | 48 => some (0, 2, .int, true)
  | 63 => some (0, 0, .int, true)
  | _ => none
def fl_Jx4a65ci : Nat → Option (Nat × Nat × FieldType × Bool)
  | 9 => some (0, 1, (.array (.object "java/lang/Object")), true)
  | 48 => some (0, 2, .int, true)
  | 63 => some (0, 0, .int, true)
  | _ => none
def nw_Jx4a65c : Nat → Option (Nat × List Value)
  | _ => none
def ld_Jx4a65c (P : Pm) : Nat → Option Value
  | _ => none
def gs_Jx4a65c (P : Pm) : Nat → Option Value
  | 39 => some (.ref P.2.1.1)
  | _ => none
def cs_Jx4a65c : Nat → Nat → Bool
  | _, _ => false
def og_Jx4a65c (P : Pm) : Nat → Nat → Option Value := fun _ _ => none
def ra_Jx4a65c : Nat → Nat
  | 7 => 1
  | _ => 0
def cl_Jx4a65c (P : Pm) : Cl := (fl_Jx4a65c, nw_Jx4a65c, ld_Jx4a65c P, gs_Jx4a65c P, cs_Jx4a65c, og_Jx4a65c P, ra_Jx4a65c)
theorem q_Jx4a65c_f9 (P : Pm) : (cl_Jx4a65c P).1 9 = some (0, 1, (.array (.object "java/lang/Object")), true) := rfl
theorem q_Jx4a65c_f48 (P : Pm) : (cl_Jx4a65c P).1 48 = some (0, 2, .int, true) := rfl
theorem q_Jx4a65c_f63 (P : Pm) : (cl_Jx4a65c P).1 63 = some (0, 0, .int, true) := rfl
theorem q_Jx4a65c_g39 (P : Pm) : (cl_Jx4a65c P).2.2.2.1 39 = some (.ref P.2.1.1) := rfl
def cl_Jx4a65ci (P : Pm) : Cl := (fl_Jx4a65ci, nw_Jx4a65c, ld_Jx4a65c P, gs_Jx4a65c P, cs_Jx4a65c, og_Jx4a65c P, ra_Jx4a65c)
theorem q_Jx4a65ci_f9 (P : Pm) : (cl_Jx4a65ci P).1 9 = some (0, 1, (.array (.object "java/lang/Object")), true) := rfl
theorem q_Jx4a65ci_f48 (P : Pm) : (cl_Jx4a65ci P).1 48 = some (0, 2, .int, true) := rfl
theorem q_Jx4a65ci_f63 (P : Pm) : (cl_Jx4a65ci P).1 63 = some (0, 0, .int, true) := rfl
theorem q_Jx4a65ci_g39 (P : Pm) : (cl_Jx4a65ci P).2.2.2.1 39 = some (.ref P.2.1.1) := rfl
def fl_Jxc12de : Nat → Option (Nat × Nat × FieldType × Bool)
  | 7 => some (0, 0, .int, true)
  | _ => none
def fl_Jxc12dei : Nat → Option (Nat × Nat × FieldType × Bool)
  | 7 => some (0, 0, .int, true)
  | _ => none
def nw_Jxc12de : Nat → Option (Nat × List Value)
  | _ => none
def ld_Jxc12de (P : Pm) : Nat → Option Value
  | _ => none
def gs_Jxc12de (P : Pm) : Nat → Option Value
  | _ => none
def cs_Jxc12de : Nat → Nat → Bool
  | _, _ => false
def og_Jxc12de (P : Pm) : Nat → Nat → Option Value := fun _ _ => none
def ra_Jxc12de : Nat → Nat
  | _ => 0
def cl_Jxc12de (P : Pm) : Cl := (fl_Jxc12de, nw_Jxc12de, ld_Jxc12de P, gs_Jxc12de P, cs_Jxc12de, og_Jxc12de P, ra_Jxc12de)
theorem q_Jxc12de_f7 (P : Pm) : (cl_Jxc12de P).1 7 = some (0, 0, .int, true) := rfl
def cl_Jxc12dei (P : Pm) : Cl := (fl_Jxc12dei, nw_Jxc12de, ld_Jxc12de P, gs_Jxc12de P, cs_Jxc12de, og_Jxc12de P, ra_Jxc12de)
theorem q_Jxc12dei_f7 (P : Pm) : (cl_Jxc12dei P).1 7 = some (0, 0, .int, true) := rfl
def fl_Jxa1e45 : Nat → Option (Nat × Nat × FieldType × Bool)
  | _ => none
def fl_Jxa1e45i : Nat → Option (Nat × Nat × FieldType × Bool)
  | _ => none
def nw_Jxa1e45 : Nat → Option (Nat × List Value)
  | _ => none
def ld_Jxa1e45 (P : Pm) : Nat → Option Value
  | _ => none
def gs_Jxa1e45 (P : Pm) : Nat → Option Value
  | _ => none
def cs_Jxa1e45 : Nat → Nat → Bool
  | _, _ => false
def og_Jxa1e45 (P : Pm) : Nat → Nat → Option Value := fun _ _ => none
def ra_Jxa1e45 : Nat → Nat
  | _ => 0
def cl_Jxa1e45 (P : Pm) : Cl := (fl_Jxa1e45, nw_Jxa1e45, ld_Jxa1e45 P, gs_Jxa1e45 P, cs_Jxa1e45, og_Jxa1e45 P, ra_Jxa1e45)
def cl_Jxa1e45i (P : Pm) : Cl := (fl_Jxa1e45i, nw_Jxa1e45, ld_Jxa1e45 P, gs_Jxa1e45 P, cs_Jxa1e45, og_Jxa1e45 P, ra_Jxa1e45)
def fl_J0 : Nat → Option (Nat × Nat × FieldType × Bool)
  | _ => none
def nw_J0 : Nat → Option (Nat × List Value)
  | _ => none
def ld_J0 (P : Pm) : Nat → Option Value
  | _ => none
def gs_J0 (P : Pm) : Nat → Option Value
  | 38 => some (.int 1)
  | 1053 => some P.2.2.2.2
  | _ => none
def cs_J0 : Nat → Nat → Bool
  | _, _ => false
def og_J0 (P : Pm) : Nat → Nat → Option Value
  | 9, a => (P.2.2.2.1 a).map .ref
  | 15, a => (P.2.2.2.1 a).map (fun _ => .int 0)
  | _, _ => none
def ra_J0 : Nat → Nat
  | _ => 0
def cl_J0 (P : Pm) : Cl := (fl_J0, nw_J0, ld_J0 P, gs_J0 P, cs_J0, og_J0 P, ra_J0)
theorem q_J0_g38 (P : Pm) : (cl_J0 P).2.2.2.1 38 = some (.int 1) := rfl
theorem q_J0_g1053 (P : Pm) : (cl_J0 P).2.2.2.1 1053 = some P.2.2.2.2 := rfl
def fl_J1 : Nat → Option (Nat × Nat × FieldType × Bool)
  | _ => none
def nw_J1 : Nat → Option (Nat × List Value)
  | _ => none
def ld_J1 (P : Pm) : Nat → Option Value
  | _ => none
def gs_J1 (P : Pm) : Nat → Option Value
  | _ => none
def cs_J1 : Nat → Nat → Bool
  | _, _ => false
def og_J1 (P : Pm) : Nat → Nat → Option Value := fun _ _ => none
def ra_J1 : Nat → Nat
  | _ => 0
def cl_J1 (P : Pm) : Cl := (fl_J1, nw_J1, ld_J1 P, gs_J1 P, cs_J1, og_J1 P, ra_J1)
def fl_J3 : Nat → Option (Nat × Nat × FieldType × Bool)
  | _ => none
def nw_J3 : Nat → Option (Nat × List Value)
  | _ => none
def ld_J3 (P : Pm) : Nat → Option Value
  | _ => none
def gs_J3 (P : Pm) : Nat → Option Value
  | _ => none
def cs_J3 : Nat → Nat → Bool
  | _, _ => false
def og_J3 (P : Pm) : Nat → Nat → Option Value := fun _ _ => none
def ra_J3 : Nat → Nat
  | _ => 0
def cl_J3 (P : Pm) : Cl := (fl_J3, nw_J3, ld_J3 P, gs_J3 P, cs_J3, og_J3 P, ra_J3)
def fl_J7 : Nat → Option (Nat × Nat × FieldType × Bool)
  | _ => none
def nw_J7 : Nat → Option (Nat × List Value)
  | _ => none
def ld_J7 (P : Pm) : Nat → Option Value
  | 110 => some (.ref P.2.2.1)
  | _ => none
def gs_J7 (P : Pm) : Nat → Option Value
  | _ => none
def cs_J7 : Nat → Nat → Bool
  | _, _ => false
def og_J7 (P : Pm) : Nat → Nat → Option Value := fun _ _ => none
def ra_J7 : Nat → Nat
  | 2 => 1
  | _ => 0
def cl_J7 (P : Pm) : Cl := (fl_J7, nw_J7, ld_J7 P, gs_J7 P, cs_J7, og_J7 P, ra_J7)
theorem q_J7_l110 (P : Pm) : (cl_J7 P).2.2.1 110 = some (.ref P.2.2.1) := rfl
def fl_J8 : Nat → Option (Nat × Nat × FieldType × Bool)
  | _ => none
def nw_J8 : Nat → Option (Nat × List Value)
  | _ => none
def ld_J8 (P : Pm) : Nat → Option Value
  | 200 => some (.int 2147483639)
  | _ => none
def gs_J8 (P : Pm) : Nat → Option Value
  | _ => none
def cs_J8 : Nat → Nat → Bool
  | _, _ => false
def og_J8 (P : Pm) : Nat → Nat → Option Value := fun _ _ => none
def ra_J8 : Nat → Nat
  | _ => 0
def cl_J8 (P : Pm) : Cl := (fl_J8, nw_J8, ld_J8 P, gs_J8 P, cs_J8, og_J8 P, ra_J8)
theorem q_J8_l200 (P : Pm) : (cl_J8 P).2.2.1 200 = some (.int 2147483639) := rfl
def fl_J9 : Nat → Option (Nat × Nat × FieldType × Bool)
  | _ => none
def nw_J9 : Nat → Option (Nat × List Value)
  | _ => none
def ld_J9 (P : Pm) : Nat → Option Value
  | _ => none
def gs_J9 (P : Pm) : Nat → Option Value
  | _ => none
def cs_J9 : Nat → Nat → Bool
  | _, _ => false
def og_J9 (P : Pm) : Nat → Nat → Option Value := fun _ _ => none
def ra_J9 : Nat → Nat
  | _ => 0
def cl_J9 (P : Pm) : Cl := (fl_J9, nw_J9, ld_J9 P, gs_J9 P, cs_J9, og_J9 P, ra_J9)
def fl_J15 : Nat → Option (Nat × Nat × FieldType × Bool)
  | _ => none
def nw_J15 : Nat → Option (Nat × List Value)
  | _ => none
def ld_J15 (P : Pm) : Nat → Option Value
  | _ => none
def gs_J15 (P : Pm) : Nat → Option Value
  | _ => none
def cs_J15 : Nat → Nat → Bool
  | _, _ => false
def og_J15 (P : Pm) : Nat → Nat → Option Value := fun _ _ => none
def ra_J15 : Nat → Nat
  | _ => 0
def cl_J15 (P : Pm) : Cl := (fl_J15, nw_J15, ld_J15 P, gs_J15 P, cs_J15, og_J15 P, ra_J15)
def fl_L : Nat → Option (Nat × Nat × FieldType × Bool)
  | _ => none
def nw_L : Nat → Option (Nat × List Value)
  | 8 => some (9, [.null, .null, .null, .null, .null, .null, .null, .null, .int 0, .int 0, .int 0])
  | 63 => some (10, [.int 0, .int 0, .null, .null, .null, .null, .int 0, .null, .null, .null, .null, .null, .int 0, .null, .null, .null, .null, .int 0, .null, .int 0, .int 0, .int 0, .int 0, .int 0, .null, .null, .int 0, .int 0, .int 0, .int 0, .null, .null, .null, .null, .int 0, .null, .int 0])
  | _ => none
def ld_L (P : Pm) : Nat → Option Value
  | _ => none
def gs_L (P : Pm) : Nat → Option Value
  | _ => none
def cs_L : Nat → Nat → Bool
  | _, _ => false
def og_L (P : Pm) : Nat → Nat → Option Value := fun _ _ => none
def ra_L : Nat → Nat
  | _ => 0
def cl_L (P : Pm) : Cl := (fl_L, nw_L, ld_L P, gs_L P, cs_L, og_L P, ra_L)
theorem q_L_n8 (P : Pm) : (cl_L P).2.1 8 = some (9, [.null, .null, .null, .null, .null, .null, .null, .null, .int 0, .int 0, .int 0]) := rfl
theorem q_L_n63 (P : Pm) : (cl_L P).2.1 63 = some (10, [.int 0, .int 0, .null, .null, .null, .null, .int 0, .null, .null, .null, .null, .null, .int 0, .null, .null, .null, .null, .int 0, .null, .int 0, .int 0, .int 0, .int 0, .int 0, .null, .null, .int 0, .int 0, .int 0, .int 0, .null, .null, .null, .null, .int 0, .null, .int 0]) := rfl
