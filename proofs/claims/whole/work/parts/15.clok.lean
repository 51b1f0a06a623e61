/-! ===== the pools are as the tables say (by program) ===== -/
theorem u_sm {args : Array Value} {s : State} {C D n d : String} (h : (Cond.sameField C D n d).before args s = true) : ∀ x, s.fieldFound? D n d = some x → s.fieldFound? C n d = some x := fun x hx => u_same h x hx
section CK
variable {l : Launch} {s0 s : State} {D : va_G} {cy : Nat → ClassId} {P : Pm} {a0 args : Array Value} {A : Nat → Prop}
theorem tail_mk (hE : E0 l s0 D cy P a0) (hW : s0.WarmedH s.vm) : (∀ ci, obj ci = true → ∃ (C : String) (T : u_T) (N : Nat), vwCl[ci]? = some (C, T, N) ∧ va_Nw (.castable C "java/lang/Object") s) ∧
    (Cond.arrayClass .int).before args s = true ∧ (Cond.arrayClass .byte).before args s = true ∧ (Cond.arrayClass .long).before args s = true ∧ va_AO "java/lang/Object" s ∧ va_AOA .int s := by
  refine ⟨fun ci h => ?_, wd hE hW tw_54 rfl, wd hE hW tw_304 rfl, wd hE hW tw_1195 rfl, ?_, ?_⟩
  · unfold obj at h
    split at h
    · exact ⟨_, _, _, rfl, wd (args := #[]) hE hW tw_1209 rfl⟩
    · exact ⟨_, _, _, rfl, wd (args := #[]) hE hW tw_1208 rfl⟩
    · exact ⟨_, _, _, rfl, wd (args := #[]) hE hW tw_1205 rfl⟩
    · exact ⟨_, _, _, rfl, wd (args := #[]) hE hW tw_1210 rfl⟩
    · cases h
  · exact va_AO.moved hW.alike (va_AO.of (hE.1 _ tw_408))
  · have h1 : (Cond.arrayOver (.array .int)).before a0 s0 = true := hE.1 _ tw_111
    rw [← Cond.arrayOver_setVmC hW.alike] at h1
    exact h1
theorem clok_X0 (hE : E0 l s0 D cy P a0) (mname : String) : EnvC l s0 D cy P.2.1 RX0 mname (cl_X0 P) obj := by
  refine ⟨hE.2.1, hE.2.2.2.2.1.1, hE.2.2.2.2.1.2, hE.2.2.2.2.2.1, fun s args meth A hW hold hsz hA hnm => ⟨?_, ?_, ?_, ?_, ?_, ?_, ?_, ?_, tail_mk hE hW⟩⟩
  · intro j ci k ty w h
    change fl_X0 j = some (ci, k, ty, w) at h
    unfold fl_X0 at h
    split at h
    · cases h; exact ⟨fl_mk hE hW rfl (by decide) us_X0 ug_X0 tw_679, fun h => by cases h⟩
    · cases h; exact ⟨fl_mk hE hW rfl (by decide) us_X0 ug_X0 tw_681, fun h => by cases h⟩
    · cases h; exact ⟨fl_mk hE hW rfl (by decide) us_X0 ug_X0 tw_682, fun h => by cases h⟩
    · cases h; exact ⟨fl_mk hE hW rfl (by decide) us_X0 ug_X0 tw_684, fun _ => fp_mk hE hW rfl (by decide) us_X0 ug_X0 tyX0_ok nmX0 rfl rfl tw_684⟩
    · cases h; exact ⟨fl_mk hE hW rfl (by decide) us_X0 ug_X0 tw_686, fun _ => fp_mk hE hW rfl (by decide) us_X0 ug_X0 tyX0_ok nmX0 rfl rfl tw_686⟩
    · cases h; exact ⟨fl_mk hE hW rfl (by decide) us_X0 ug_X0 tw_688, fun _ => fp_mk hE hW rfl (by decide) us_X0 ug_X0 tyX0_ok nmX0 rfl rfl tw_688⟩
    · cases h; exact ⟨fl_mk hE hW rfl (by decide) us_X0 ug_X0 tw_689, fun _ => fp_mk hE hW rfl (by decide) us_X0 ug_X0 tyX0_ok nmX0 rfl rfl tw_689⟩
    · cases h; exact ⟨fl_mk hE hW rfl (by decide) us_X0 ug_X0 tw_691, fun _ => fp_mk hE hW rfl (by decide) us_X0 ug_X0 tyX0_ok nmX0 rfl rfl tw_691⟩
    · cases h
  · intro j ci fs h
    cases h
  · intro j v h
    cases h
  · intro j v h
    cases h
  · intro j ci h
    cases h
  · intro j a v h
    cases h
  · intro j h
    change (0 : Nat) = 1 at h; cases h
  · intro j h
    change (0 : Nat) = 2 at h; cases h
theorem clok_X0i (hE : E0 l s0 D cy P a0) : EnvC l s0 D cy P.2.1 RX0 "<init>" (cl_X0i P) obj := by
  refine ⟨hE.2.1, hE.2.2.2.2.1.1, hE.2.2.2.2.1.2, hE.2.2.2.2.2.1, fun s args meth A hW hold hsz hA hnm => ⟨?_, ?_, ?_, ?_, ?_, ?_, ?_, ?_, tail_mk hE hW⟩⟩
  · intro j ci k ty w h
    change fl_X0i j = some (ci, k, ty, w) at h
    unfold fl_X0i at h
    split at h
    · cases h; exact ⟨fl_mk hE hW rfl (by decide) us_X0 ug_X0 tw_679, fun _ => fp_mkF hE hW hnm rfl (by decide) us_X0 ug_X0 tyX0_ok nmX0 rfl rfl rfl tw_679⟩
    · cases h; exact ⟨fl_mk hE hW rfl (by decide) us_X0 ug_X0 tw_681, fun _ => fp_mkF hE hW hnm rfl (by decide) us_X0 ug_X0 tyX0_ok nmX0 rfl rfl rfl tw_681⟩
    · cases h; exact ⟨fl_mk hE hW rfl (by decide) us_X0 ug_X0 tw_682, fun _ => fp_mkF hE hW hnm rfl (by decide) us_X0 ug_X0 tyX0_ok nmX0 rfl rfl rfl tw_682⟩
    · cases h; exact ⟨fl_mk hE hW rfl (by decide) us_X0 ug_X0 tw_684, fun _ => fp_mk hE hW rfl (by decide) us_X0 ug_X0 tyX0_ok nmX0 rfl rfl tw_684⟩
    · cases h; exact ⟨fl_mk hE hW rfl (by decide) us_X0 ug_X0 tw_686, fun _ => fp_mk hE hW rfl (by decide) us_X0 ug_X0 tyX0_ok nmX0 rfl rfl tw_686⟩
    · cases h; exact ⟨fl_mk hE hW rfl (by decide) us_X0 ug_X0 tw_688, fun _ => fp_mk hE hW rfl (by decide) us_X0 ug_X0 tyX0_ok nmX0 rfl rfl tw_688⟩
    · cases h; exact ⟨fl_mk hE hW rfl (by decide) us_X0 ug_X0 tw_689, fun _ => fp_mk hE hW rfl (by decide) us_X0 ug_X0 tyX0_ok nmX0 rfl rfl tw_689⟩
    · cases h; exact ⟨fl_mk hE hW rfl (by decide) us_X0 ug_X0 tw_691, fun _ => fp_mk hE hW rfl (by decide) us_X0 ug_X0 tyX0_ok nmX0 rfl rfl tw_691⟩
    · cases h
  · intro j ci fs h
    cases h
  · intro j v h
    cases h
  · intro j v h
    cases h
  · intro j ci h
    cases h
  · intro j a v h
    cases h
  · intro j h
    change (0 : Nat) = 1 at h; cases h
  · intro j h
    change (0 : Nat) = 2 at h; cases h
theorem clok_X1 (hE : E0 l s0 D cy P a0) (mname : String) : EnvC l s0 D cy P.2.1 RX1 mname (cl_X1 P) obj := by
  refine ⟨hE.2.1, hE.2.2.2.2.1.1, hE.2.2.2.2.1.2, hE.2.2.2.2.2.1, fun s args meth A hW hold hsz hA hnm => ⟨?_, ?_, ?_, ?_, ?_, ?_, ?_, ?_, tail_mk hE hW⟩⟩
  · intro j ci k ty w h
    change fl_X1 j = some (ci, k, ty, w) at h
    unfold fl_X1 at h
    split at h
    · cases h; exact ⟨fl_mk hE hW rfl (by decide) us_X1 ug_X1 tw_649, fun h => by cases h⟩
    · cases h; exact ⟨fl_mk hE hW rfl (by decide) us_X1 ug_X1 tw_651, fun h => by cases h⟩
    · cases h; exact ⟨fl_mk hE hW rfl (by decide) us_X1 ug_X1 tw_653, fun h => by cases h⟩
    · cases h; exact ⟨fl_mk hE hW rfl (by decide) us_X1 ug_X1 tw_654, fun h => by cases h⟩
    · cases h; exact ⟨fl_mkN hE hW rfl (by decide) us_X3 ug_X3 tw_328, fun h => by cases h⟩
    · cases h
  · intro j ci fs h
    cases h
  · intro j v h
    cases h
  · intro j v h
    cases h
  · intro j ci h
    cases h
  · intro j a v h
    cases h
  · intro j h
    change (0 : Nat) = 1 at h; cases h
  · intro j h
    change (0 : Nat) = 2 at h; cases h
theorem clok_X1i (hE : E0 l s0 D cy P a0) : EnvC l s0 D cy P.2.1 RX1 "<init>" (cl_X1i P) obj := by
  refine ⟨hE.2.1, hE.2.2.2.2.1.1, hE.2.2.2.2.1.2, hE.2.2.2.2.2.1, fun s args meth A hW hold hsz hA hnm => ⟨?_, ?_, ?_, ?_, ?_, ?_, ?_, ?_, tail_mk hE hW⟩⟩
  · intro j ci k ty w h
    change fl_X1i j = some (ci, k, ty, w) at h
    unfold fl_X1i at h
    split at h
    · cases h; exact ⟨fl_mk hE hW rfl (by decide) us_X1 ug_X1 tw_649, fun _ => fp_mkF hE hW hnm rfl (by decide) us_X1 ug_X1 tyX1_ok nmX1 rfl rfl rfl tw_649⟩
    · cases h; exact ⟨fl_mk hE hW rfl (by decide) us_X1 ug_X1 tw_651, fun _ => fp_mkF hE hW hnm rfl (by decide) us_X1 ug_X1 tyX1_ok nmX1 rfl rfl rfl tw_651⟩
    · cases h; exact ⟨fl_mk hE hW rfl (by decide) us_X1 ug_X1 tw_653, fun _ => fp_mkF hE hW hnm rfl (by decide) us_X1 ug_X1 tyX1_ok nmX1 rfl rfl rfl tw_653⟩
    · cases h; exact ⟨fl_mk hE hW rfl (by decide) us_X1 ug_X1 tw_654, fun _ => fp_mkF hE hW hnm rfl (by decide) us_X1 ug_X1 tyX1_ok nmX1 rfl rfl rfl tw_654⟩
    · cases h; exact ⟨fl_mkN hE hW rfl (by decide) us_X3 ug_X3 tw_328, fun h => by cases h⟩
    · cases h
  · intro j ci fs h
    cases h
  · intro j v h
    cases h
  · intro j v h
    cases h
  · intro j ci h
    cases h
  · intro j a v h
    cases h
  · intro j h
    change (0 : Nat) = 1 at h; cases h
  · intro j h
    change (0 : Nat) = 2 at h; cases h
theorem clok_X2 (hE : E0 l s0 D cy P a0) (mname : String) : EnvC l s0 D cy P.2.1 RX2 mname (cl_X2 P) obj := by
  refine ⟨hE.2.1, hE.2.2.2.2.1.1, hE.2.2.2.2.1.2, hE.2.2.2.2.2.1, fun s args meth A hW hold hsz hA hnm => ⟨?_, ?_, ?_, ?_, ?_, ?_, ?_, ?_, tail_mk hE hW⟩⟩
  · intro j ci k ty w h
    change fl_X2 j = some (ci, k, ty, w) at h
    unfold fl_X2 at h
    split at h
    · cases h; exact ⟨fl_mk hE hW rfl (by decide) us_X2 ug_X2 tw_87, fun _ => fp_mk hE hW rfl (by decide) us_X2 ug_X2 tyX2_ok nmX2 rfl rfl tw_87⟩
    · cases h; exact ⟨fl_mk hE hW rfl (by decide) us_X2 ug_X2 tw_89, fun _ => fp_mk hE hW rfl (by decide) us_X2 ug_X2 tyX2_ok nmX2 rfl rfl tw_89⟩
    · cases h; exact ⟨fl_mk hE hW rfl (by decide) us_X2 ug_X2 tw_91, fun _ => fp_mk hE hW rfl (by decide) us_X2 ug_X2 tyX2_ok nmX2 rfl rfl tw_91⟩
    · cases h; exact ⟨fl_mk hE hW rfl (by decide) us_X2 ug_X2 tw_93, fun _ => fp_mk hE hW rfl (by decide) us_X2 ug_X2 tyX2_ok nmX2 rfl rfl tw_93⟩
    · cases h
  · intro j ci fs h
    cases h
  · intro j v h
    cases h
  · intro j v h
    cases h
  · intro j ci h
    cases h
  · intro j a v h
    cases h
  · intro j h
    change (0 : Nat) = 1 at h; cases h
  · intro j h
    change (0 : Nat) = 2 at h; cases h
theorem clok_X2i (hE : E0 l s0 D cy P a0) : EnvC l s0 D cy P.2.1 RX2 "<init>" (cl_X2i P) obj := by
  refine ⟨hE.2.1, hE.2.2.2.2.1.1, hE.2.2.2.2.1.2, hE.2.2.2.2.2.1, fun s args meth A hW hold hsz hA hnm => ⟨?_, ?_, ?_, ?_, ?_, ?_, ?_, ?_, tail_mk hE hW⟩⟩
  · intro j ci k ty w h
    change fl_X2i j = some (ci, k, ty, w) at h
    unfold fl_X2i at h
    split at h
    · cases h; exact ⟨fl_mk hE hW rfl (by decide) us_X2 ug_X2 tw_87, fun _ => fp_mk hE hW rfl (by decide) us_X2 ug_X2 tyX2_ok nmX2 rfl rfl tw_87⟩
    · cases h; exact ⟨fl_mk hE hW rfl (by decide) us_X2 ug_X2 tw_89, fun _ => fp_mk hE hW rfl (by decide) us_X2 ug_X2 tyX2_ok nmX2 rfl rfl tw_89⟩
    · cases h; exact ⟨fl_mk hE hW rfl (by decide) us_X2 ug_X2 tw_91, fun _ => fp_mk hE hW rfl (by decide) us_X2 ug_X2 tyX2_ok nmX2 rfl rfl tw_91⟩
    · cases h; exact ⟨fl_mk hE hW rfl (by decide) us_X2 ug_X2 tw_93, fun _ => fp_mk hE hW rfl (by decide) us_X2 ug_X2 tyX2_ok nmX2 rfl rfl tw_93⟩
    · cases h
  · intro j ci fs h
    cases h
  · intro j v h
    cases h
  · intro j v h
    cases h
  · intro j ci h
    cases h
  · intro j a v h
    cases h
  · intro j h
    change (0 : Nat) = 1 at h; cases h
  · intro j h
    change (0 : Nat) = 2 at h; cases h
theorem clok_X3 (hE : E0 l s0 D cy P a0) (mname : String) : EnvC l s0 D cy P.2.1 RX3 mname (cl_X3 P) obj := by
  refine ⟨hE.2.1, hE.2.2.2.2.1.1, hE.2.2.2.2.1.2, hE.2.2.2.2.2.1, fun s args meth A hW hold hsz hA hnm => ⟨?_, ?_, ?_, ?_, ?_, ?_, ?_, ?_, tail_mk hE hW⟩⟩
  · intro j ci k ty w h
    change fl_X3 j = some (ci, k, ty, w) at h
    unfold fl_X3 at h
    split at h
    · cases h; exact ⟨fl_mk hE hW rfl (by decide) us_X3 ug_X3 tw_327, fun h => by cases h⟩
    · cases h; exact ⟨fl_mk hE hW rfl (by decide) us_X3 ug_X3 tw_331, fun h => by cases h⟩
    · cases h; exact ⟨fl_mk hE hW rfl (by decide) us_X3 ug_X3 tw_333, fun h => by cases h⟩
    · cases h; exact ⟨fl_mk hE hW rfl (by decide) us_X3 ug_X3 tw_335, fun h => by cases h⟩
    · cases h; exact ⟨fl_mk hE hW rfl (by decide) us_X3 ug_X3 tw_338, fun h => by cases h⟩
    · cases h; exact ⟨fl_mk hE hW rfl (by decide) us_X3 ug_X3 tw_341, fun _ => fp_mk hE hW rfl (by decide) us_X3 ug_X3 tyX3_ok nmX3 rfl rfl tw_341⟩
    · cases h; exact ⟨fl_mkN hE hW rfl (by decide) us_X4 ug_X4 tw_461, fun h => by cases h⟩
    · cases h; exact ⟨fl_mkN hE hW rfl (by decide) us_X4 ug_X4 tw_467, fun h => by cases h⟩
    · cases h; exact ⟨fl_mkN hE hW rfl (by decide) us_X4 ug_X4 tw_469, fun h => by cases h⟩
    · cases h; exact ⟨fl_mkN hE hW rfl (by decide) us_X4 ug_X4 tw_465, fun h => by cases h⟩
    · cases h
  · intro j ci fs h
    cases h
  · intro j v h
    cases h
  · intro j v h
    cases h
  · intro j ci h
    cases h
  · intro j a v h
    cases h
  · intro j h
    change (0 : Nat) = 1 at h; cases h
  · intro j h
    change (0 : Nat) = 2 at h; cases h
theorem clok_X3i (hE : E0 l s0 D cy P a0) : EnvC l s0 D cy P.2.1 RX3 "<init>" (cl_X3i P) obj := by
  refine ⟨hE.2.1, hE.2.2.2.2.1.1, hE.2.2.2.2.1.2, hE.2.2.2.2.2.1, fun s args meth A hW hold hsz hA hnm => ⟨?_, ?_, ?_, ?_, ?_, ?_, ?_, ?_, tail_mk hE hW⟩⟩
  · intro j ci k ty w h
    change fl_X3i j = some (ci, k, ty, w) at h
    unfold fl_X3i at h
    split at h
    · cases h; exact ⟨fl_mk hE hW rfl (by decide) us_X3 ug_X3 tw_327, fun _ => fp_mkF hE hW hnm rfl (by decide) us_X3 ug_X3 tyX3_ok nmX3 rfl rfl rfl tw_327⟩
    · cases h; exact ⟨fl_mk hE hW rfl (by decide) us_X3 ug_X3 tw_331, fun _ => fp_mkF hE hW hnm rfl (by decide) us_X3 ug_X3 tyX3_ok nmX3 rfl rfl rfl tw_331⟩
    · cases h; exact ⟨fl_mk hE hW rfl (by decide) us_X3 ug_X3 tw_333, fun _ => fp_mkF hE hW hnm rfl (by decide) us_X3 ug_X3 tyX3_ok nmX3 rfl rfl rfl tw_333⟩
    · cases h; exact ⟨fl_mk hE hW rfl (by decide) us_X3 ug_X3 tw_335, fun _ => fp_mkF hE hW hnm rfl (by decide) us_X3 ug_X3 tyX3_ok nmX3 rfl rfl rfl tw_335⟩
    · cases h; exact ⟨fl_mk hE hW rfl (by decide) us_X3 ug_X3 tw_338, fun _ => fp_mkF hE hW hnm rfl (by decide) us_X3 ug_X3 tyX3_ok nmX3 rfl rfl rfl tw_338⟩
    · cases h; exact ⟨fl_mk hE hW rfl (by decide) us_X3 ug_X3 tw_341, fun _ => fp_mk hE hW rfl (by decide) us_X3 ug_X3 tyX3_ok nmX3 rfl rfl tw_341⟩
    · cases h; exact ⟨fl_mkN hE hW rfl (by decide) us_X4 ug_X4 tw_461, fun h => by cases h⟩
    · cases h; exact ⟨fl_mkN hE hW rfl (by decide) us_X4 ug_X4 tw_467, fun h => by cases h⟩
    · cases h; exact ⟨fl_mkN hE hW rfl (by decide) us_X4 ug_X4 tw_469, fun h => by cases h⟩
    · cases h; exact ⟨fl_mkN hE hW rfl (by decide) us_X4 ug_X4 tw_465, fun h => by cases h⟩
    · cases h
  · intro j ci fs h
    cases h
  · intro j v h
    cases h
  · intro j v h
    cases h
  · intro j ci h
    cases h
  · intro j a v h
    cases h
  · intro j h
    change (0 : Nat) = 1 at h; cases h
  · intro j h
    change (0 : Nat) = 2 at h; cases h
theorem clok_X4 (hE : E0 l s0 D cy P a0) (mname : String) : EnvC l s0 D cy P.2.1 RX4 mname (cl_X4 P) obj := by
  refine ⟨hE.2.1, hE.2.2.2.2.1.1, hE.2.2.2.2.1.2, hE.2.2.2.2.2.1, fun s args meth A hW hold hsz hA hnm => ⟨?_, ?_, ?_, ?_, ?_, ?_, ?_, ?_, tail_mk hE hW⟩⟩
  · intro j ci k ty w h
    change fl_X4 j = some (ci, k, ty, w) at h
    unfold fl_X4 at h
    split at h
    · cases h; exact ⟨fl_mk hE hW rfl (by decide) us_X4 ug_X4 tw_458, fun h => by cases h⟩
    · cases h; exact ⟨fl_mk hE hW rfl (by decide) us_X4 ug_X4 tw_460, fun h => by cases h⟩
    · cases h; exact ⟨fl_mk hE hW rfl (by decide) us_X4 ug_X4 tw_462, fun h => by cases h⟩
    · cases h; exact ⟨fl_mk hE hW rfl (by decide) us_X4 ug_X4 tw_464, fun h => by cases h⟩
    · cases h; exact ⟨fl_mk hE hW rfl (by decide) us_X4 ug_X4 tw_466, fun h => by cases h⟩
    · cases h; exact ⟨fl_mk hE hW rfl (by decide) us_X4 ug_X4 tw_468, fun h => by cases h⟩
    · cases h
  · intro j ci fs h
    cases h
  · intro j v h
    cases h
  · intro j v h
    cases h
  · intro j ci h
    cases h
  · intro j a v h
    cases h
  · intro j h
    change (0 : Nat) = 1 at h; cases h
  · intro j h
    change (0 : Nat) = 2 at h; cases h
theorem clok_X4i (hE : E0 l s0 D cy P a0) : EnvC l s0 D cy P.2.1 RX4 "<init>" (cl_X4i P) obj := by
  refine ⟨hE.2.1, hE.2.2.2.2.1.1, hE.2.2.2.2.1.2, hE.2.2.2.2.2.1, fun s args meth A hW hold hsz hA hnm => ⟨?_, ?_, ?_, ?_, ?_, ?_, ?_, ?_, tail_mk hE hW⟩⟩
  · intro j ci k ty w h
    change fl_X4i j = some (ci, k, ty, w) at h
    unfold fl_X4i at h
    split at h
    · cases h; exact ⟨fl_mk hE hW rfl (by decide) us_X4 ug_X4 tw_458, fun _ => fp_mkF hE hW hnm rfl (by decide) us_X4 ug_X4 tyX4_ok nmX4 rfl rfl rfl tw_458⟩
    · cases h; exact ⟨fl_mk hE hW rfl (by decide) us_X4 ug_X4 tw_460, fun _ => fp_mkF hE hW hnm rfl (by decide) us_X4 ug_X4 tyX4_ok nmX4 rfl rfl rfl tw_460⟩
    · cases h; exact ⟨fl_mk hE hW rfl (by decide) us_X4 ug_X4 tw_462, fun _ => fp_mkF hE hW hnm rfl (by decide) us_X4 ug_X4 tyX4_ok nmX4 rfl rfl rfl tw_462⟩
    · cases h; exact ⟨fl_mk hE hW rfl (by decide) us_X4 ug_X4 tw_464, fun _ => fp_mkF hE hW hnm rfl (by decide) us_X4 ug_X4 tyX4_ok nmX4 rfl rfl rfl tw_464⟩
    · cases h; exact ⟨fl_mk hE hW rfl (by decide) us_X4 ug_X4 tw_466, fun _ => fp_mkF hE hW hnm rfl (by decide) us_X4 ug_X4 tyX4_ok nmX4 rfl rfl rfl tw_466⟩
    · cases h; exact ⟨fl_mk hE hW rfl (by decide) us_X4 ug_X4 tw_468, fun _ => fp_mkF hE hW hnm rfl (by decide) us_X4 ug_X4 tyX4_ok nmX4 rfl rfl rfl tw_468⟩
    · cases h
  · intro j ci fs h
    cases h
  · intro j v h
    cases h
  · intro j v h
    cases h
  · intro j ci h
    cases h
  · intro j a v h
    cases h
  · intro j h
    change (0 : Nat) = 1 at h; cases h
  · intro j h
    change (0 : Nat) = 2 at h; cases h
theorem clok_X5 (hE : E0 l s0 D cy P a0) (mname : String) : EnvC l s0 D cy P.2.1 RX5 mname (cl_X5 P) obj := by
  refine ⟨hE.2.1, hE.2.2.2.2.1.1, hE.2.2.2.2.1.2, hE.2.2.2.2.2.1, fun s args meth A hW hold hsz hA hnm => ⟨?_, ?_, ?_, ?_, ?_, ?_, ?_, ?_, tail_mk hE hW⟩⟩
  · intro j ci k ty w h
    change fl_X5 j = some (ci, k, ty, w) at h
    unfold fl_X5 at h
    split at h
    · cases h; exact ⟨fl_mk hE hW rfl (by decide) us_X5 ug_X5 tw_112, fun h => by cases h⟩
    · cases h; exact ⟨fl_mk hE hW rfl (by decide) us_X5 ug_X5 tw_113, fun h => by cases h⟩
    · cases h; exact ⟨fl_mk hE hW rfl (by decide) us_X5 ug_X5 tw_114, fun h => by cases h⟩
    · cases h; exact ⟨fl_mk hE hW rfl (by decide) us_X5 ug_X5 tw_115, fun h => by cases h⟩
    · cases h; exact ⟨fl_mk hE hW rfl (by decide) us_X5 ug_X5 tw_116, fun _ => fp_mk hE hW rfl (by decide) us_X5 ug_X5 tyX5_ok nmX5 rfl rfl tw_116⟩
    · cases h
  · intro j ci fs h
    cases h
  · intro j v h
    change ld_X5 P j = some v at h
    unfold ld_X5 at h
    split at h
    · cases h; exact Or.inl ⟨"and", _, rfl, vk_R.warm hW (hE.2.2.2.2.2.2.2.1 ("StormFlags$RuleBook", 65, "and", 6) (by decide))⟩
    · cases h; exact Or.inl ⟨"cone", _, rfl, vk_R.warm hW (hE.2.2.2.2.2.2.2.1 ("StormFlags$RuleBook", 81, "cone", 0) (by decide))⟩
    · cases h; exact Or.inl ⟨"drum", _, rfl, vk_R.warm hW (hE.2.2.2.2.2.2.2.1 ("StormFlags$RuleBook", 83, "drum", 1) (by decide))⟩
    · cases h; exact Or.inl ⟨"fall", _, rfl, vk_R.warm hW (hE.2.2.2.2.2.2.2.1 ("StormFlags$RuleBook", 85, "fall", 2) (by decide))⟩
    · cases h; exact Or.inl ⟨"low", _, rfl, vk_R.warm hW (hE.2.2.2.2.2.2.2.1 ("StormFlags$RuleBook", 87, "low", 3) (by decide))⟩
    · cases h; exact Or.inl ⟨"wind", _, rfl, vk_R.warm hW (hE.2.2.2.2.2.2.2.1 ("StormFlags$RuleBook", 89, "wind", 4) (by decide))⟩
    · cases h; exact Or.inl ⟨"coast", _, rfl, vk_R.warm hW (hE.2.2.2.2.2.2.2.1 ("StormFlags$RuleBook", 91, "coast", 5) (by decide))⟩
    · cases h
  · intro j v h
    cases h
  · intro j ci h
    cases h
  · intro j a v h
    cases h
  · intro j h
    change ra_X5 j = 1 at h
    unfold ra_X5 at h
    split at h
    · cases h
    · cases h
  · intro j h
    change ra_X5 j = 2 at h
    unfold ra_X5 at h
    split at h
    · exact wd hE hW tw_110 rfl
    · cases h
theorem clok_X5i (hE : E0 l s0 D cy P a0) : EnvC l s0 D cy P.2.1 RX5 "<init>" (cl_X5i P) obj := by
  refine ⟨hE.2.1, hE.2.2.2.2.1.1, hE.2.2.2.2.1.2, hE.2.2.2.2.2.1, fun s args meth A hW hold hsz hA hnm => ⟨?_, ?_, ?_, ?_, ?_, ?_, ?_, ?_, tail_mk hE hW⟩⟩
  · intro j ci k ty w h
    change fl_X5i j = some (ci, k, ty, w) at h
    unfold fl_X5i at h
    split at h
    · cases h; exact ⟨fl_mk hE hW rfl (by decide) us_X5 ug_X5 tw_112, fun _ => fp_mkF hE hW hnm rfl (by decide) us_X5 ug_X5 tyX5_ok nmX5 rfl rfl rfl tw_112⟩
    · cases h; exact ⟨fl_mk hE hW rfl (by decide) us_X5 ug_X5 tw_113, fun _ => fp_mkF hE hW hnm rfl (by decide) us_X5 ug_X5 tyX5_ok nmX5 rfl rfl rfl tw_113⟩
    · cases h; exact ⟨fl_mk hE hW rfl (by decide) us_X5 ug_X5 tw_114, fun _ => fp_mkF hE hW hnm rfl (by decide) us_X5 ug_X5 tyX5_ok nmX5 rfl rfl rfl tw_114⟩
    · cases h; exact ⟨fl_mk hE hW rfl (by decide) us_X5 ug_X5 tw_115, fun _ => fp_mkF hE hW hnm rfl (by decide) us_X5 ug_X5 tyX5_ok nmX5 rfl rfl rfl tw_115⟩
    · cases h; exact ⟨fl_mk hE hW rfl (by decide) us_X5 ug_X5 tw_116, fun _ => fp_mk hE hW rfl (by decide) us_X5 ug_X5 tyX5_ok nmX5 rfl rfl tw_116⟩
    · cases h
  · intro j ci fs h
    cases h
  · intro j v h
    change ld_X5 P j = some v at h
    unfold ld_X5 at h
    split at h
    · cases h; exact Or.inl ⟨"and", _, rfl, vk_R.warm hW (hE.2.2.2.2.2.2.2.1 ("StormFlags$RuleBook", 65, "and", 6) (by decide))⟩
    · cases h; exact Or.inl ⟨"cone", _, rfl, vk_R.warm hW (hE.2.2.2.2.2.2.2.1 ("StormFlags$RuleBook", 81, "cone", 0) (by decide))⟩
    · cases h; exact Or.inl ⟨"drum", _, rfl, vk_R.warm hW (hE.2.2.2.2.2.2.2.1 ("StormFlags$RuleBook", 83, "drum", 1) (by decide))⟩
    · cases h; exact Or.inl ⟨"fall", _, rfl, vk_R.warm hW (hE.2.2.2.2.2.2.2.1 ("StormFlags$RuleBook", 85, "fall", 2) (by decide))⟩
    · cases h; exact Or.inl ⟨"low", _, rfl, vk_R.warm hW (hE.2.2.2.2.2.2.2.1 ("StormFlags$RuleBook", 87, "low", 3) (by decide))⟩
    · cases h; exact Or.inl ⟨"wind", _, rfl, vk_R.warm hW (hE.2.2.2.2.2.2.2.1 ("StormFlags$RuleBook", 89, "wind", 4) (by decide))⟩
    · cases h; exact Or.inl ⟨"coast", _, rfl, vk_R.warm hW (hE.2.2.2.2.2.2.2.1 ("StormFlags$RuleBook", 91, "coast", 5) (by decide))⟩
    · cases h
  · intro j v h
    cases h
  · intro j ci h
    cases h
  · intro j a v h
    cases h
  · intro j h
    change ra_X5 j = 1 at h
    unfold ra_X5 at h
    split at h
    · cases h
    · cases h
  · intro j h
    change ra_X5 j = 2 at h
    unfold ra_X5 at h
    split at h
    · exact wd hE hW tw_110 rfl
    · cases h
theorem clok_X6 (hE : E0 l s0 D cy P a0) (mname : String) : EnvC l s0 D cy P.2.1 RX6 mname (cl_X6 P) obj := by
  refine ⟨hE.2.1, hE.2.2.2.2.1.1, hE.2.2.2.2.1.2, hE.2.2.2.2.2.1, fun s args meth A hW hold hsz hA hnm => ⟨?_, ?_, ?_, ?_, ?_, ?_, ?_, ?_, tail_mk hE hW⟩⟩
  · intro j ci k ty w h
    change fl_X6 j = some (ci, k, ty, w) at h
    unfold fl_X6 at h
    split at h
    · cases h; exact ⟨fl_mk hE hW rfl (by decide) us_X6 ug_X6 tw_44, fun h => by cases h⟩
    · cases h; exact ⟨fl_mk hE hW rfl (by decide) us_X6 ug_X6 tw_45, fun _ => fp_mk hE hW rfl (by decide) us_X6 ug_X6 tyX6_ok nmX6 rfl rfl tw_45⟩
    · cases h; exact ⟨fl_mk hE hW rfl (by decide) us_X6 ug_X6 tw_46, fun _ => fp_mk hE hW rfl (by decide) us_X6 ug_X6 tyX6_ok nmX6 rfl rfl tw_46⟩
    · cases h
  · intro j ci fs h
    cases h
  · intro j v h
    cases h
  · intro j v h
    cases h
  · intro j ci h
    cases h
  · intro j a v h
    cases h
  · intro j h
    change (0 : Nat) = 1 at h; cases h
  · intro j h
    change (0 : Nat) = 2 at h; cases h
theorem clok_X6i (hE : E0 l s0 D cy P a0) : EnvC l s0 D cy P.2.1 RX6 "<init>" (cl_X6i P) obj := by
  refine ⟨hE.2.1, hE.2.2.2.2.1.1, hE.2.2.2.2.1.2, hE.2.2.2.2.2.1, fun s args meth A hW hold hsz hA hnm => ⟨?_, ?_, ?_, ?_, ?_, ?_, ?_, ?_, tail_mk hE hW⟩⟩
  · intro j ci k ty w h
    change fl_X6i j = some (ci, k, ty, w) at h
    unfold fl_X6i at h
    split at h
    · cases h; exact ⟨fl_mk hE hW rfl (by decide) us_X6 ug_X6 tw_44, fun _ => fp_mkF hE hW hnm rfl (by decide) us_X6 ug_X6 tyX6_ok nmX6 rfl rfl rfl tw_44⟩
    · cases h; exact ⟨fl_mk hE hW rfl (by decide) us_X6 ug_X6 tw_45, fun _ => fp_mk hE hW rfl (by decide) us_X6 ug_X6 tyX6_ok nmX6 rfl rfl tw_45⟩
    · cases h; exact ⟨fl_mk hE hW rfl (by decide) us_X6 ug_X6 tw_46, fun _ => fp_mk hE hW rfl (by decide) us_X6 ug_X6 tyX6_ok nmX6 rfl rfl tw_46⟩
    · cases h
  · intro j ci fs h
    cases h
  · intro j v h
    cases h
  · intro j v h
    cases h
  · intro j ci h
    cases h
  · intro j a v h
    cases h
  · intro j h
    change (0 : Nat) = 1 at h; cases h
  · intro j h
    change (0 : Nat) = 2 at h; cases h
theorem clok_X7 (hE : E0 l s0 D cy P a0) (mname : String) : EnvC l s0 D cy P.2.1 RX7 mname (cl_X7 P) obj := by
  refine ⟨hE.2.1, hE.2.2.2.2.1.1, hE.2.2.2.2.1.2, hE.2.2.2.2.2.1, fun s args meth A hW hold hsz hA hnm => ⟨?_, ?_, ?_, ?_, ?_, ?_, ?_, ?_, tail_mk hE hW⟩⟩
  · intro j ci k ty w h
    change fl_X7 j = some (ci, k, ty, w) at h
    unfold fl_X7 at h
    split at h
    · cases h; exact ⟨fl_mk hE hW rfl (by decide) us_X7 ug_X7 tw_779, fun h => by cases h⟩
    · cases h; exact ⟨fl_mk hE hW rfl (by decide) us_X7 ug_X7 tw_781, fun h => by cases h⟩
    · cases h; exact ⟨fl_mk hE hW rfl (by decide) us_X7 ug_X7 tw_783, fun h => by cases h⟩
    · cases h; exact ⟨fl_mk hE hW rfl (by decide) us_X7 ug_X7 tw_785, fun h => by cases h⟩
    · cases h; exact ⟨fl_mk hE hW rfl (by decide) us_X7 ug_X7 tw_787, fun h => by cases h⟩
    · cases h; exact ⟨fl_mkN hE hW rfl (by decide) us_X3 ug_X3 tw_336, fun h => by cases h⟩
    · cases h; exact ⟨fl_mkN hE hW rfl (by decide) us_X3 ug_X3 tw_329, fun h => by cases h⟩
    · cases h; exact ⟨fl_mkN hE hW rfl (by decide) us_X3 ug_X3 tw_339, fun h => by cases h⟩
    · cases h
  · intro j ci fs h
    cases h
  · intro j v h
    cases h
  · intro j v h
    cases h
  · intro j ci h
    cases h
  · intro j a v h
    cases h
  · intro j h
    change (0 : Nat) = 1 at h; cases h
  · intro j h
    change (0 : Nat) = 2 at h; cases h
theorem clok_X7i (hE : E0 l s0 D cy P a0) : EnvC l s0 D cy P.2.1 RX7 "<init>" (cl_X7i P) obj := by
  refine ⟨hE.2.1, hE.2.2.2.2.1.1, hE.2.2.2.2.1.2, hE.2.2.2.2.2.1, fun s args meth A hW hold hsz hA hnm => ⟨?_, ?_, ?_, ?_, ?_, ?_, ?_, ?_, tail_mk hE hW⟩⟩
  · intro j ci k ty w h
    change fl_X7i j = some (ci, k, ty, w) at h
    unfold fl_X7i at h
    split at h
    · cases h; exact ⟨fl_mk hE hW rfl (by decide) us_X7 ug_X7 tw_779, fun _ => fp_mkF hE hW hnm rfl (by decide) us_X7 ug_X7 tyX7_ok nmX7 rfl rfl rfl tw_779⟩
    · cases h; exact ⟨fl_mk hE hW rfl (by decide) us_X7 ug_X7 tw_781, fun _ => fp_mkF hE hW hnm rfl (by decide) us_X7 ug_X7 tyX7_ok nmX7 rfl rfl rfl tw_781⟩
    · cases h; exact ⟨fl_mk hE hW rfl (by decide) us_X7 ug_X7 tw_783, fun _ => fp_mkF hE hW hnm rfl (by decide) us_X7 ug_X7 tyX7_ok nmX7 rfl rfl rfl tw_783⟩
    · cases h; exact ⟨fl_mk hE hW rfl (by decide) us_X7 ug_X7 tw_785, fun _ => fp_mkF hE hW hnm rfl (by decide) us_X7 ug_X7 tyX7_ok nmX7 rfl rfl rfl tw_785⟩
    · cases h; exact ⟨fl_mk hE hW rfl (by decide) us_X7 ug_X7 tw_787, fun _ => fp_mkF hE hW hnm rfl (by decide) us_X7 ug_X7 tyX7_ok nmX7 rfl rfl rfl tw_787⟩
    · cases h; exact ⟨fl_mkN hE hW rfl (by decide) us_X3 ug_X3 tw_336, fun h => by cases h⟩
    · cases h; exact ⟨fl_mkN hE hW rfl (by decide) us_X3 ug_X3 tw_329, fun h => by cases h⟩
    · cases h; exact ⟨fl_mkN hE hW rfl (by decide) us_X3 ug_X3 tw_339, fun h => by cases h⟩
    · cases h
  · intro j ci fs h
    cases h
  · intro j v h
    cases h
  · intro j v h
    cases h
  · intro j ci h
    cases h
  · intro j a v h
    cases h
  · intro j h
    change (0 : Nat) = 1 at h; cases h
  · intro j h
    change (0 : Nat) = 2 at h; cases h
theorem clok_X8 (hE : E0 l s0 D cy P a0) (mname : String) : EnvC l s0 D cy P.2.1 RX8 mname (cl_X8 P) obj := by
  refine ⟨hE.2.1, hE.2.2.2.2.1.1, hE.2.2.2.2.1.2, hE.2.2.2.2.2.1, fun s args meth A hW hold hsz hA hnm => ⟨?_, ?_, ?_, ?_, ?_, ?_, ?_, ?_, tail_mk hE hW⟩⟩
  · intro j ci k ty w h
    change fl_X8 j = some (ci, k, ty, w) at h
    unfold fl_X8 at h
    split at h
    · cases h; exact ⟨fl_mk hE hW rfl (by decide) us_X8 ug_X8 tw_128, fun h => by cases h⟩
    · cases h; exact ⟨fl_mk hE hW rfl (by decide) us_X8 ug_X8 tw_129, fun h => by cases h⟩
    · cases h; exact ⟨fl_mk hE hW rfl (by decide) us_X8 ug_X8 tw_130, fun h => by cases h⟩
    · cases h; exact ⟨fl_mk hE hW rfl (by decide) us_X8 ug_X8 tw_131, fun h => by cases h⟩
    · cases h; exact ⟨fl_mk hE hW rfl (by decide) us_X8 ug_X8 tw_132, fun h => by cases h⟩
    · cases h; exact ⟨fl_mk hE hW rfl (by decide) us_X8 ug_X8 tw_133, fun h => by cases h⟩
    · cases h; exact ⟨fl_mk hE hW rfl (by decide) us_X8 ug_X8 tw_134, fun _ => fp_mk hE hW rfl (by decide) us_X8 ug_X8 tyX8_ok nmX8 rfl rfl tw_134⟩
    · cases h; exact ⟨fl_mk hE hW rfl (by decide) us_X8 ug_X8 tw_135, fun _ => fp_mk hE hW rfl (by decide) us_X8 ug_X8 tyX8_ok nmX8 rfl rfl tw_135⟩
    · cases h; exact ⟨fl_mk hE hW rfl (by decide) us_X8 ug_X8 tw_136, fun _ => fp_mk hE hW rfl (by decide) us_X8 ug_X8 tyX8_ok nmX8 rfl rfl tw_136⟩
    · cases h; exact ⟨fl_mk hE hW rfl (by decide) us_X8 ug_X8 tw_137, fun _ => fp_mk hE hW rfl (by decide) us_X8 ug_X8 tyX8_ok nmX8 rfl rfl tw_137⟩
    · cases h; exact ⟨fl_mk hE hW rfl (by decide) us_X8 ug_X8 tw_138, fun _ => fp_mk hE hW rfl (by decide) us_X8 ug_X8 tyX8_ok nmX8 rfl rfl tw_138⟩
    · cases h; exact ⟨fl_mkN hE hW rfl (by decide) us_X3 ug_X3 tw_342, fun _ => fp_mkN hE hW rfl (by decide) us_X3 ug_X3 tyX3_ok nmX3 rfl rfl tw_342⟩
    · cases h; exact ⟨fl_mkN hE hW rfl (by decide) us_X3 ug_X3 tw_340, fun h => by cases h⟩
    · cases h; exact ⟨fl_mkN hE hW rfl (by decide) us_X4 ug_X4 tw_459, fun h => by cases h⟩
    · cases h; exact ⟨fl_mkN hE hW rfl (by decide) us_X3 ug_X3 tw_330, fun h => by cases h⟩
    · cases h; exact ⟨fl_mkN hE hW rfl (by decide) us_X7 ug_X7 tw_780, fun h => by cases h⟩
    · cases h; exact ⟨fl_mkN hE hW rfl (by decide) us_X7 ug_X7 tw_782, fun h => by cases h⟩
    · cases h; exact ⟨fl_mkN hE hW rfl (by decide) us_X7 ug_X7 tw_784, fun h => by cases h⟩
    · cases h; exact ⟨fl_mkN hE hW rfl (by decide) us_X7 ug_X7 tw_786, fun h => by cases h⟩
    · cases h; exact ⟨fl_mkN hE hW rfl (by decide) us_X0 ug_X0 tw_685, fun _ => fp_mkN hE hW rfl (by decide) us_X0 ug_X0 tyX0_ok nmX0 rfl rfl tw_685⟩
    · cases h; exact ⟨fl_mkN hE hW rfl (by decide) us_X0 ug_X0 tw_690, fun _ => fp_mkN hE hW rfl (by decide) us_X0 ug_X0 tyX0_ok nmX0 rfl rfl tw_690⟩
    · cases h; exact ⟨fl_mkN hE hW rfl (by decide) us_X0 ug_X0 tw_692, fun _ => fp_mkN hE hW rfl (by decide) us_X0 ug_X0 tyX0_ok nmX0 rfl rfl tw_692⟩
    · cases h; exact ⟨fl_mkN hE hW rfl (by decide) us_X0 ug_X0 tw_687, fun _ => fp_mkN hE hW rfl (by decide) us_X0 ug_X0 tyX0_ok nmX0 rfl rfl tw_687⟩
    · cases h; exact ⟨fl_mkN hE hW rfl (by decide) us_X4 ug_X4 tw_463, fun h => by cases h⟩
    · cases h; exact ⟨fl_mkN hE hW rfl (by decide) us_X3 ug_X3 tw_337, fun h => by cases h⟩
    · cases h; exact ⟨fl_mkN hE hW rfl (by decide) us_X3 ug_X3 tw_332, fun h => by cases h⟩
    · cases h; exact ⟨fl_mkN hE hW rfl (by decide) us_X3 ug_X3 tw_334, fun h => by cases h⟩
    · cases h; exact ⟨fl_mkN hE hW rfl (by decide) us_X2 ug_X2 tw_88, fun _ => fp_mkN hE hW rfl (by decide) us_X2 ug_X2 tyX2_ok nmX2 rfl rfl tw_88⟩
    · cases h; exact ⟨fl_mkN hE hW rfl (by decide) us_X2 ug_X2 tw_90, fun _ => fp_mkN hE hW rfl (by decide) us_X2 ug_X2 tyX2_ok nmX2 rfl rfl tw_90⟩
    · cases h; exact ⟨fl_mkN hE hW rfl (by decide) us_X2 ug_X2 tw_92, fun _ => fp_mkN hE hW rfl (by decide) us_X2 ug_X2 tyX2_ok nmX2 rfl rfl tw_92⟩
    · cases h; exact ⟨fl_mkN hE hW rfl (by decide) us_X2 ug_X2 tw_94, fun _ => fp_mkN hE hW rfl (by decide) us_X2 ug_X2 tyX2_ok nmX2 rfl rfl tw_94⟩
    · cases h; exact ⟨fl_mkN hE hW rfl (by decide) us_X0 ug_X0 tw_680, fun h => by cases h⟩
    · cases h; exact ⟨fl_mkN hE hW rfl (by decide) us_X1 ug_X1 tw_655, fun h => by cases h⟩
    · cases h; exact ⟨fl_mkN hE hW rfl (by decide) us_X0 ug_X0 tw_683, fun h => by cases h⟩
    · cases h; exact ⟨fl_mkN hE hW rfl (by decide) us_X1 ug_X1 tw_650, fun h => by cases h⟩
    · cases h; exact ⟨fl_mkN hE hW rfl (by decide) us_X1 ug_X1 tw_652, fun h => by cases h⟩
    · cases h
  · intro j ci fs h
    change nw_X8 j = some (ci, fs) at h
    unfold nw_X8 at h
    split at h
    · cases h; exact nw_mk hE hW rfl rfl us_X6 ug_X6 tyX6_ok tw_38 tw_39 tw_2 (by decide)
    · cases h; exact nw_mk hE hW rfl rfl us_Jx4a65c ug_Jx4a65c tyJx4a65c_ok tw_55 tw_56 tw_5 (by decide)
    · cases h; exact nw_mk hE hW rfl rfl us_X2 ug_X2 tyX2_ok tw_81 tw_82 tw_6 (by decide)
    · cases h; exact nw_mk hE hW rfl rfl us_X5 ug_X5 tyX5_ok tw_104 tw_105 tw_7 (by decide)
    · cases h; exact nw_mk hE hW rfl rfl us_X3 ug_X3 tyX3_ok tw_321 tw_322 tw_14 (by decide)
    · cases h; exact nw_mk hE hW rfl rfl us_X4 ug_X4 tyX4_ok tw_452 tw_453 tw_22 (by decide)
    · cases h; exact nw_mk hE hW rfl rfl us_X1 ug_X1 tyX1_ok tw_643 tw_644 tw_26 (by decide)
    · cases h; exact nw_mk hE hW rfl rfl us_X0 ug_X0 tyX0_ok tw_220 tw_674 tw_27 (by decide)
    · cases h; exact nw_mk hE hW rfl rfl us_X7 ug_X7 tyX7_ok tw_769 tw_770 tw_28 (by decide)
    · cases h
  · intro j v h
    cases h
  · intro j v h
    cases h
  · intro j ci h
    change cs_X8 j ci = true at h
    unfold cs_X8 at h
    split at h
    · exact ⟨_, _, _, rfl, wd hE hW tw_321 rfl⟩
    · exact ⟨_, _, _, rfl, wd hE hW tw_643 rfl⟩
    · exact ⟨_, _, _, rfl, wd hE hW tw_220 rfl⟩
    · exact ⟨_, _, _, rfl, wd hE hW tw_769 rfl⟩
    · cases h
  · intro j a v h
    cases h
  · intro j h
    change (0 : Nat) = 1 at h; cases h
  · intro j h
    change (0 : Nat) = 2 at h; cases h
theorem clok_X8i (hE : E0 l s0 D cy P a0) : EnvC l s0 D cy P.2.1 RX8 "<init>" (cl_X8i P) obj := by
  refine ⟨hE.2.1, hE.2.2.2.2.1.1, hE.2.2.2.2.1.2, hE.2.2.2.2.2.1, fun s args meth A hW hold hsz hA hnm => ⟨?_, ?_, ?_, ?_, ?_, ?_, ?_, ?_, tail_mk hE hW⟩⟩
  · intro j ci k ty w h
    change fl_X8i j = some (ci, k, ty, w) at h
    unfold fl_X8i at h
    split at h
    · cases h; exact ⟨fl_mk hE hW rfl (by decide) us_X8 ug_X8 tw_128, fun _ => fp_mkF hE hW hnm rfl (by decide) us_X8 ug_X8 tyX8_ok nmX8 rfl rfl rfl tw_128⟩
    · cases h; exact ⟨fl_mk hE hW rfl (by decide) us_X8 ug_X8 tw_129, fun _ => fp_mkF hE hW hnm rfl (by decide) us_X8 ug_X8 tyX8_ok nmX8 rfl rfl rfl tw_129⟩
    · cases h; exact ⟨fl_mk hE hW rfl (by decide) us_X8 ug_X8 tw_130, fun _ => fp_mkF hE hW hnm rfl (by decide) us_X8 ug_X8 tyX8_ok nmX8 rfl rfl rfl tw_130⟩
    · cases h; exact ⟨fl_mk hE hW rfl (by decide) us_X8 ug_X8 tw_131, fun _ => fp_mkF hE hW hnm rfl (by decide) us_X8 ug_X8 tyX8_ok nmX8 rfl rfl rfl tw_131⟩
    · cases h; exact ⟨fl_mk hE hW rfl (by decide) us_X8 ug_X8 tw_132, fun _ => fp_mkF hE hW hnm rfl (by decide) us_X8 ug_X8 tyX8_ok nmX8 rfl rfl rfl tw_132⟩
    · cases h; exact ⟨fl_mk hE hW rfl (by decide) us_X8 ug_X8 tw_133, fun _ => fp_mkF hE hW hnm rfl (by decide) us_X8 ug_X8 tyX8_ok nmX8 rfl rfl rfl tw_133⟩
    · cases h; exact ⟨fl_mk hE hW rfl (by decide) us_X8 ug_X8 tw_134, fun _ => fp_mk hE hW rfl (by decide) us_X8 ug_X8 tyX8_ok nmX8 rfl rfl tw_134⟩
    · cases h; exact ⟨fl_mk hE hW rfl (by decide) us_X8 ug_X8 tw_135, fun _ => fp_mk hE hW rfl (by decide) us_X8 ug_X8 tyX8_ok nmX8 rfl rfl tw_135⟩
    · cases h; exact ⟨fl_mk hE hW rfl (by decide) us_X8 ug_X8 tw_136, fun _ => fp_mk hE hW rfl (by decide) us_X8 ug_X8 tyX8_ok nmX8 rfl rfl tw_136⟩
    · cases h; exact ⟨fl_mk hE hW rfl (by decide) us_X8 ug_X8 tw_137, fun _ => fp_mk hE hW rfl (by decide) us_X8 ug_X8 tyX8_ok nmX8 rfl rfl tw_137⟩
    · cases h; exact ⟨fl_mk hE hW rfl (by decide) us_X8 ug_X8 tw_138, fun _ => fp_mk hE hW rfl (by decide) us_X8 ug_X8 tyX8_ok nmX8 rfl rfl tw_138⟩
    · cases h; exact ⟨fl_mkN hE hW rfl (by decide) us_X3 ug_X3 tw_342, fun _ => fp_mkN hE hW rfl (by decide) us_X3 ug_X3 tyX3_ok nmX3 rfl rfl tw_342⟩
    · cases h; exact ⟨fl_mkN hE hW rfl (by decide) us_X3 ug_X3 tw_340, fun h => by cases h⟩
    · cases h; exact ⟨fl_mkN hE hW rfl (by decide) us_X4 ug_X4 tw_459, fun h => by cases h⟩
    · cases h; exact ⟨fl_mkN hE hW rfl (by decide) us_X3 ug_X3 tw_330, fun h => by cases h⟩
    · cases h; exact ⟨fl_mkN hE hW rfl (by decide) us_X7 ug_X7 tw_780, fun h => by cases h⟩
    · cases h; exact ⟨fl_mkN hE hW rfl (by decide) us_X7 ug_X7 tw_782, fun h => by cases h⟩
    · cases h; exact ⟨fl_mkN hE hW rfl (by decide) us_X7 ug_X7 tw_784, fun h => by cases h⟩
    · cases h; exact ⟨fl_mkN hE hW rfl (by decide) us_X7 ug_X7 tw_786, fun h => by cases h⟩
    · cases h; exact ⟨fl_mkN hE hW rfl (by decide) us_X0 ug_X0 tw_685, fun _ => fp_mkN hE hW rfl (by decide) us_X0 ug_X0 tyX0_ok nmX0 rfl rfl tw_685⟩
    · cases h; exact ⟨fl_mkN hE hW rfl (by decide) us_X0 ug_X0 tw_690, fun _ => fp_mkN hE hW rfl (by decide) us_X0 ug_X0 tyX0_ok nmX0 rfl rfl tw_690⟩
    · cases h; exact ⟨fl_mkN hE hW rfl (by decide) us_X0 ug_X0 tw_692, fun _ => fp_mkN hE hW rfl (by decide) us_X0 ug_X0 tyX0_ok nmX0 rfl rfl tw_692⟩
    · cases h; exact ⟨fl_mkN hE hW rfl (by decide) us_X0 ug_X0 tw_687, fun _ => fp_mkN hE hW rfl (by decide) us_X0 ug_X0 tyX0_ok nmX0 rfl rfl tw_687⟩
    · cases h; exact ⟨fl_mkN hE hW rfl (by decide) us_X4 ug_X4 tw_463, fun h => by cases h⟩
    · cases h; exact ⟨fl_mkN hE hW rfl (by decide) us_X3 ug_X3 tw_337, fun h => by cases h⟩
    · cases h; exact ⟨fl_mkN hE hW rfl (by decide) us_X3 ug_X3 tw_332, fun h => by cases h⟩
    · cases h; exact ⟨fl_mkN hE hW rfl (by decide) us_X3 ug_X3 tw_334, fun h => by cases h⟩
    · cases h; exact ⟨fl_mkN hE hW rfl (by decide) us_X2 ug_X2 tw_88, fun _ => fp_mkN hE hW rfl (by decide) us_X2 ug_X2 tyX2_ok nmX2 rfl rfl tw_88⟩
    · cases h; exact ⟨fl_mkN hE hW rfl (by decide) us_X2 ug_X2 tw_90, fun _ => fp_mkN hE hW rfl (by decide) us_X2 ug_X2 tyX2_ok nmX2 rfl rfl tw_90⟩
    · cases h; exact ⟨fl_mkN hE hW rfl (by decide) us_X2 ug_X2 tw_92, fun _ => fp_mkN hE hW rfl (by decide) us_X2 ug_X2 tyX2_ok nmX2 rfl rfl tw_92⟩
    · cases h; exact ⟨fl_mkN hE hW rfl (by decide) us_X2 ug_X2 tw_94, fun _ => fp_mkN hE hW rfl (by decide) us_X2 ug_X2 tyX2_ok nmX2 rfl rfl tw_94⟩
    · cases h; exact ⟨fl_mkN hE hW rfl (by decide) us_X0 ug_X0 tw_680, fun h => by cases h⟩
    · cases h; exact ⟨fl_mkN hE hW rfl (by decide) us_X1 ug_X1 tw_655, fun h => by cases h⟩
    · cases h; exact ⟨fl_mkN hE hW rfl (by decide) us_X0 ug_X0 tw_683, fun h => by cases h⟩
    · cases h; exact ⟨fl_mkN hE hW rfl (by decide) us_X1 ug_X1 tw_650, fun h => by cases h⟩
    · cases h; exact ⟨fl_mkN hE hW rfl (by decide) us_X1 ug_X1 tw_652, fun h => by cases h⟩
    · cases h
  · intro j ci fs h
    change nw_X8 j = some (ci, fs) at h
    unfold nw_X8 at h
    split at h
    · cases h; exact nw_mk hE hW rfl rfl us_X6 ug_X6 tyX6_ok tw_38 tw_39 tw_2 (by decide)
    · cases h; exact nw_mk hE hW rfl rfl us_Jx4a65c ug_Jx4a65c tyJx4a65c_ok tw_55 tw_56 tw_5 (by decide)
    · cases h; exact nw_mk hE hW rfl rfl us_X2 ug_X2 tyX2_ok tw_81 tw_82 tw_6 (by decide)
    · cases h; exact nw_mk hE hW rfl rfl us_X5 ug_X5 tyX5_ok tw_104 tw_105 tw_7 (by decide)
    · cases h; exact nw_mk hE hW rfl rfl us_X3 ug_X3 tyX3_ok tw_321 tw_322 tw_14 (by decide)
    · cases h; exact nw_mk hE hW rfl rfl us_X4 ug_X4 tyX4_ok tw_452 tw_453 tw_22 (by decide)
    · cases h; exact nw_mk hE hW rfl rfl us_X1 ug_X1 tyX1_ok tw_643 tw_644 tw_26 (by decide)
    · cases h; exact nw_mk hE hW rfl rfl us_X0 ug_X0 tyX0_ok tw_220 tw_674 tw_27 (by decide)
    · cases h; exact nw_mk hE hW rfl rfl us_X7 ug_X7 tyX7_ok tw_769 tw_770 tw_28 (by decide)
    · cases h
  · intro j v h
    cases h
  · intro j v h
    cases h
  · intro j ci h
    change cs_X8 j ci = true at h
    unfold cs_X8 at h
    split at h
    · exact ⟨_, _, _, rfl, wd hE hW tw_321 rfl⟩
    · exact ⟨_, _, _, rfl, wd hE hW tw_643 rfl⟩
    · exact ⟨_, _, _, rfl, wd hE hW tw_220 rfl⟩
    · exact ⟨_, _, _, rfl, wd hE hW tw_769 rfl⟩
    · cases h
  · intro j a v h
    cases h
  · intro j h
    change (0 : Nat) = 1 at h; cases h
  · intro j h
    change (0 : Nat) = 2 at h; cases h
theorem clok_X9 (hE : E0 l s0 D cy P a0) (mname : String) : EnvC l s0 D cy P.2.1 RX9 mname (cl_X9 P) obj := by
  refine ⟨hE.2.1, hE.2.2.2.2.1.1, hE.2.2.2.2.1.2, hE.2.2.2.2.2.1, fun s args meth A hW hold hsz hA hnm => ⟨?_, ?_, ?_, ?_, ?_, ?_, ?_, ?_, tail_mk hE hW⟩⟩
  · intro j ci k ty w h
    change fl_X9 j = some (ci, k, ty, w) at h
    unfold fl_X9 at h
    split at h
    · cases h; exact ⟨fl_mk hE hW rfl (by decide) us_X9 ug_X9 tw_924, fun h => by cases h⟩
    · cases h; exact ⟨fl_mk hE hW rfl (by decide) us_X9 ug_X9 tw_925, fun h => by cases h⟩
    · cases h; exact ⟨fl_mk hE hW rfl (by decide) us_X9 ug_X9 tw_926, fun h => by cases h⟩
    · cases h; exact ⟨fl_mk hE hW rfl (by decide) us_X9 ug_X9 tw_927, fun h => by cases h⟩
    · cases h; exact ⟨fl_mk hE hW rfl (by decide) us_X9 ug_X9 tw_929, fun h => by cases h⟩
    · cases h; exact ⟨fl_mk hE hW rfl (by decide) us_X9 ug_X9 tw_930, fun h => by cases h⟩
    · cases h; exact ⟨fl_mk hE hW rfl (by decide) us_X9 ug_X9 tw_931, fun h => by cases h⟩
    · cases h; exact ⟨fl_mk hE hW rfl (by decide) us_X9 ug_X9 tw_932, fun h => by cases h⟩
    · cases h; exact ⟨fl_mk hE hW rfl (by decide) us_X9 ug_X9 tw_933, fun h => by cases h⟩
    · cases h; exact ⟨fl_mk hE hW rfl (by decide) us_X9 ug_X9 tw_935, fun h => by cases h⟩
    · cases h; exact ⟨fl_mk hE hW rfl (by decide) us_X9 ug_X9 tw_936, fun h => by cases h⟩
    · cases h; exact ⟨fl_mk hE hW rfl (by decide) us_X9 ug_X9 tw_937, fun h => by cases h⟩
    · cases h; exact ⟨fl_mk hE hW rfl (by decide) us_X9 ug_X9 tw_938, fun h => by cases h⟩
    · cases h; exact ⟨fl_mk hE hW rfl (by decide) us_X9 ug_X9 tw_940, fun h => by cases h⟩
    · cases h; exact ⟨fl_mk hE hW rfl (by decide) us_X9 ug_X9 tw_945, fun _ => fp_mk hE hW rfl (by decide) us_X9 ug_X9 tyX9_ok nmX9 rfl rfl tw_945⟩
    · cases h; exact ⟨fl_mk hE hW rfl (by decide) us_X9 ug_X9 tw_946, fun h => by cases h⟩
    · cases h; exact ⟨fl_mk hE hW rfl (by decide) us_X9 ug_X9 tw_947, fun h => by cases h⟩
    · cases h; exact ⟨fl_mk hE hW rfl (by decide) us_X9 ug_X9 tw_952, fun h => by cases h⟩
    · cases h; exact ⟨fl_mk hE hW rfl (by decide) us_X9 ug_X9 tw_953, fun h => by cases h⟩
    · cases h; exact ⟨fl_mk hE hW rfl (by decide) us_X9 ug_X9 tw_954, fun h => by cases h⟩
    · cases h; exact ⟨fl_mk hE hW rfl (by decide) us_X9 ug_X9 tw_955, fun h => by cases h⟩
    · cases h; exact ⟨fl_mk hE hW rfl (by decide) us_X9 ug_X9 tw_957, fun h => by cases h⟩
    · cases h; exact ⟨fl_mk hE hW rfl (by decide) us_X9 ug_X9 tw_922, fun _ => fp_mk hE hW rfl (by decide) us_X9 ug_X9 tyX9_ok nmX9 rfl rfl tw_922⟩
    · cases h; exact ⟨fl_mk hE hW rfl (by decide) us_X9 ug_X9 tw_928, fun _ => fp_mk hE hW rfl (by decide) us_X9 ug_X9 tyX9_ok nmX9 rfl rfl tw_928⟩
    · cases h; exact ⟨fl_mk hE hW rfl (by decide) us_X9 ug_X9 tw_923, fun _ => fp_mk hE hW rfl (by decide) us_X9 ug_X9 tyX9_ok nmX9 rfl rfl tw_923⟩
    · cases h; exact ⟨fl_mk hE hW rfl (by decide) us_X9 ug_X9 tw_934, fun _ => fp_mk hE hW rfl (by decide) us_X9 ug_X9 tyX9_ok nmX9 rfl rfl tw_934⟩
    · cases h; exact ⟨fl_mk hE hW rfl (by decide) us_X9 ug_X9 tw_941, fun _ => fp_mk hE hW rfl (by decide) us_X9 ug_X9 tyX9_ok nmX9 rfl rfl tw_941⟩
    · cases h; exact ⟨fl_mk hE hW rfl (by decide) us_X9 ug_X9 tw_942, fun _ => fp_mk hE hW rfl (by decide) us_X9 ug_X9 tyX9_ok nmX9 rfl rfl tw_942⟩
    · cases h; exact ⟨fl_mk hE hW rfl (by decide) us_X9 ug_X9 tw_943, fun _ => fp_mk hE hW rfl (by decide) us_X9 ug_X9 tyX9_ok nmX9 rfl rfl tw_943⟩
    · cases h; exact ⟨fl_mk hE hW rfl (by decide) us_X9 ug_X9 tw_944, fun _ => fp_mk hE hW rfl (by decide) us_X9 ug_X9 tyX9_ok nmX9 rfl rfl tw_944⟩
    · cases h; exact ⟨fl_mk hE hW rfl (by decide) us_X9 ug_X9 tw_939, fun _ => fp_mk hE hW rfl (by decide) us_X9 ug_X9 tyX9_ok nmX9 rfl rfl tw_939⟩
    · cases h; exact ⟨fl_mk hE hW rfl (by decide) us_X9 ug_X9 tw_949, fun _ => fp_mk hE hW rfl (by decide) us_X9 ug_X9 tyX9_ok nmX9 rfl rfl tw_949⟩
    · cases h; exact ⟨fl_mk hE hW rfl (by decide) us_X9 ug_X9 tw_950, fun _ => fp_mk hE hW rfl (by decide) us_X9 ug_X9 tyX9_ok nmX9 rfl rfl tw_950⟩
    · cases h; exact ⟨fl_mk hE hW rfl (by decide) us_X9 ug_X9 tw_951, fun _ => fp_mk hE hW rfl (by decide) us_X9 ug_X9 tyX9_ok nmX9 rfl rfl tw_951⟩
    · cases h; exact ⟨fl_mk hE hW rfl (by decide) us_X9 ug_X9 tw_948, fun _ => fp_mk hE hW rfl (by decide) us_X9 ug_X9 tyX9_ok nmX9 rfl rfl tw_948⟩
    · cases h; exact ⟨fl_mk hE hW rfl (by decide) us_X9 ug_X9 tw_956, fun _ => fp_mk hE hW rfl (by decide) us_X9 ug_X9 tyX9_ok nmX9 rfl rfl tw_956⟩
    · cases h; exact ⟨fl_mk hE hW rfl (by decide) us_X9 ug_X9 tw_958, fun _ => fp_mk hE hW rfl (by decide) us_X9 ug_X9 tyX9_ok nmX9 rfl rfl tw_958⟩
    · cases h
  · intro j ci fs h
    cases h
  · intro j v h
    change ld_X9 P j = some v at h
    unfold ld_X9 at h
    split at h
    · cases h; exact Or.inl ⟨"fall", _, rfl, vk_R.warm hW (hE.2.2.2.2.2.2.2.1 ("StormFlagsModel", 148, "fall", 2) (by decide))⟩
    · cases h; exact Or.inl ⟨"low", _, rfl, vk_R.warm hW (hE.2.2.2.2.2.2.2.1 ("StormFlagsModel", 154, "low", 3) (by decide))⟩
    · cases h; exact Or.inl ⟨"wind", _, rfl, vk_R.warm hW (hE.2.2.2.2.2.2.2.1 ("StormFlagsModel", 156, "wind", 4) (by decide))⟩
    · cases h; exact Or.inl ⟨"coast", _, rfl, vk_R.warm hW (hE.2.2.2.2.2.2.2.1 ("StormFlagsModel", 158, "coast", 5) (by decide))⟩
    · cases h; exact Or.inl ⟨"cone", _, rfl, vk_R.warm hW (hE.2.2.2.2.2.2.2.1 ("StormFlagsModel", 159, "cone", 0) (by decide))⟩
    · cases h; exact Or.inl ⟨"drum", _, rfl, vk_R.warm hW (hE.2.2.2.2.2.2.2.1 ("StormFlagsModel", 161, "drum", 1) (by decide))⟩
    · cases h; exact Or.inl ⟨"and", _, rfl, vk_R.warm hW (hE.2.2.2.2.2.2.2.1 ("StormFlagsModel", 166, "and", 6) (by decide))⟩
    · cases h
  · intro j v h
    cases h
  · intro j ci h
    cases h
  · intro j a v h
    cases h
  · intro j h
    change (0 : Nat) = 1 at h; cases h
  · intro j h
    change (0 : Nat) = 2 at h; cases h
theorem clok_X9i (hE : E0 l s0 D cy P a0) : EnvC l s0 D cy P.2.1 RX9 "<init>" (cl_X9i P) obj := by
  refine ⟨hE.2.1, hE.2.2.2.2.1.1, hE.2.2.2.2.1.2, hE.2.2.2.2.2.1, fun s args meth A hW hold hsz hA hnm => ⟨?_, ?_, ?_, ?_, ?_, ?_, ?_, ?_, tail_mk hE hW⟩⟩
  · intro j ci k ty w h
    change fl_X9i j = some (ci, k, ty, w) at h
    unfold fl_X9i at h
    split at h
    · cases h; exact ⟨fl_mk hE hW rfl (by decide) us_X9 ug_X9 tw_924, fun _ => fp_mkF hE hW hnm rfl (by decide) us_X9 ug_X9 tyX9_ok nmX9 rfl rfl rfl tw_924⟩
    · cases h; exact ⟨fl_mk hE hW rfl (by decide) us_X9 ug_X9 tw_925, fun _ => fp_mkF hE hW hnm rfl (by decide) us_X9 ug_X9 tyX9_ok nmX9 rfl rfl rfl tw_925⟩
    · cases h; exact ⟨fl_mk hE hW rfl (by decide) us_X9 ug_X9 tw_926, fun _ => fp_mkF hE hW hnm rfl (by decide) us_X9 ug_X9 tyX9_ok nmX9 rfl rfl rfl tw_926⟩
    · cases h; exact ⟨fl_mk hE hW rfl (by decide) us_X9 ug_X9 tw_927, fun _ => fp_mkF hE hW hnm rfl (by decide) us_X9 ug_X9 tyX9_ok nmX9 rfl rfl rfl tw_927⟩
    · cases h; exact ⟨fl_mk hE hW rfl (by decide) us_X9 ug_X9 tw_929, fun _ => fp_mkF hE hW hnm rfl (by decide) us_X9 ug_X9 tyX9_ok nmX9 rfl rfl rfl tw_929⟩
    · cases h; exact ⟨fl_mk hE hW rfl (by decide) us_X9 ug_X9 tw_930, fun _ => fp_mkF hE hW hnm rfl (by decide) us_X9 ug_X9 tyX9_ok nmX9 rfl rfl rfl tw_930⟩
    · cases h; exact ⟨fl_mk hE hW rfl (by decide) us_X9 ug_X9 tw_931, fun _ => fp_mkF hE hW hnm rfl (by decide) us_X9 ug_X9 tyX9_ok nmX9 rfl rfl rfl tw_931⟩
    · cases h; exact ⟨fl_mk hE hW rfl (by decide) us_X9 ug_X9 tw_932, fun _ => fp_mkF hE hW hnm rfl (by decide) us_X9 ug_X9 tyX9_ok nmX9 rfl rfl rfl tw_932⟩
    · cases h; exact ⟨fl_mk hE hW rfl (by decide) us_X9 ug_X9 tw_933, fun _ => fp_mkF hE hW hnm rfl (by decide) us_X9 ug_X9 tyX9_ok nmX9 rfl rfl rfl tw_933⟩
    · cases h; exact ⟨fl_mk hE hW rfl (by decide) us_X9 ug_X9 tw_935, fun _ => fp_mkF hE hW hnm rfl (by decide) us_X9 ug_X9 tyX9_ok nmX9 rfl rfl rfl tw_935⟩
    · cases h; exact ⟨fl_mk hE hW rfl (by decide) us_X9 ug_X9 tw_936, fun _ => fp_mkF hE hW hnm rfl (by decide) us_X9 ug_X9 tyX9_ok nmX9 rfl rfl rfl tw_936⟩
    · cases h; exact ⟨fl_mk hE hW rfl (by decide) us_X9 ug_X9 tw_937, fun _ => fp_mkF hE hW hnm rfl (by decide) us_X9 ug_X9 tyX9_ok nmX9 rfl rfl rfl tw_937⟩
    · cases h; exact ⟨fl_mk hE hW rfl (by decide) us_X9 ug_X9 tw_938, fun _ => fp_mkF hE hW hnm rfl (by decide) us_X9 ug_X9 tyX9_ok nmX9 rfl rfl rfl tw_938⟩
    · cases h; exact ⟨fl_mk hE hW rfl (by decide) us_X9 ug_X9 tw_940, fun _ => fp_mkF hE hW hnm rfl (by decide) us_X9 ug_X9 tyX9_ok nmX9 rfl rfl rfl tw_940⟩
    · cases h; exact ⟨fl_mk hE hW rfl (by decide) us_X9 ug_X9 tw_945, fun _ => fp_mk hE hW rfl (by decide) us_X9 ug_X9 tyX9_ok nmX9 rfl rfl tw_945⟩
    · cases h; exact ⟨fl_mk hE hW rfl (by decide) us_X9 ug_X9 tw_946, fun _ => fp_mkF hE hW hnm rfl (by decide) us_X9 ug_X9 tyX9_ok nmX9 rfl rfl rfl tw_946⟩
    · cases h; exact ⟨fl_mk hE hW rfl (by decide) us_X9 ug_X9 tw_947, fun _ => fp_mkF hE hW hnm rfl (by decide) us_X9 ug_X9 tyX9_ok nmX9 rfl rfl rfl tw_947⟩
    · cases h; exact ⟨fl_mk hE hW rfl (by decide) us_X9 ug_X9 tw_952, fun _ => fp_mkF hE hW hnm rfl (by decide) us_X9 ug_X9 tyX9_ok nmX9 rfl rfl rfl tw_952⟩
    · cases h; exact ⟨fl_mk hE hW rfl (by decide) us_X9 ug_X9 tw_953, fun _ => fp_mkF hE hW hnm rfl (by decide) us_X9 ug_X9 tyX9_ok nmX9 rfl rfl rfl tw_953⟩
    · cases h; exact ⟨fl_mk hE hW rfl (by decide) us_X9 ug_X9 tw_954, fun _ => fp_mkF hE hW hnm rfl (by decide) us_X9 ug_X9 tyX9_ok nmX9 rfl rfl rfl tw_954⟩
    · cases h; exact ⟨fl_mk hE hW rfl (by decide) us_X9 ug_X9 tw_955, fun _ => fp_mkF hE hW hnm rfl (by decide) us_X9 ug_X9 tyX9_ok nmX9 rfl rfl rfl tw_955⟩
    · cases h; exact ⟨fl_mk hE hW rfl (by decide) us_X9 ug_X9 tw_957, fun _ => fp_mkF hE hW hnm rfl (by decide) us_X9 ug_X9 tyX9_ok nmX9 rfl rfl rfl tw_957⟩
    · cases h; exact ⟨fl_mk hE hW rfl (by decide) us_X9 ug_X9 tw_922, fun _ => fp_mk hE hW rfl (by decide) us_X9 ug_X9 tyX9_ok nmX9 rfl rfl tw_922⟩
    · cases h; exact ⟨fl_mk hE hW rfl (by decide) us_X9 ug_X9 tw_928, fun _ => fp_mk hE hW rfl (by decide) us_X9 ug_X9 tyX9_ok nmX9 rfl rfl tw_928⟩
    · cases h; exact ⟨fl_mk hE hW rfl (by decide) us_X9 ug_X9 tw_923, fun _ => fp_mk hE hW rfl (by decide) us_X9 ug_X9 tyX9_ok nmX9 rfl rfl tw_923⟩
    · cases h; exact ⟨fl_mk hE hW rfl (by decide) us_X9 ug_X9 tw_934, fun _ => fp_mk hE hW rfl (by decide) us_X9 ug_X9 tyX9_ok nmX9 rfl rfl tw_934⟩
    · cases h; exact ⟨fl_mk hE hW rfl (by decide) us_X9 ug_X9 tw_941, fun _ => fp_mk hE hW rfl (by decide) us_X9 ug_X9 tyX9_ok nmX9 rfl rfl tw_941⟩
    · cases h; exact ⟨fl_mk hE hW rfl (by decide) us_X9 ug_X9 tw_942, fun _ => fp_mk hE hW rfl (by decide) us_X9 ug_X9 tyX9_ok nmX9 rfl rfl tw_942⟩
    · cases h; exact ⟨fl_mk hE hW rfl (by decide) us_X9 ug_X9 tw_943, fun _ => fp_mk hE hW rfl (by decide) us_X9 ug_X9 tyX9_ok nmX9 rfl rfl tw_943⟩
    · cases h; exact ⟨fl_mk hE hW rfl (by decide) us_X9 ug_X9 tw_944, fun _ => fp_mk hE hW rfl (by decide) us_X9 ug_X9 tyX9_ok nmX9 rfl rfl tw_944⟩
    · cases h; exact ⟨fl_mk hE hW rfl (by decide) us_X9 ug_X9 tw_939, fun _ => fp_mk hE hW rfl (by decide) us_X9 ug_X9 tyX9_ok nmX9 rfl rfl tw_939⟩
    · cases h; exact ⟨fl_mk hE hW rfl (by decide) us_X9 ug_X9 tw_949, fun _ => fp_mk hE hW rfl (by decide) us_X9 ug_X9 tyX9_ok nmX9 rfl rfl tw_949⟩
    · cases h; exact ⟨fl_mk hE hW rfl (by decide) us_X9 ug_X9 tw_950, fun _ => fp_mk hE hW rfl (by decide) us_X9 ug_X9 tyX9_ok nmX9 rfl rfl tw_950⟩
    · cases h; exact ⟨fl_mk hE hW rfl (by decide) us_X9 ug_X9 tw_951, fun _ => fp_mk hE hW rfl (by decide) us_X9 ug_X9 tyX9_ok nmX9 rfl rfl tw_951⟩
    · cases h; exact ⟨fl_mk hE hW rfl (by decide) us_X9 ug_X9 tw_948, fun _ => fp_mk hE hW rfl (by decide) us_X9 ug_X9 tyX9_ok nmX9 rfl rfl tw_948⟩
    · cases h; exact ⟨fl_mk hE hW rfl (by decide) us_X9 ug_X9 tw_956, fun _ => fp_mk hE hW rfl (by decide) us_X9 ug_X9 tyX9_ok nmX9 rfl rfl tw_956⟩
    · cases h; exact ⟨fl_mk hE hW rfl (by decide) us_X9 ug_X9 tw_958, fun _ => fp_mk hE hW rfl (by decide) us_X9 ug_X9 tyX9_ok nmX9 rfl rfl tw_958⟩
    · cases h
  · intro j ci fs h
    cases h
  · intro j v h
    change ld_X9 P j = some v at h
    unfold ld_X9 at h
    split at h
    · cases h; exact Or.inl ⟨"fall", _, rfl, vk_R.warm hW (hE.2.2.2.2.2.2.2.1 ("StormFlagsModel", 148, "fall", 2) (by decide))⟩
    · cases h; exact Or.inl ⟨"low", _, rfl, vk_R.warm hW (hE.2.2.2.2.2.2.2.1 ("StormFlagsModel", 154, "low", 3) (by decide))⟩
    · cases h; exact Or.inl ⟨"wind", _, rfl, vk_R.warm hW (hE.2.2.2.2.2.2.2.1 ("StormFlagsModel", 156, "wind", 4) (by decide))⟩
    · cases h; exact Or.inl ⟨"coast", _, rfl, vk_R.warm hW (hE.2.2.2.2.2.2.2.1 ("StormFlagsModel", 158, "coast", 5) (by decide))⟩
    · cases h; exact Or.inl ⟨"cone", _, rfl, vk_R.warm hW (hE.2.2.2.2.2.2.2.1 ("StormFlagsModel", 159, "cone", 0) (by decide))⟩
    · cases h; exact Or.inl ⟨"drum", _, rfl, vk_R.warm hW (hE.2.2.2.2.2.2.2.1 ("StormFlagsModel", 161, "drum", 1) (by decide))⟩
    · cases h; exact Or.inl ⟨"and", _, rfl, vk_R.warm hW (hE.2.2.2.2.2.2.2.1 ("StormFlagsModel", 166, "and", 6) (by decide))⟩
    · cases h
  · intro j v h
    cases h
  · intro j ci h
    cases h
  · intro j a v h
    cases h
  · intro j h
    change (0 : Nat) = 1 at h; cases h
  · intro j h
    change (0 : Nat) = 2 at h; cases h
theorem clok_Jx4a65c (hE : E0 l s0 D cy P a0) (mname : String) : EnvC l s0 D cy P.2.1 RJx4a65c mname (cl_Jx4a65c P) obj := by
  refine ⟨hE.2.1, hE.2.2.2.2.1.1, hE.2.2.2.2.1.2, hE.2.2.2.2.2.1, fun s args meth A hW hold hsz hA hnm => ⟨?_, ?_, ?_, ?_, ?_, ?_, ?_, ?_, tail_mk hE hW⟩⟩
  · intro j ci k ty w h
    change fl_Jx4a65c j = some (ci, k, ty, w) at h
    unfold fl_Jx4a65c at h
    split at h
    · cases h; exact ⟨fl_mk hE hW rfl (by decide) us_Jx4a65c ug_Jx4a65c tw_69, fun _ => fp_mk hE hW rfl (by decide) us_Jx4a65c ug_Jx4a65c tyJx4a65c_ok nmJx4a65c rfl rfl tw_69⟩
    · cases h; exact ⟨fl_mk hE hW rfl (by decide) us_Jx4a65c ug_Jx4a65c tw_70, fun _ => fp_mk hE hW rfl (by decide) us_Jx4a65c ug_Jx4a65c tyJx4a65c_ok nmJx4a65c rfl rfl tw_70⟩
    · cases h; exact ⟨⟨_, _, _, "java/util/ArrayList", rfl, by decide, fun w h => wd hE hW (us_Jx4a65c w h) (List.all_eq_true.mp ug_Jx4a65c w h), u_sm (wd (args := #[]) hE hW tw_73 rfl), Or.inl (wd hE hW tw_72 rfl)⟩, fun _ => ⟨_, _, _, "java/util/ArrayList", tyJx4a65c, rfl, by decide, fun w h => wd hE hW (us_Jx4a65c w h) (List.all_eq_true.mp ug_Jx4a65c w h), tyJx4a65c_ok, nmJx4a65c, rfl, u_sm (wd (args := #[]) hE hW tw_73 rfl), Or.inl ⟨rfl, wd hE hW tw_72 rfl⟩⟩⟩
    · cases h
  · intro j ci fs h
    cases h
  · intro j v h
    cases h
  · intro j v h
    change gs_Jx4a65c P j = some v at h
    unfold gs_Jx4a65c at h
    split at h
    · cases h; exact ⟨_, _, _, _, va_Z_at hE.2.2.2.2.2.2.2.2.2.1 hW.alike hold hA, wd hE hW tw_67 rfl, fun x h => h⟩
    · cases h
  · intro j ci h
    cases h
  · intro j a v h
    cases h
  · intro j h
    change ra_Jx4a65c j = 1 at h
    unfold ra_Jx4a65c at h
    split at h
    · exact wd hE hW tw_417 rfl
    · cases h
  · intro j h
    change ra_Jx4a65c j = 2 at h
    unfold ra_Jx4a65c at h
    split at h
    · cases h
    · cases h
theorem clok_Jx4a65ci (hE : E0 l s0 D cy P a0) : EnvC l s0 D cy P.2.1 RJx4a65c "<init>" (cl_Jx4a65ci P) obj := by
  refine ⟨hE.2.1, hE.2.2.2.2.1.1, hE.2.2.2.2.1.2, hE.2.2.2.2.2.1, fun s args meth A hW hold hsz hA hnm => ⟨?_, ?_, ?_, ?_, ?_, ?_, ?_, ?_, tail_mk hE hW⟩⟩
  · intro j ci k ty w h
    change fl_Jx4a65ci j = some (ci, k, ty, w) at h
    unfold fl_Jx4a65ci at h
    split at h
    · cases h; exact ⟨fl_mk hE hW rfl (by decide) us_Jx4a65c ug_Jx4a65c tw_69, fun _ => fp_mk hE hW rfl (by decide) us_Jx4a65c ug_Jx4a65c tyJx4a65c_ok nmJx4a65c rfl rfl tw_69⟩
    · cases h; exact ⟨fl_mk hE hW rfl (by decide) us_Jx4a65c ug_Jx4a65c tw_70, fun _ => fp_mk hE hW rfl (by decide) us_Jx4a65c ug_Jx4a65c tyJx4a65c_ok nmJx4a65c rfl rfl tw_70⟩
    · cases h; exact ⟨⟨_, _, _, "java/util/ArrayList", rfl, by decide, fun w h => wd hE hW (us_Jx4a65c w h) (List.all_eq_true.mp ug_Jx4a65c w h), u_sm (wd (args := #[]) hE hW tw_73 rfl), Or.inl (wd hE hW tw_72 rfl)⟩, fun _ => ⟨_, _, _, "java/util/ArrayList", tyJx4a65c, rfl, by decide, fun w h => wd hE hW (us_Jx4a65c w h) (List.all_eq_true.mp ug_Jx4a65c w h), tyJx4a65c_ok, nmJx4a65c, rfl, u_sm (wd (args := #[]) hE hW tw_73 rfl), Or.inl ⟨rfl, wd hE hW tw_72 rfl⟩⟩⟩
    · cases h
  · intro j ci fs h
    cases h
  · intro j v h
    cases h
  · intro j v h
    change gs_Jx4a65c P j = some v at h
    unfold gs_Jx4a65c at h
    split at h
    · cases h; exact ⟨_, _, _, _, va_Z_at hE.2.2.2.2.2.2.2.2.2.1 hW.alike hold hA, wd hE hW tw_67 rfl, fun x h => h⟩
    · cases h
  · intro j ci h
    cases h
  · intro j a v h
    cases h
  · intro j h
    change ra_Jx4a65c j = 1 at h
    unfold ra_Jx4a65c at h
    split at h
    · exact wd hE hW tw_417 rfl
    · cases h
  · intro j h
    change ra_Jx4a65c j = 2 at h
    unfold ra_Jx4a65c at h
    split at h
    · cases h
    · cases h
theorem clok_Jxc12de (hE : E0 l s0 D cy P a0) (mname : String) : EnvC l s0 D cy P.2.1 RJxc12de mname (cl_Jxc12de P) obj := by
  refine ⟨hE.2.1, hE.2.2.2.2.1.1, hE.2.2.2.2.1.2, hE.2.2.2.2.2.1, fun s args meth A hW hold hsz hA hnm => ⟨?_, ?_, ?_, ?_, ?_, ?_, ?_, ?_, tail_mk hE hW⟩⟩
  · intro j ci k ty w h
    change fl_Jxc12de j = some (ci, k, ty, w) at h
    unfold fl_Jxc12de at h
    split at h
    · cases h; exact ⟨fl_mk hE hW rfl (by decide) us_Jx4a65c ug_Jx4a65c tw_71, fun _ => fp_mk hE hW rfl (by decide) us_Jx4a65c ug_Jx4a65c tyJx4a65c_ok nmJx4a65c rfl rfl tw_71⟩
    · cases h
  · intro j ci fs h
    cases h
  · intro j v h
    cases h
  · intro j v h
    cases h
  · intro j ci h
    cases h
  · intro j a v h
    cases h
  · intro j h
    change (0 : Nat) = 1 at h; cases h
  · intro j h
    change (0 : Nat) = 2 at h; cases h
theorem clok_Jxc12dei (hE : E0 l s0 D cy P a0) : EnvC l s0 D cy P.2.1 RJxc12de "<init>" (cl_Jxc12dei P) obj := by
  refine ⟨hE.2.1, hE.2.2.2.2.1.1, hE.2.2.2.2.1.2, hE.2.2.2.2.2.1, fun s args meth A hW hold hsz hA hnm => ⟨?_, ?_, ?_, ?_, ?_, ?_, ?_, ?_, tail_mk hE hW⟩⟩
  · intro j ci k ty w h
    change fl_Jxc12dei j = some (ci, k, ty, w) at h
    unfold fl_Jxc12dei at h
    split at h
    · cases h; exact ⟨fl_mk hE hW rfl (by decide) us_Jx4a65c ug_Jx4a65c tw_71, fun _ => fp_mk hE hW rfl (by decide) us_Jx4a65c ug_Jx4a65c tyJx4a65c_ok nmJx4a65c rfl rfl tw_71⟩
    · cases h
  · intro j ci fs h
    cases h
  · intro j v h
    cases h
  · intro j v h
    cases h
  · intro j ci h
    cases h
  · intro j a v h
    cases h
  · intro j h
    change (0 : Nat) = 1 at h; cases h
  · intro j h
    change (0 : Nat) = 2 at h; cases h
theorem clok_Jxa1e45 (hE : E0 l s0 D cy P a0) (mname : String) : EnvC l s0 D cy P.2.1 RJxa1e45 mname (cl_Jxa1e45 P) obj := by
  refine ⟨hE.2.1, hE.2.2.2.2.1.1, hE.2.2.2.2.1.2, hE.2.2.2.2.2.1, fun s args meth A hW hold hsz hA hnm => ⟨?_, ?_, ?_, ?_, ?_, ?_, ?_, ?_, tail_mk hE hW⟩⟩
  · intro j ci k ty w h
    cases h
  · intro j ci fs h
    cases h
  · intro j v h
    cases h
  · intro j v h
    cases h
  · intro j ci h
    cases h
  · intro j a v h
    cases h
  · intro j h
    change (0 : Nat) = 1 at h; cases h
  · intro j h
    change (0 : Nat) = 2 at h; cases h
theorem clok_Jxa1e45i (hE : E0 l s0 D cy P a0) : EnvC l s0 D cy P.2.1 RJxa1e45 "<init>" (cl_Jxa1e45i P) obj := by
  refine ⟨hE.2.1, hE.2.2.2.2.1.1, hE.2.2.2.2.1.2, hE.2.2.2.2.2.1, fun s args meth A hW hold hsz hA hnm => ⟨?_, ?_, ?_, ?_, ?_, ?_, ?_, ?_, tail_mk hE hW⟩⟩
  · intro j ci k ty w h
    cases h
  · intro j ci fs h
    cases h
  · intro j v h
    cases h
  · intro j v h
    cases h
  · intro j ci h
    cases h
  · intro j a v h
    cases h
  · intro j h
    change (0 : Nat) = 1 at h; cases h
  · intro j h
    change (0 : Nat) = 2 at h; cases h
theorem clok_J0 (hE : E0 l s0 D cy P a0) (mname : String) : EnvC l s0 D cy P.2.1 RJ0 mname (cl_J0 P) obj := by
  refine ⟨hE.2.1, hE.2.2.2.2.1.1, hE.2.2.2.2.1.2, hE.2.2.2.2.2.1, fun s args meth A hW hold hsz hA hnm => ⟨?_, ?_, ?_, ?_, ?_, ?_, ?_, ?_, tail_mk hE hW⟩⟩
  · intro j ci k ty w h
    cases h
  · intro j ci fs h
    cases h
  · intro j v h
    cases h
  · intro j v h
    change gs_J0 P j = some v at h
    unfold gs_J0 at h
    split at h
    · cases h; exact ⟨_, _, _, _, va_Z_at hE.2.2.2.2.2.2.2.2.2.2.1 hW.alike hold hA, wd hE hW tw_562 rfl, fun x h => h⟩
    · cases h; exact ⟨_, _, _, _, va_Z_at hE.2.2.2.2.2.2.2.2.2.2.2.1 hW.alike hold hA, wd hE hW tw_578 rfl, fun x h => h⟩
    · cases h
  · intro j ci h
    cases h
  · intro j a v h
    change og_J0 P j a = some v at h
    unfold og_J0 at h
    split at h
    · cases hq : P.2.2.2.1 a with
      | none => rw [hq] at h; cases h
      | some v9 => rw [hq] at h; cases h; exact ⟨_, _, _, _, va_OF_at (hE.2.2.2.2.2.2.1 a v9 hq).2.2 hW.alike hold hA, wd hE hW tw_1222 rfl, fun x h => h⟩
    · cases hq : P.2.2.2.1 a with
      | none => rw [hq] at h; cases h
      | some v9 => rw [hq] at h; cases h; exact ⟨_, _, _, _, va_OF_at (hE.2.2.2.2.2.2.1 a v9 hq).2.1 hW.alike hold hA, wd hE hW tw_1223 rfl, fun x h => h⟩
    · cases h
  · intro j h
    change (0 : Nat) = 1 at h; cases h
  · intro j h
    change (0 : Nat) = 2 at h; cases h
theorem clok_J1 (hE : E0 l s0 D cy P a0) (mname : String) : EnvC l s0 D cy P.2.1 RJ1 mname (cl_J1 P) obj := by
  refine ⟨hE.2.1, hE.2.2.2.2.1.1, hE.2.2.2.2.1.2, hE.2.2.2.2.2.1, fun s args meth A hW hold hsz hA hnm => ⟨?_, ?_, ?_, ?_, ?_, ?_, ?_, ?_, tail_mk hE hW⟩⟩
  · intro j ci k ty w h
    cases h
  · intro j ci fs h
    cases h
  · intro j v h
    cases h
  · intro j v h
    cases h
  · intro j ci h
    cases h
  · intro j a v h
    cases h
  · intro j h
    change (0 : Nat) = 1 at h; cases h
  · intro j h
    change (0 : Nat) = 2 at h; cases h
theorem clok_J3 (hE : E0 l s0 D cy P a0) (mname : String) : EnvC l s0 D cy P.2.1 RJ3 mname (cl_J3 P) obj := by
  refine ⟨hE.2.1, hE.2.2.2.2.1.1, hE.2.2.2.2.1.2, hE.2.2.2.2.2.1, fun s args meth A hW hold hsz hA hnm => ⟨?_, ?_, ?_, ?_, ?_, ?_, ?_, ?_, tail_mk hE hW⟩⟩
  · intro j ci k ty w h
    cases h
  · intro j ci fs h
    cases h
  · intro j v h
    cases h
  · intro j v h
    cases h
  · intro j ci h
    cases h
  · intro j a v h
    cases h
  · intro j h
    change (0 : Nat) = 1 at h; cases h
  · intro j h
    change (0 : Nat) = 2 at h; cases h
theorem clok_J7 (hE : E0 l s0 D cy P a0) (mname : String) : EnvC l s0 D cy P.2.1 RJ7 mname (cl_J7 P) obj := by
  refine ⟨hE.2.1, hE.2.2.2.2.1.1, hE.2.2.2.2.1.2, hE.2.2.2.2.2.1, fun s args meth A hW hold hsz hA hnm => ⟨?_, ?_, ?_, ?_, ?_, ?_, ?_, ?_, tail_mk hE hW⟩⟩
  · intro j ci k ty w h
    cases h
  · intro j ci fs h
    cases h
  · intro j v h
    change ld_J7 P j = some v at h
    unfold ld_J7 at h
    split at h
    · cases h; exact Or.inr (Or.inl ⟨"[Ljava/lang/Object;", _, rfl, wd hE hW tw_407 rfl, va_Mi.moved hW.alike hE.2.2.2.2.2.2.2.2.2.2.2.2.2.1⟩)
    · cases h
  · intro j v h
    cases h
  · intro j ci h
    cases h
  · intro j a v h
    cases h
  · intro j h
    change ra_J7 j = 1 at h
    unfold ra_J7 at h
    split at h
    · exact wd hE hW tw_409 rfl
    · cases h
  · intro j h
    change ra_J7 j = 2 at h
    unfold ra_J7 at h
    split at h
    · cases h
    · cases h
theorem clok_J8 (hE : E0 l s0 D cy P a0) (mname : String) : EnvC l s0 D cy P.2.1 RJ8 mname (cl_J8 P) obj := by
  refine ⟨hE.2.1, hE.2.2.2.2.1.1, hE.2.2.2.2.1.2, hE.2.2.2.2.2.1, fun s args meth A hW hold hsz hA hnm => ⟨?_, ?_, ?_, ?_, ?_, ?_, ?_, ?_, tail_mk hE hW⟩⟩
  · intro j ci k ty w h
    cases h
  · intro j ci fs h
    cases h
  · intro j v h
    change ld_J8 P j = some v at h
    unfold ld_J8 at h
    split at h
    · cases h; exact Or.inr (Or.inr ⟨_, rfl, wd hE hW tw_378 rfl⟩)
    · cases h
  · intro j v h
    cases h
  · intro j ci h
    cases h
  · intro j a v h
    cases h
  · intro j h
    change (0 : Nat) = 1 at h; cases h
  · intro j h
    change (0 : Nat) = 2 at h; cases h
theorem clok_J9 (hE : E0 l s0 D cy P a0) (mname : String) : EnvC l s0 D cy P.2.1 RJ9 mname (cl_J9 P) obj := by
  refine ⟨hE.2.1, hE.2.2.2.2.1.1, hE.2.2.2.2.1.2, hE.2.2.2.2.2.1, fun s args meth A hW hold hsz hA hnm => ⟨?_, ?_, ?_, ?_, ?_, ?_, ?_, ?_, tail_mk hE hW⟩⟩
  · intro j ci k ty w h
    cases h
  · intro j ci fs h
    cases h
  · intro j v h
    cases h
  · intro j v h
    cases h
  · intro j ci h
    cases h
  · intro j a v h
    cases h
  · intro j h
    change (0 : Nat) = 1 at h; cases h
  · intro j h
    change (0 : Nat) = 2 at h; cases h
theorem clok_J15 (hE : E0 l s0 D cy P a0) (mname : String) : EnvC l s0 D cy P.2.1 RJ15 mname (cl_J15 P) obj := by
  refine ⟨hE.2.1, hE.2.2.2.2.1.1, hE.2.2.2.2.1.2, hE.2.2.2.2.2.1, fun s args meth A hW hold hsz hA hnm => ⟨?_, ?_, ?_, ?_, ?_, ?_, ?_, ?_, tail_mk hE hW⟩⟩
  · intro j ci k ty w h
    cases h
  · intro j ci fs h
    cases h
  · intro j v h
    cases h
  · intro j v h
    cases h
  · intro j ci h
    cases h
  · intro j a v h
    cases h
  · intro j h
    change (0 : Nat) = 1 at h; cases h
  · intro j h
    change (0 : Nat) = 2 at h; cases h
theorem clok_L (hE : E0 l s0 D cy P a0) (mname : String) : EnvC l s0 D cy P.2.1 RL mname (cl_L P) obj := by
  refine ⟨hE.2.1, hE.2.2.2.2.1.1, hE.2.2.2.2.1.2, hE.2.2.2.2.2.1, fun s args meth A hW hold hsz hA hnm => ⟨?_, ?_, ?_, ?_, ?_, ?_, ?_, ?_, tail_mk hE hW⟩⟩
  · intro j ci k ty w h
    cases h
  · intro j ci fs h
    change nw_L j = some (ci, fs) at h
    unfold nw_L at h
    split at h
    · cases h; exact nw_mk hE hW rfl rfl us_X8 ug_X8 tyX8_ok tw_30 tw_31 tw_1 (by decide)
    · cases h; exact nw_mk hE hW rfl rfl us_X9 ug_X9 tyX9_ok tw_916 tw_917 tw_8 (by decide)
    · cases h
  · intro j v h
    cases h
  · intro j v h
    cases h
  · intro j ci h
    cases h
  · intro j a v h
    cases h
  · intro j h
    change (0 : Nat) = 1 at h; cases h
  · intro j h
    change (0 : Nat) = 2 at h; cases h
end CK
