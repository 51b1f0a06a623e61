/-! ===== the JDK's own methods ===== -/
def sp_J9_max_7cf53 (cy : Nat → ClassId) (P : Pm) : Sg := mS [0, 0] b0 (fun as σ K _ => match as with
  | [.int x, .int y] => K (some (.int (if x < y then y else x))) σ
  | _ => False)
def sp_J9_min_7cf53 (cy : Nat → ClassId) (P : Pm) : Sg := mS [0, 0] b0 (fun as σ K _ => match as with
  | [.int x, .int y] => K (some (.int (if y < x then y else x))) σ
  | _ => False)
section MM
variable {p : Program} {l : Launch} {e : Env} {R : Room} {s : State} {m : MethodId} {args : Array Value} {below : List Frame} {meth : Method} {c : Code}
variable {s0 : State} {D : va_G} {cy : Nat → ClassId} {P : Pm} {a0 : Array Value} {A : Nat → Prop} {nL : Nat} {own : String} {cc : ByteArray} {Q : State → Prop}
theorem inv_mmax (B : Bd p s m meth c s0 D cy P.2.1 A nL own cc) (hE : E0 l s0 D cy P a0) {j : Nat} (hl : Cond.methodLink own j Lib.Math.max.name ∈ lw_tbl) (hfr : 1 ≤ R.frames) (hlo : 21 ≤ R.locals) : InvOK p l e R s m args below meth c s0 D A nL cc Q (insOf 1 j) (sp_J9_max_7cf53 cy P) := by
  intro as rest σ K KX pc H locs cells slots lsA hlen hT hrest hdg hsz hO hdom hS hc hs kk kx
  have hW := B.2.2.2.2.2.2.2.2.2.1
  obtain ⟨-, hT⟩ := hT
  split at hT
  · rename_i x y
    have hsum := rs_le hrest
    exact va_mmax (y := y) (x := x) (rest := rest) B.1 B.2.1 (by rw [B.2.2.1]; exact hsz.symm) B.2.2.2.1 (wd hE hW hl rfl) (wd hE hW tw_376 rfl) (wd hE hW tw_16 rfl) (wd hE hW tw_377 rfl) hfr (by omega) hc hs hdg (kk _ σ H locs hT hO hdom hS)
  · exact hT.elim
theorem inv_mmin (B : Bd p s m meth c s0 D cy P.2.1 A nL own cc) (hE : E0 l s0 D cy P a0) {j : Nat} (hl : Cond.methodLink own j Lib.Math.min.name ∈ lw_tbl) (hfr : 1 ≤ R.frames) (hlo : 21 ≤ R.locals) : InvOK p l e R s m args below meth c s0 D A nL cc Q (insOf 1 j) (sp_J9_min_7cf53 cy P) := by
  intro as rest σ K KX pc H locs cells slots lsA hlen hT hrest hdg hsz hO hdom hS hc hs kk kx
  have hW := B.2.2.2.2.2.2.2.2.2.1
  obtain ⟨-, hT⟩ := hT
  split at hT
  · rename_i x y
    have hsum := rs_le hrest
    exact va_mmin (y := y) (x := x) (rest := rest) B.1 B.2.1 (by rw [B.2.2.1]; exact hsz.symm) B.2.2.2.1 (wd hE hW hl rfl) (wd hE hW tw_411 rfl) (wd hE hW tw_16 rfl) (wd hE hW tw_412 rfl) hfr (by omega) hc hs hdg (kk _ σ H locs hT hO hdom hS)
  · exact hT.elim
end MM
def iv_J3_checkIndex_8e157 (cy : Nat → ClassId) (P : Pm) : Nat → Nat → Option Sg
  | _, _ => none
def sp_J3_checkIndex_8e157 (cy : Nat → ClassId) (P : Pm) : Sg := mS [0, 0, 2] b0 (fun as σ K _ => match as with
  | [.int i, .int n, _] => (i < 0) = False ∧ (i < n) = True ∧ K (some (.int i)) σ
  | _ => False)
set_option maxHeartbeats 2000000 in
theorem m_J3_checkIndex_8e157 (cy : Nat → ClassId) (P : Pm) (hP : PmOK P) : MOK (cl_J3 P) cy P.2.1 obj cJ3_checkIndex_8e157 (iv_J3_checkIndex_8e157 cy P) (fun _ => none) (fun _ => some none) (some .int) 3 (sp_J3_checkIndex_8e157 cy P) := by
  intro as σ K KX J hlen hT hJ hOld
  obtain ⟨-, hT⟩ := hT
  split at hT
  · rename_i i n fm
    obtain ⟨h1, h2, hT⟩ := hT
    refine wp_of_S hJ (ct []) 400 _ _ _ _ _ _ ?_
    simp only [w_iload_n (cut := ct []) (pc' := 1) (i := 0) rfl dJ3_checkIndex_8e157_0 rfl rfl, w_if_lt (cut := ct []) (pc' := 4) (t := 9) rfl dJ3_checkIndex_8e157_1 rfl (by decide) rfl, w_iload_n (cut := ct []) (pc' := 5) (i := 0) rfl dJ3_checkIndex_8e157_4 rfl rfl, w_iload_n (cut := ct []) (pc' := 6) (i := 1) rfl dJ3_checkIndex_8e157_5 rfl rfl, w_icmp_lt (cut := ct []) (pc' := 9) (t := 16) rfl dJ3_checkIndex_8e157_6 rfl (by decide) rfl, w_aload_n (cut := ct []) (pc' := 10) (i := 2) rfl dJ3_checkIndex_8e157_9 rfl rfl, w_iload_n (cut := ct []) (pc' := 11) (i := 0) rfl dJ3_checkIndex_8e157_10 rfl rfl, w_iload_n (cut := ct []) (pc' := 12) (i := 1) rfl dJ3_checkIndex_8e157_11 rfl rfl, w_iload_n (cut := ct []) (pc' := 17) (i := 0) rfl dJ3_checkIndex_8e157_16 rfl rfl, w_ireturnI (cut := ct []) rfl dJ3_checkIndex_8e157_17 rfl, rsum, cg_int, cg_ref, cg_null, nby0, strd, mStr, onAL, true_imp_iff, false_imp_iff, not_true_eq_false, not_false_eq_true, Classical.not_not, eq_self, e10, e01, em1, Int32.reduceLT, Int32.reduceLE, onBoat, onGale, onOut, onPort, onRep, onWarn, yn, mI, mS, b0, okA, rcvd, nb0, nb1, ini, List.map_cons, List.map_nil, List.replicate_zero, List.replicate_succ, List.append_nil, ldI, ldA, incK, getK, putK, oldK, castK, inv1, nwO, nwA, nwR, alen, ald, bald, ast, lald, last, rald, rast, goTo, nth, sto, setN, popN, okv, cat1_int, cat1_ref, cat1_null, cat1_rf, va_rf, hup_same, hup_hup, List.length_cons, List.length_nil, List.nil_append, List.cons_append, Option.toList, true_and, and_true, Nat.reduceAdd, Nat.reduceSub, Nat.reduceLT, Nat.reduceLeDiff, Nat.zero_le, Nat.sub_zero, Nat.zero_lt_succ, Nat.lt_add_left_iff_pos, Nat.succ_lt_succ_iff, sp_J3_checkIndex_8e157, h1, h2]
    exact hT
  · exact hT.elim
set_option maxRecDepth 100000 in
theorem con_J3_checkIndex_8e157 {l : Launch} {s0 : State} {D : va_G} {cy : Nat → ClassId} {P : Pm} {a0 : Array Value} (hE : E0 l s0 D cy P a0) : Con l s0 D yJ3_checkIndex_8e157 (Cond.code yJ3_checkIndex_8e157 cJ3_checkIndex_8e157 3 (some .int)) 0 0 (sp_J3_checkIndex_8e157 cy P) := by
  refine con_of (clok_J3 hE _) (by decide) (fun as σ K KX h => okA_cat h.1) (Nat.le_of_ble_eq_true rfl) ?_ ?_ (m_J3_checkIndex_8e157 cy P hE.2.2.2.1)
  · intro p e R s m args below meth c A Q hfr hlo hW B kd j g hg
    cases hg
  · intro p e R s m args below meth c A K KX hfr hlo hW B htab
    exact xok_none htab
def iv_J15_checkIndex_7cf53 (cy : Nat → ClassId) (P : Pm) : Nat → Nat → Option Sg
  | 1, 105 => some (sp_J3_checkIndex_8e157 cy P)
  | _, _ => none
def sp_J15_checkIndex_7cf53 (cy : Nat → ClassId) (P : Pm) : Sg := mS [0, 0] b0 (fun as σ K _ => match as with
  | [.int i, .int n] => (i < 0) = False ∧ (i < n) = True ∧ K (some (.int i)) σ
  | _ => False)
set_option maxHeartbeats 2000000 in
theorem m_J15_checkIndex_7cf53 (cy : Nat → ClassId) (P : Pm) (hP : PmOK P) : MOK (cl_J15 P) cy P.2.1 obj cJ15_checkIndex_7cf53 (iv_J15_checkIndex_7cf53 cy P) (fun _ => none) (fun _ => some none) (some .int) 2 (sp_J15_checkIndex_7cf53 cy P) := by
  intro as σ K KX J hlen hT hJ hOld
  obtain ⟨-, hT⟩ := hT
  split at hT
  · rename_i i n
    obtain ⟨h1, h2, hT⟩ := hT
    refine wp_of_S hJ (ct []) 400 _ _ _ _ _ _ ?_
    simp only [w_iload_n (cut := ct []) (pc' := 1) (i := 0) rfl dJ15_checkIndex_7cf53_0 rfl rfl, w_iload_n (cut := ct []) (pc' := 2) (i := 1) rfl dJ15_checkIndex_7cf53_1 rfl rfl, w_aconst_null (cut := ct []) (pc' := 3) rfl dJ15_checkIndex_7cf53_2 rfl, w_invoke (inv := iv_J15_checkIndex_7cf53 cy P) (kd := 1) (f := 105) (g := sp_J3_checkIndex_8e157 cy P) (cut := ct []) rfl dJ15_checkIndex_7cf53_3 rfl (by decide) rfl, w_ireturnI (cut := ct []) rfl dJ15_checkIndex_7cf53_6 rfl, rsum, cg_int, cg_ref, cg_null, nby0, strd, mStr, onAL, true_imp_iff, false_imp_iff, not_true_eq_false, not_false_eq_true, Classical.not_not, eq_self, e10, e01, em1, Int32.reduceLT, Int32.reduceLE, onBoat, onGale, onOut, onPort, onRep, onWarn, yn, mI, mS, b0, okA, rcvd, nb0, nb1, ini, List.map_cons, List.map_nil, List.replicate_zero, List.replicate_succ, List.append_nil, ldI, ldA, incK, getK, putK, oldK, castK, inv1, nwO, nwA, nwR, alen, ald, bald, ast, lald, last, rald, rast, goTo, nth, sto, setN, popN, okv, cat1_int, cat1_ref, cat1_null, cat1_rf, va_rf, hup_same, hup_hup, List.length_cons, List.length_nil, List.nil_append, List.cons_append, Option.toList, true_and, and_true, Nat.reduceAdd, Nat.reduceSub, Nat.reduceLT, Nat.reduceLeDiff, Nat.zero_le, Nat.sub_zero, Nat.zero_lt_succ, Nat.lt_add_left_iff_pos, Nat.succ_lt_succ_iff, sp_J15_checkIndex_7cf53, h1, h2, sp_J3_checkIndex_8e157]
    exact hT
  · exact hT.elim
set_option maxRecDepth 100000 in
theorem con_J15_checkIndex_7cf53 {l : Launch} {s0 : State} {D : va_G} {cy : Nat → ClassId} {P : Pm} {a0 : Array Value} (hE : E0 l s0 D cy P a0) : Con l s0 D yJ15_checkIndex_7cf53 (Cond.code yJ15_checkIndex_7cf53 cJ15_checkIndex_7cf53 2 (some .int)) 1 22 (sp_J15_checkIndex_7cf53 cy P) := by
  refine con_of (clok_J15 hE _) (by decide) (fun as σ K KX h => okA_cat h.1) (Nat.le_of_ble_eq_true rfl) ?_ ?_ (m_J15_checkIndex_7cf53 cy P hE.2.2.2.1)
  · intro p e R s m args below meth c A Q hfr hlo hW B kd j g hg
    unfold iv_J15_checkIndex_7cf53 at hg
    split at hg
    · cases hg; exact inv_S B (con_J3_checkIndex_8e157 hE) (cw_mk hE hW tw_215 rfl tw_21 ⟨by decide, by decide⟩ rfl) (wd hE hW tw_213 rfl) (wd hE hW tw_214 rfl) (by rw [hfr]; decide) (by rw [hlo]; decide)
    · cases hg
  · intro p e R s m args below meth c A K KX hfr hlo hW B htab
    exact xok_none htab
def iv_Jx4a65c_size_8abf5 (cy : Nat → ClassId) (P : Pm) : Nat → Nat → Option Sg
  | _, _ => none
def sp_Jx4a65c_size_8abf5 (cy : Nat → ClassId) (P : Pm) : Sg := mI 0 [] b0 (fun as σ K _ => match as with
  | [.ref q] => onAL σ q (fun mc el n => K (some (.int n)) σ)
  | _ => False)
set_option maxHeartbeats 2000000 in
theorem m_Jx4a65c_size_8abf5 (cy : Nat → ClassId) (P : Pm) (hP : PmOK P) : MOK (cl_Jx4a65c P) cy P.2.1 obj cJx4a65c_size_8abf5 (iv_Jx4a65c_size_8abf5 cy P) (fun _ => none) (fun _ => some none) (some .int) 1 (sp_Jx4a65c_size_8abf5 cy P) := by
  intro as σ K KX J hlen hT hJ hOld
  obtain ⟨-, -, hT⟩ := hT
  split at hT
  · rename_i q
    obtain ⟨mc, el, n, hq, hT⟩ := onAL_spec hT
    refine wp_of_S hJ (ct []) 400 _ _ _ _ _ _ ?_
    simp only [w_aload_n (cut := ct []) (pc' := 1) (i := 0) rfl dJx4a65c_size_8abf5_0 rfl rfl, w_getfield (cut := ct []) (pc' := 4) rfl dJx4a65c_size_8abf5_1 rfl (q_Jx4a65c_f48 P), w_ireturnI (cut := ct []) rfl dJx4a65c_size_8abf5_4 rfl, rsum, cg_int, cg_ref, cg_null, nby0, strd, mStr, onAL, true_imp_iff, false_imp_iff, not_true_eq_false, not_false_eq_true, Classical.not_not, eq_self, e10, e01, em1, Int32.reduceLT, Int32.reduceLE, onBoat, onGale, onOut, onPort, onRep, onWarn, yn, mI, mS, b0, okA, rcvd, nb0, nb1, ini, List.map_cons, List.map_nil, List.replicate_zero, List.replicate_succ, List.append_nil, ldI, ldA, incK, getK, putK, oldK, castK, inv1, nwO, nwA, nwR, alen, ald, bald, ast, lald, last, rald, rast, goTo, nth, sto, setN, popN, okv, cat1_int, cat1_ref, cat1_null, cat1_rf, va_rf, hup_same, hup_hup, List.length_cons, List.length_nil, List.nil_append, List.cons_append, Option.toList, true_and, and_true, Nat.reduceAdd, Nat.reduceSub, Nat.reduceLT, Nat.reduceLeDiff, Nat.zero_le, Nat.sub_zero, Nat.zero_lt_succ, Nat.lt_add_left_iff_pos, Nat.succ_lt_succ_iff, sp_Jx4a65c_size_8abf5, hq]
    exact hT
  · exact hT.elim
set_option maxRecDepth 100000 in
theorem con_Jx4a65c_size_8abf5 {l : Launch} {s0 : State} {D : va_G} {cy : Nat → ClassId} {P : Pm} {a0 : Array Value} (hE : E0 l s0 D cy P a0) : Con l s0 D yJx4a65c_size_8abf5 (Cond.code yJx4a65c_size_8abf5 cJx4a65c_size_8abf5 1 (some .int)) 0 0 (sp_Jx4a65c_size_8abf5 cy P) := by
  refine con_of (clok_Jx4a65c hE _) (by decide) (fun as σ K KX h => okA_cat h.1) (Nat.le_of_ble_eq_true rfl) ?_ ?_ (m_Jx4a65c_size_8abf5 cy P hE.2.2.2.1)
  · intro p e R s m args below meth c A Q hfr hlo hW B kd j g hg
    cases hg
  · intro p e R s m args below meth c A K KX hfr hlo hW B htab
    exact xok_none htab
/-- an element of a list's array -/
def elAt (cy : Nat → ClassId) (σ : Hp) (el : Nat) (i : Int32) (k : Nat → Prop) : Prop := match σ el with
  | some (.inl (c, cap, .inr (.inr (.inr (.inr f))))) => c = cy 3 ∧ vp_in i cap ∧ (match f i.toNatClampNeg with
    | some a => k a
    | none => False)
  | _ => False
theorem elAt_spec {cy : Nat → ClassId} {σ : Hp} {el : Nat} {i : Int32} {k : Nat → Prop} (h : elAt cy σ el i k) : ∃ cap f a, σ el = some (oRefs cy cap f) ∧ vp_in i cap ∧ f i.toNatClampNeg = some a ∧ k a := by
  unfold elAt at h
  split at h
  · rename_i c cap f hs
    obtain ⟨rfl, h1, h2⟩ := h
    split at h2
    · rename_i a ha
      exact ⟨cap, f, a, hs, h1, ha, h2⟩
    · exact h2.elim
  · exact h.elim
def iv_Jx4a65c_elementData_915e3 (cy : Nat → ClassId) (P : Pm) : Nat → Nat → Option Sg
  | _, _ => none
def sp_Jx4a65c_elementData_915e3 (cy : Nat → ClassId) (P : Pm) : Sg := mI 0 [0] b0 (fun as σ K _ => match as with
  | [.ref q, .int i] => onAL σ q (fun mc el n => elAt cy σ el i (fun a => K (some (.ref a)) σ))
  | _ => False)
set_option maxHeartbeats 2000000 in
theorem m_Jx4a65c_elementData_915e3 (cy : Nat → ClassId) (P : Pm) (hP : PmOK P) : MOK (cl_Jx4a65c P) cy P.2.1 obj cJx4a65c_elementData_915e3 (iv_Jx4a65c_elementData_915e3 cy P) (fun _ => none) (fun _ => some none) (some (.object "java/lang/Object")) 2 (sp_Jx4a65c_elementData_915e3 cy P) := by
  intro as σ K KX J hlen hT hJ hOld
  obtain ⟨-, -, hT⟩ := hT
  split at hT
  · rename_i q i
    obtain ⟨mc, el, n, hq, hT⟩ := onAL_spec hT
    obtain ⟨cap, f, a, hs, h1, ha, hT⟩ := elAt_spec hT
    have h1 : vp_in i cap = True := eq_true h1
    all_goals
      refine wp_of_S hJ (ct []) 400 _ _ _ _ _ _ ?_
      simp only [w_aload_n (cut := ct []) (pc' := 1) (i := 0) rfl dJx4a65c_elementData_915e3_0 rfl rfl, w_getfield (cut := ct []) (pc' := 4) rfl dJx4a65c_elementData_915e3_1 rfl (q_Jx4a65c_f9 P), w_iload_n (cut := ct []) (pc' := 5) (i := 1) rfl dJx4a65c_elementData_915e3_4 rfl rfl, w_aaload (cut := ct []) rfl dJx4a65c_elementData_915e3_5, w_areturn_ref (cut := ct []) rfl dJx4a65c_elementData_915e3_6 rfl, w_areturn_null (cut := ct []) rfl dJx4a65c_elementData_915e3_6 rfl, rsum, cg_int, cg_ref, cg_null, nby0, strd, mStr, onAL, true_imp_iff, false_imp_iff, not_true_eq_false, not_false_eq_true, Classical.not_not, eq_self, e10, e01, em1, Int32.reduceLT, Int32.reduceLE, onBoat, onGale, onOut, onPort, onRep, onWarn, yn, mI, mS, b0, okA, rcvd, nb0, nb1, ini, List.map_cons, List.map_nil, List.replicate_zero, List.replicate_succ, List.append_nil, ldI, ldA, incK, getK, putK, oldK, castK, inv1, nwO, nwA, nwR, alen, ald, bald, ast, lald, last, rald, rast, goTo, nth, sto, setN, popN, okv, cat1_int, cat1_ref, cat1_null, cat1_rf, va_rf, hup_same, hup_hup, List.length_cons, List.length_nil, List.nil_append, List.cons_append, Option.toList, true_and, and_true, Nat.reduceAdd, Nat.reduceSub, Nat.reduceLT, Nat.reduceLeDiff, Nat.zero_le, Nat.sub_zero, Nat.zero_lt_succ, Nat.lt_add_left_iff_pos, Nat.succ_lt_succ_iff, sp_Jx4a65c_elementData_915e3, hq, hs, ha, h1, true_or]
      exact hT
  · exact hT.elim
set_option maxRecDepth 100000 in
theorem con_Jx4a65c_elementData_915e3 {l : Launch} {s0 : State} {D : va_G} {cy : Nat → ClassId} {P : Pm} {a0 : Array Value} (hE : E0 l s0 D cy P a0) : Con l s0 D yJx4a65c_elementData_915e3 (Cond.code yJx4a65c_elementData_915e3 cJx4a65c_elementData_915e3 2 (some (.object "java/lang/Object"))) 0 0 (sp_Jx4a65c_elementData_915e3 cy P) := by
  refine con_of (clok_Jx4a65c hE _) (by decide) (fun as σ K KX h => okA_cat h.1) (Nat.le_of_ble_eq_true rfl) ?_ ?_ (m_Jx4a65c_elementData_915e3 cy P hE.2.2.2.1)
  · intro p e R s m args below meth c A Q hfr hlo hW B kd j g hg
    cases hg
  · intro p e R s m args below meth c A K KX hfr hlo hW B htab
    exact xok_none htab
def iv_Jx4a65c_get_915e3 (cy : Nat → ClassId) (P : Pm) : Nat → Nat → Option Sg
  | 1, 118 => some (sp_J15_checkIndex_7cf53 cy P)
  | 0, 123 => some (sp_Jx4a65c_elementData_915e3 cy P)
  | _, _ => none
def sp_Jx4a65c_get_915e3 (cy : Nat → ClassId) (P : Pm) : Sg := mI 0 [0] b0 (fun as σ K _ => match as with
  | [.ref q, .int i] => onAL σ q (fun mc el n => (i < 0) = False ∧ (i < n) = True ∧ elAt cy σ el i (fun a => K (some (.ref a)) σ))
  | _ => False)
set_option maxHeartbeats 2000000 in
theorem m_Jx4a65c_get_915e3 (cy : Nat → ClassId) (P : Pm) (hP : PmOK P) : MOK (cl_Jx4a65c P) cy P.2.1 obj cJx4a65c_get_915e3 (iv_Jx4a65c_get_915e3 cy P) (fun _ => none) (fun _ => some none) (some (.object "java/lang/Object")) 2 (sp_Jx4a65c_get_915e3 cy P) := by
  intro as σ K KX J hlen hT hJ hOld
  obtain ⟨-, -, hT⟩ := hT
  split at hT
  · rename_i q i
    obtain ⟨mc, el, n, hq, h1, h2, hT⟩ := onAL_spec hT
    refine wp_of_S hJ (ct []) 400 _ _ _ _ _ _ ?_
    simp only [w_iload_n (cut := ct []) (pc' := 1) (i := 1) rfl dJx4a65c_get_915e3_0 rfl rfl, w_aload_n (cut := ct []) (pc' := 2) (i := 0) rfl dJx4a65c_get_915e3_1 rfl rfl, w_getfield (cut := ct []) (pc' := 5) rfl dJx4a65c_get_915e3_2 rfl (q_Jx4a65c_f48 P), w_invoke (inv := iv_Jx4a65c_get_915e3 cy P) (kd := 1) (f := 118) (g := sp_J15_checkIndex_7cf53 cy P) (cut := ct []) rfl dJx4a65c_get_915e3_5 rfl (by decide) rfl, w_pop (cut := ct []) (pc' := 9) rfl dJx4a65c_get_915e3_8 rfl, w_aload_n (cut := ct []) (pc' := 10) (i := 0) rfl dJx4a65c_get_915e3_9 rfl rfl, w_iload_n (cut := ct []) (pc' := 11) (i := 1) rfl dJx4a65c_get_915e3_10 rfl rfl, w_invoke (inv := iv_Jx4a65c_get_915e3 cy P) (kd := 0) (f := 123) (g := sp_Jx4a65c_elementData_915e3 cy P) (cut := ct []) rfl dJx4a65c_get_915e3_11 rfl (by decide) rfl, w_areturn_ref (cut := ct []) rfl dJx4a65c_get_915e3_14 rfl, w_areturn_null (cut := ct []) rfl dJx4a65c_get_915e3_14 rfl, rsum, cg_int, cg_ref, cg_null, nby0, strd, mStr, onAL, true_imp_iff, false_imp_iff, not_true_eq_false, not_false_eq_true, Classical.not_not, eq_self, e10, e01, em1, Int32.reduceLT, Int32.reduceLE, onBoat, onGale, onOut, onPort, onRep, onWarn, yn, mI, mS, b0, okA, rcvd, nb0, nb1, ini, List.map_cons, List.map_nil, List.replicate_zero, List.replicate_succ, List.append_nil, ldI, ldA, incK, getK, putK, oldK, castK, inv1, nwO, nwA, nwR, alen, ald, bald, ast, lald, last, rald, rast, goTo, nth, sto, setN, popN, okv, cat1_int, cat1_ref, cat1_null, cat1_rf, va_rf, hup_same, hup_hup, List.length_cons, List.length_nil, List.nil_append, List.cons_append, Option.toList, true_and, and_true, Nat.reduceAdd, Nat.reduceSub, Nat.reduceLT, Nat.reduceLeDiff, Nat.zero_le, Nat.sub_zero, Nat.zero_lt_succ, Nat.lt_add_left_iff_pos, Nat.succ_lt_succ_iff, sp_Jx4a65c_get_915e3, hq, h1, h2, sp_J15_checkIndex_7cf53, sp_Jx4a65c_elementData_915e3]
    exact hT
  · exact hT.elim
set_option maxRecDepth 100000 in
theorem con_Jx4a65c_get_915e3 {l : Launch} {s0 : State} {D : va_G} {cy : Nat → ClassId} {P : Pm} {a0 : Array Value} (hE : E0 l s0 D cy P a0) : Con l s0 D yJx4a65c_get_915e3 (Cond.code yJx4a65c_get_915e3 cJx4a65c_get_915e3 2 (some (.object "java/lang/Object"))) 2 43 (sp_Jx4a65c_get_915e3 cy P) := by
  refine con_of (clok_Jx4a65c hE _) (by decide) (fun as σ K KX h => okA_cat h.1) (Nat.le_of_ble_eq_true rfl) ?_ ?_ (m_Jx4a65c_get_915e3 cy P hE.2.2.2.1)
  · intro p e R s m args below meth c A Q hfr hlo hW B kd j g hg
    unfold iv_Jx4a65c_get_915e3 at hg
    split at hg
    · cases hg; exact inv_S B (con_J15_checkIndex_7cf53 hE) (cw_mk hE hW tw_212 rfl tw_20 ⟨by decide, by decide⟩ rfl) (wd hE hW tw_210 rfl) (wd hE hW tw_211 rfl) (by rw [hfr]; decide) (by rw [hlo]; decide)
    · cases hg; exact inv_V (ci := 0) B (con_Jx4a65c_elementData_915e3 hE) rfl (fun as σ K KX h => rcvd_spec h.2.1) (cw_mk hE hW tw_219 rfl tw_5 ⟨by decide, by decide⟩ rfl) rfl (wd hE hW tw_216 rfl) (wd hE hW tw_217 rfl) (wd hE hW tw_218 rfl) (by rw [hfr]; decide) (by rw [hlo]; decide)
    · cases hg
  · intro p e R s m args below meth c A K KX hfr hlo hW B htab
    exact xok_none htab
def iv_Jxa1e45_init_da8c8 (cy : Nat → ClassId) (P : Pm) : Nat → Nat → Option Sg
  | 2, 1 => some (sp_OBJINIT cy P)
  | _, _ => none
def sp_Jxa1e45_init_da8c8 (cy : Nat → ClassId) (P : Pm) : Sg := mI 0 [] b0 (fun as σ K _ => match as with
  | [.ref q] => K none σ
  | _ => False)
set_option maxHeartbeats 2000000 in
theorem m_Jxa1e45_init_da8c8 (cy : Nat → ClassId) (P : Pm) (hP : PmOK P) : MOK (cl_Jxa1e45i P) cy P.2.1 obj cJxa1e45_init_da8c8 (iv_Jxa1e45_init_da8c8 cy P) (fun _ => none) (fun _ => some none) (none) 1 (sp_Jxa1e45_init_da8c8 cy P) := by
  intro as σ K KX J hlen hT hJ hOld
  obtain ⟨-, -, hT⟩ := hT
  split at hT
  · rename_i q
    refine wp_of_S hJ (ct []) 400 _ _ _ _ _ _ ?_
    simp only [w_aload_n (cut := ct []) (pc' := 1) (i := 0) rfl dJxa1e45_init_da8c8_0 rfl rfl, w_invoke (inv := iv_Jxa1e45_init_da8c8 cy P) (kd := 2) (f := 1) (g := sp_OBJINIT cy P) (cut := ct []) rfl dJxa1e45_init_da8c8_1 rfl (by decide) rfl, w_return (cut := ct []) rfl dJxa1e45_init_da8c8_4 rfl, rsum, cg_int, cg_ref, cg_null, nby0, strd, mStr, onAL, true_imp_iff, false_imp_iff, not_true_eq_false, not_false_eq_true, Classical.not_not, eq_self, e10, e01, em1, Int32.reduceLT, Int32.reduceLE, onBoat, onGale, onOut, onPort, onRep, onWarn, yn, mI, mS, b0, okA, rcvd, nb0, nb1, ini, List.map_cons, List.map_nil, List.replicate_zero, List.replicate_succ, List.append_nil, ldI, ldA, incK, getK, putK, oldK, castK, inv1, nwO, nwA, nwR, alen, ald, bald, ast, lald, last, rald, rast, goTo, nth, sto, setN, popN, okv, cat1_int, cat1_ref, cat1_null, cat1_rf, va_rf, hup_same, hup_hup, List.length_cons, List.length_nil, List.nil_append, List.cons_append, Option.toList, true_and, and_true, Nat.reduceAdd, Nat.reduceSub, Nat.reduceLT, Nat.reduceLeDiff, Nat.zero_le, Nat.sub_zero, Nat.zero_lt_succ, Nat.lt_add_left_iff_pos, Nat.succ_lt_succ_iff, sp_Jxa1e45_init_da8c8, sp_OBJINIT]
    exact hT
  · exact hT.elim
set_option maxRecDepth 100000 in
theorem con_Jxa1e45_init_da8c8 {l : Launch} {s0 : State} {D : va_G} {cy : Nat → ClassId} {P : Pm} {a0 : Array Value} (hE : E0 l s0 D cy P a0) : Con l s0 D yJxa1e45_init_da8c8 (Cond.code yJxa1e45_init_da8c8 cJxa1e45_init_da8c8 1 none) 1 20 (sp_Jxa1e45_init_da8c8 cy P) := by
  refine con_of (clok_Jxa1e45i hE) (by decide) (fun as σ K KX h => okA_cat h.1) (Nat.le_of_ble_eq_true rfl) ?_ ?_ (m_Jxa1e45_init_da8c8 cy P hE.2.2.2.1)
  · intro p e R s m args below meth c A Q hfr hlo hW B kd j g hg
    unfold iv_Jxa1e45_init_da8c8 at hg
    split at hg
    · cases hg; exact inv_obj B hE tw_66 tw_36 tw_37 (by rw [hfr]; decide) (by rw [hlo]; decide)
    · cases hg
  · intro p e R s m args below meth c A K KX hfr hlo hW B htab
    exact xok_none htab
def iv_Jxc12de_init_da8c8 (cy : Nat → ClassId) (P : Pm) : Nat → Nat → Option Sg
  | 2, 1 => some (sp_Jxa1e45_init_da8c8 cy P)
  | _, _ => none
def sp_Jxc12de_init_da8c8 (cy : Nat → ClassId) (P : Pm) : Sg := mI 0 [] b0 (fun as σ K _ => match as with
  | [.ref q] => σ q = some (.inr (0, [.int 0, .null, .int 0])) ∧ K none (hup σ q (.inr (0, [.int 0, .null, .int 0])))
  | _ => False)
set_option maxHeartbeats 2000000 in
theorem m_Jxc12de_init_da8c8 (cy : Nat → ClassId) (P : Pm) (hP : PmOK P) : MOK (cl_Jxc12dei P) cy P.2.1 obj cJxc12de_init_da8c8 (iv_Jxc12de_init_da8c8 cy P) (fun _ => none) (fun _ => some none) (none) 1 (sp_Jxc12de_init_da8c8 cy P) := by
  intro as σ K KX J hlen hT hJ hOld
  obtain ⟨-, -, hT⟩ := hT
  split at hT
  · rename_i q
    obtain ⟨hq, hT⟩ := hT
    refine wp_of_S hJ (ct []) 400 _ _ _ _ _ _ ?_
    simp only [w_aload_n (cut := ct []) (pc' := 1) (i := 0) rfl dJxc12de_init_da8c8_0 rfl rfl, w_invoke (inv := iv_Jxc12de_init_da8c8 cy P) (kd := 2) (f := 1) (g := sp_Jxa1e45_init_da8c8 cy P) (cut := ct []) rfl dJxc12de_init_da8c8_1 rfl (by decide) rfl, w_aload_n (cut := ct []) (pc' := 5) (i := 0) rfl dJxc12de_init_da8c8_4 rfl rfl, w_iconst (cut := ct []) (pc' := 6) (v := 0) rfl dJxc12de_init_da8c8_5 rfl rfl, w_putfield (cut := ct []) (pc' := 9) rfl dJxc12de_init_da8c8_6 rfl (q_Jxc12dei_f7 P), w_return (cut := ct []) rfl dJxc12de_init_da8c8_9 rfl, rsum, cg_int, cg_ref, cg_null, nby0, strd, mStr, onAL, true_imp_iff, false_imp_iff, not_true_eq_false, not_false_eq_true, Classical.not_not, eq_self, e10, e01, em1, Int32.reduceLT, Int32.reduceLE, onBoat, onGale, onOut, onPort, onRep, onWarn, yn, mI, mS, b0, okA, rcvd, nb0, nb1, ini, List.map_cons, List.map_nil, List.replicate_zero, List.replicate_succ, List.append_nil, ldI, ldA, incK, getK, putK, oldK, castK, inv1, nwO, nwA, nwR, alen, ald, bald, ast, lald, last, rald, rast, goTo, nth, sto, setN, popN, okv, cat1_int, cat1_ref, cat1_null, cat1_rf, va_rf, hup_same, hup_hup, List.length_cons, List.length_nil, List.nil_append, List.cons_append, Option.toList, true_and, and_true, Nat.reduceAdd, Nat.reduceSub, Nat.reduceLT, Nat.reduceLeDiff, Nat.zero_le, Nat.sub_zero, Nat.zero_lt_succ, Nat.lt_add_left_iff_pos, Nat.succ_lt_succ_iff, sp_Jxc12de_init_da8c8, hq, sp_Jxa1e45_init_da8c8]
    exact hT
  · exact hT.elim
set_option maxRecDepth 100000 in
theorem con_Jxc12de_init_da8c8 {l : Launch} {s0 : State} {D : va_G} {cy : Nat → ClassId} {P : Pm} {a0 : Array Value} (hE : E0 l s0 D cy P a0) : Con l s0 D yJxc12de_init_da8c8 (Cond.code yJxc12de_init_da8c8 cJxc12de_init_da8c8 1 none) 2 40 (sp_Jxc12de_init_da8c8 cy P) := by
  refine con_of (clok_Jxc12dei hE) (by decide) (fun as σ K KX h => okA_cat h.1) (Nat.le_of_ble_eq_true rfl) ?_ ?_ (m_Jxc12de_init_da8c8 cy P hE.2.2.2.1)
  · intro p e R s m args below meth c A Q hfr hlo hW B kd j g hg
    unfold iv_Jxc12de_init_da8c8 at hg
    split at hg
    · cases hg; exact inv_I B (con_Jxa1e45_init_da8c8 hE) (fun as σ K KX h => h) (fun as σ K KX h => (rcvd_spec h.2.1).imp fun b h => h.imp fun As h => h.choose_spec.1) (cw_mk hE hW tw_65 rfl tw_3 ⟨by decide, by decide⟩ rfl) rfl (wd hE hW tw_63 rfl) (wd hE hW tw_64 rfl) rfl (by rw [hfr]; decide) (by rw [hlo]; decide)
    · cases hg
  · intro p e R s m args below meth c A K KX hfr hlo hW B htab
    exact xok_none htab
def iv_Jx4a65c_init_da8c8 (cy : Nat → ClassId) (P : Pm) : Nat → Nat → Option Sg
  | 2, 1 => some (sp_Jxc12de_init_da8c8 cy P)
  | _, _ => none
def sp_Jx4a65c_init_da8c8 (cy : Nat → ClassId) (P : Pm) : Sg := mI 0 [] b0 (fun as σ K _ => match as with
  | [.ref q] => σ q = some (.inr (0, [.int 0, .null, .int 0])) ∧ K none (hup σ q (oAL 0 P.2.1.1 0))
  | _ => False)
set_option maxHeartbeats 2000000 in
theorem m_Jx4a65c_init_da8c8 (cy : Nat → ClassId) (P : Pm) (hP : PmOK P) : MOK (cl_Jx4a65ci P) cy P.2.1 obj cJx4a65c_init_da8c8 (iv_Jx4a65c_init_da8c8 cy P) (fun _ => none) (fun _ => some none) (none) 1 (sp_Jx4a65c_init_da8c8 cy P) := by
  intro as σ K KX J hlen hT hJ hOld
  obtain ⟨-, -, hT⟩ := hT
  split at hT
  · rename_i q
    obtain ⟨hq, hT⟩ := hT
    refine wp_of_S hJ (ct []) 400 _ _ _ _ _ _ ?_
    simp only [w_aload_n (cut := ct []) (pc' := 1) (i := 0) rfl dJx4a65c_init_da8c8_0 rfl rfl, w_invoke (inv := iv_Jx4a65c_init_da8c8 cy P) (kd := 2) (f := 1) (g := sp_Jxc12de_init_da8c8 cy P) (cut := ct []) rfl dJx4a65c_init_da8c8_1 rfl (by decide) rfl, w_aload_n (cut := ct []) (pc' := 5) (i := 0) rfl dJx4a65c_init_da8c8_4 rfl rfl, w_getstatic (cut := ct []) (pc' := 8) rfl dJx4a65c_init_da8c8_5 rfl (q_Jx4a65ci_g39 P), w_putfield (cut := ct []) (pc' := 11) rfl dJx4a65c_init_da8c8_8 rfl (q_Jx4a65ci_f9 P), w_return (cut := ct []) rfl dJx4a65c_init_da8c8_11 rfl, rsum, cg_int, cg_ref, cg_null, nby0, strd, mStr, onAL, true_imp_iff, false_imp_iff, not_true_eq_false, not_false_eq_true, Classical.not_not, eq_self, e10, e01, em1, Int32.reduceLT, Int32.reduceLE, onBoat, onGale, onOut, onPort, onRep, onWarn, yn, mI, mS, b0, okA, rcvd, nb0, nb1, ini, List.map_cons, List.map_nil, List.replicate_zero, List.replicate_succ, List.append_nil, ldI, ldA, incK, getK, putK, oldK, castK, inv1, nwO, nwA, nwR, alen, ald, bald, ast, lald, last, rald, rast, goTo, nth, sto, setN, popN, okv, cat1_int, cat1_ref, cat1_null, cat1_rf, va_rf, hup_same, hup_hup, List.length_cons, List.length_nil, List.nil_append, List.cons_append, Option.toList, true_and, and_true, Nat.reduceAdd, Nat.reduceSub, Nat.reduceLT, Nat.reduceLeDiff, Nat.zero_le, Nat.sub_zero, Nat.zero_lt_succ, Nat.lt_add_left_iff_pos, Nat.succ_lt_succ_iff, sp_Jx4a65c_init_da8c8, hq, sp_Jxc12de_init_da8c8]
    exact hT
  · exact hT.elim
set_option maxRecDepth 100000 in
theorem con_Jx4a65c_init_da8c8 {l : Launch} {s0 : State} {D : va_G} {cy : Nat → ClassId} {P : Pm} {a0 : Array Value} (hE : E0 l s0 D cy P a0) : Con l s0 D yJx4a65c_init_da8c8 (Cond.code yJx4a65c_init_da8c8 cJx4a65c_init_da8c8 1 none) 3 60 (sp_Jx4a65c_init_da8c8 cy P) := by
  refine con_of (clok_Jx4a65ci hE) (by decide) (fun as σ K KX h => okA_cat h.1) (Nat.le_of_ble_eq_true rfl) ?_ ?_ (m_Jx4a65c_init_da8c8 cy P hE.2.2.2.1)
  · intro p e R s m args below meth c A Q hfr hlo hW B kd j g hg
    unfold iv_Jx4a65c_init_da8c8 at hg
    split at hg
    · cases hg; exact inv_I B (con_Jxc12de_init_da8c8 hE) (fun as σ K KX h => h) (fun as σ K KX h => (rcvd_spec h.2.1).imp fun b h => h.imp fun As h => h.choose_spec.1) (cw_mk hE hW tw_62 rfl tw_4 ⟨by decide, by decide⟩ rfl) rfl (wd hE hW tw_60 rfl) (wd hE hW tw_61 rfl) rfl (by rw [hfr]; decide) (by rw [hlo]; decide)
    · cases hg
  · intro p e R s m args below meth c A K KX hfr hlo hW B htab
    exact xok_none htab
