/-! ===== lists that grow ===== -/
def sp_GETCLASS (cy : Nat → ClassId) (P : Pm) : Sg := (1, b0, fun as σ K _ => okA [1] as = true ∧ match as with
  | [.ref a] => (match σ a with
    | some (.inl (c, _, .inr (.inr (.inr (.inr _))))) => c = cy 3 ∧ K (some (.ref P.2.2.1)) σ
    | _ => False)
  | _ => False)
/-- the elements of a row of references are objects of one class that Object's arrays take -/
def oneC (σ : Hp) (f : Nat → Option Nat) (n : Nat) : Prop := ∃ ci, obj ci = true ∧ ∀ i, i < n → ∀ y, f i = some y → ∃ vs, σ y = some (.inr (ci, vs))
def sp_ARRCOPY (cy : Nat → ClassId) (P : Pm) : Sg := (5, b0, fun as σ K _ => okA [1, 0, 1, 0, 0] as = true ∧ match as with
  | [.ref a, .int sp, .ref b, .int dp, .int n] => sp = 0 ∧ dp = 0 ∧ ¬ n < 0 ∧ ∃ n0 f n1 g, σ a = some (oRefs cy n0 f) ∧ σ b = some (oRefs cy n1 g) ∧ n.toNatClampNeg ≤ n0 ∧ n.toNatClampNeg ≤ n1 ∧ oneC σ f n.toNatClampNeg ∧ K none (hup σ b (oRefs cy n1 (va_cpy f g 0 0 n.toNatClampNeg)))
  | _ => False)
section NAT
variable {p : Program} {l : Launch} {e : Env} {R : Room} {s : State} {m : MethodId} {args : Array Value} {below : List Frame} {meth : Method} {c : Code}
variable {s0 : State} {D : va_G} {cy : Nat → ClassId} {P : Pm} {a0 : Array Value} {A : Nat → Prop} {nL : Nat} {own : String} {cc : ByteArray} {Q : State → Prop}
theorem inv_getc (B : Bd p s m meth c s0 D cy P.2.1 A nL own cc) (hE : E0 l s0 D cy P a0) {j : Nat} (hl : Cond.methodLink own j ⟨"java/lang/Object", "getClass", "()Ljava/lang/Class;"⟩ ∈ lw_tbl) (hfr : 1 ≤ R.frames) (hlo : 22 ≤ R.locals) : InvOK p l e R s m args below meth c s0 D A nL cc Q (insOf 0 j) (sp_GETCLASS cy P) := by
  intro as rest σ K KX pc H locs cells slots lsA hlen hT hrest hdg hsz hO hdom hS hc hs kk kx
  have hW := B.2.2.2.2.2.2.2.2.2.1
  obtain ⟨-, hT⟩ := hT
  split at hT
  · rename_i a
    split at hT
    · rename_i cA n f hσ
      obtain ⟨rfl, hT⟩ := hT
      have hsum := rs_le hrest
      obtain ⟨L, ff, i1, hP, hD, hD0⟩ := Okh_ope hO hdom
      obtain ⟨ha, he⟩ := (i1 _ _).mp hσ
      obtain ⟨k0, hk0⟩ := pl_at (f := ff) ha
      rw [he] at hk0
      have hcell : H[a]? = some (vp_cell (cy 3) (n, .inr (.inr (.inr (.inr f))))) := hP k0 _ hk0
      have hnm : s.vm.findClass "[Ljava/lang/Object;" = some (cy 3) := va_nmO (B.2.2.2.2.2.1.2 3 _ rfl).2 rfl
      exact va_getC (C := "[Ljava/lang/Object;") (mi := P.2.2.1) (rest := rest) B.1 B.2.1 (by rw [B.2.2.1]; exact hsz.symm) B.2.2.2.1 (wd hE hW hl rfl) (wd hE hW tw_1216 rfl) (wd hE hW tw_1215 rfl) (wd hE hW tw_386 rfl) (wd hE hW tw_403 rfl) (va_Mi.moved hW.alike hE.2.2.2.2.2.2.2.2.2.2.2.2.2.1) ⟨_, hcell, rfl, hnm⟩ hfr (by omega) hdg (kk _ σ H locs hT hO hdom hS)
    · exact hT.elim
  · exact hT.elim
theorem inv_copy (B : Bd p s m meth c s0 D cy P.2.1 A nL own cc) (hE : E0 l s0 D cy P a0) {j : Nat} (hl : Cond.methodLink own j arraycopyName ∈ lw_tbl) (hfr : 1 ≤ R.frames) (hlo : 26 ≤ R.locals) : InvOK p l e R s m args below meth c s0 D A nL cc Q (insOf 1 j) (sp_ARRCOPY cy P) := by
  intro as rest σ K KX pc H locs cells slots lsA hlen hT hrest hdg hsz hO hdom hS hc hs kk kx
  have hW := B.2.2.2.2.2.2.2.2.2.1
  obtain ⟨-, hT⟩ := hT
  split at hT
  · rename_i a sp b dp n
    obtain ⟨rfl, rfl, hn, n0, f, n1, g, ha, hb, hn0, hn1, ⟨ci, hci, hel⟩, hT⟩ := hT
    have hsum := rs_le hrest
    obtain ⟨L, ff, i1, hP, hD, hD0⟩ := Okh_ope hO hdom
    obtain ⟨haL, hae⟩ := (i1 _ _).mp ha
    obtain ⟨k0, hk0⟩ := pl_at (f := ff) haL
    obtain ⟨hbL, hbe⟩ := (i1 _ _).mp hb
    obtain ⟨k1, hk1⟩ := pl_at (f := ff) hbL
    have hset := pl_set (e := oRefs cy n1 (va_cpy f g 0 0 n.toNatClampNeg)) hD hbL hk1
    have hD0' := (hD0.set (e := oRefs cy n1 (va_cpy f g 0 0 n.toNatClampNeg)) hk1)
    rw [hset] at hD0'
    rw [hae] at hk0
    rw [hbe] at hk1
    obtain ⟨⟨C, T, N, hc9, hca⟩⟩ : Nonempty (∃ (C : String) (T : u_T) (N : Nat), vwCl[ci]? = some (C, T, N) ∧ va_Nw (.castable C "java/lang/Object") s) := ⟨(tail_mk (args := args) hE hW).1 ci hci⟩
    have hAb : A b := hdom b (by rw [hb]; exact fun q => by cases q)
    refine va_copyq (C := C) (E0 := "java/lang/Object") (E1 := "java/lang/Object") (sp := 0) (dp := 0) (n := n) (rest := rest) B.1 B.2.1 (by rw [B.2.2.1]; exact hsz.symm) B.2.2.2.1 (wd hE hW hl rfl) (wd hE hW tw_415 rfl) (wd hE hW tw_414 rfl) (wd hE hW tw_18 rfl) B.2.2.2.2.2.1 hP hD hS k0 k1 3 3 hk0 hk1 rfl rfl (by decide) (by decide) hn (by simpa using hn0) (by simpa using hn1) ?_ (fun comp c0 h1 h2 => vb_asgC hca comp c0 h1 h2) hfr ?_ hdg ?_
    · intro i hi y hy
      obtain ⟨vs, hvs⟩ := hel i hi y (by simpa using hy)
      obtain ⟨hyL, hye⟩ := (i1 _ _).mp hvs
      obtain ⟨k2, hk2⟩ := pl_at (f := ff) hyL
      rw [hye] at hk2
      exact va_recv B.2.2.2.2.2.1 hP hc9 hk2
    · have : nativeFrameWords "java/lang/System" "arraycopy" 5 = 7 := by decide
      omega
    · intro H1 locs1 hP1 hD1 hS1
      change va_P D vwCl (List.set (va_pl L ff) k1 (b, oRefs cy n1 (va_cpy f g 0 0 n.toNatClampNeg))) H1 at hP1
      rw [hset] at hP1
      exact kk none _ H1 locs1 hT ⟨L, _, hup_iff i1 hbL, hP1, hD0'⟩ (hup_dom hdom hAb) hS1
  · exact hT.elim
end NAT

def iv_J8_newLength_cabcc (cy : Nat → ClassId) (P : Pm) : Nat → Nat → Option Sg
  | 1, 194 => some (sp_J9_max_7cf53 cy P)
  | _, _ => none
def sp_J8_newLength_cabcc (cy : Nat → ClassId) (P : Pm) : Sg := mS [0, 0, 0] b0 (fun as σ K _ => match as with
  | [.int o, .int mg, .int pg] => (o + (if mg < pg then pg else mg) ≤ 0) = False ∧ (2147483639 < o + (if mg < pg then pg else mg)) = False ∧ K (some (.int (o + (if mg < pg then pg else mg)))) σ
  | _ => False)
set_option maxHeartbeats 2000000 in
theorem m_J8_newLength_cabcc (cy : Nat → ClassId) (P : Pm) (hP : PmOK P) : MOK (cl_J8 P) cy P.2.1 obj cJ8_newLength_cabcc (iv_J8_newLength_cabcc cy P) (fun _ => none) (fun _ => some none) (some .int) 4 (sp_J8_newLength_cabcc cy P) := by
  intro as σ K KX J hlen hT hJ hOld
  obtain ⟨-, hT⟩ := hT
  split at hT
  · rename_i o mg pg
    obtain ⟨h1, h2, hT⟩ := hT
    refine wp_of_S hJ (ct []) 400 _ _ _ _ _ _ ?_
    simp only [w_iload_n (cut := ct []) (pc' := 1) (i := 0) rfl dJ8_newLength_cabcc_0 rfl rfl, w_iload_n (cut := ct []) (pc' := 2) (i := 1) rfl dJ8_newLength_cabcc_1 rfl rfl, w_iload_n (cut := ct []) (pc' := 3) (i := 2) rfl dJ8_newLength_cabcc_2 rfl rfl, w_invoke (inv := iv_J8_newLength_cabcc cy P) (kd := 1) (f := 194) (g := sp_J9_max_7cf53 cy P) (cut := ct []) rfl dJ8_newLength_cabcc_3 rfl (by decide) rfl, w_iadd (cut := ct []) (pc' := 7) rfl dJ8_newLength_cabcc_6 rfl, w_istore_n (cut := ct []) (pc' := 8) (i := 3) rfl dJ8_newLength_cabcc_7 rfl rfl, w_iconst (cut := ct []) (pc' := 9) (v := 0) rfl dJ8_newLength_cabcc_8 rfl rfl, w_iload_n (cut := ct []) (pc' := 10) (i := 3) rfl dJ8_newLength_cabcc_9 rfl rfl, w_icmp_ge (cut := ct []) (pc' := 13) (t := 21) rfl dJ8_newLength_cabcc_10 rfl (by decide) rfl, w_iload_n (cut := ct []) (pc' := 14) (i := 3) rfl dJ8_newLength_cabcc_13 rfl rfl, w_ldc (cut := ct []) (pc' := 16) rfl dJ8_newLength_cabcc_14 rfl (q_J8_l200 P), w_icmp_gt (cut := ct []) (pc' := 19) (t := 21) rfl dJ8_newLength_cabcc_16 rfl (by decide) rfl, w_iload_n (cut := ct []) (pc' := 20) (i := 3) rfl dJ8_newLength_cabcc_19 rfl rfl, w_ireturnI (cut := ct []) rfl dJ8_newLength_cabcc_20 rfl, w_iload_n (cut := ct []) (pc' := 22) (i := 0) rfl dJ8_newLength_cabcc_21 rfl rfl, w_iload_n (cut := ct []) (pc' := 23) (i := 1) rfl dJ8_newLength_cabcc_22 rfl rfl, w_ireturnI (cut := ct []) rfl dJ8_newLength_cabcc_26 rfl, rsum, cg_int, cg_ref, cg_null, nby0, strd, mStr, onAL, true_imp_iff, false_imp_iff, not_true_eq_false, not_false_eq_true, Classical.not_not, eq_self, e10, e01, em1, Int32.reduceLT, Int32.reduceLE, onBoat, onGale, onOut, onPort, onRep, onWarn, yn, mI, mS, b0, okA, rcvd, nb0, nb1, ini, List.map_cons, List.map_nil, List.replicate_zero, List.replicate_succ, List.append_nil, ldI, ldA, incK, getK, putK, oldK, castK, inv1, nwO, nwA, nwR, alen, ald, bald, ast, lald, last, rald, rast, goTo, nth, sto, setN, popN, okv, cat1_int, cat1_ref, cat1_null, cat1_rf, va_rf, hup_same, hup_hup, List.length_cons, List.length_nil, List.nil_append, List.cons_append, Option.toList, true_and, and_true, Nat.reduceAdd, Nat.reduceSub, Nat.reduceLT, Nat.reduceLeDiff, Nat.zero_le, Nat.sub_zero, Nat.zero_lt_succ, Nat.lt_add_left_iff_pos, Nat.succ_lt_succ_iff, sp_J8_newLength_cabcc, h1, h2, sp_J9_max_7cf53]
    exact hT
  · exact hT.elim
set_option maxRecDepth 100000 in
theorem con_J8_newLength_cabcc {l : Launch} {s0 : State} {D : va_G} {cy : Nat → ClassId} {P : Pm} {a0 : Array Value} (hE : E0 l s0 D cy P a0) : Con l s0 D yJ8_newLength_cabcc (Cond.code yJ8_newLength_cabcc cJ8_newLength_cabcc 4 (some .int)) 1 21 (sp_J8_newLength_cabcc cy P) := by
  refine con_of (clok_J8 hE _) (by decide) (fun as σ K KX h => okA_cat h.1) (Nat.le_of_ble_eq_true rfl) ?_ ?_ (m_J8_newLength_cabcc cy P hE.2.2.2.1)
  · intro p e R s m args below meth c A Q hfr hlo hW B kd j g hg
    unfold iv_J8_newLength_cabcc at hg
    split at hg
    · cases hg; exact inv_mmax B hE tw_375 (by rw [hfr]; decide) (by rw [hlo]; decide)
    · cases hg
  · intro p e R s m args below meth c A K KX hfr hlo hW B htab
    exact xok_none htab
def iv_J7_copyOf_6403c (cy : Nat → ClassId) (P : Pm) : Nat → Nat → Option Sg
  | 1, 304 => some (sp_J9_min_7cf53 cy P)
  | 1, 150 => some (sp_ARRCOPY cy P)
  | _, _ => none
/-- a longer copy of a row of references -/
def bCopy : List Value → Hp → Nat × Nat := fun as _ => match as with
  | _ :: .int n :: _ => (1, n.toNatClampNeg)
  | _ => (0, 0)
theorem oneC_new {σ : Hp} {f : Nat → Option Nat} {n q : Nat} {e : va_E} (h : oneC σ f n) (hq : σ q = none) : oneC (hup σ q e) f n := by
  obtain ⟨ci, h1, h2⟩ := h
  refine ⟨ci, h1, fun i hi y hy => ?_⟩
  obtain ⟨vs, hvs⟩ := h2 i hi y hy
  have : y ≠ q := fun z => by rw [z, hq] at hvs; cases hvs
  exact ⟨vs, by rw [hup_ne _ _ this]; exact hvs⟩
theorem fr_ne {σ : Hp} {a q : Nat} {e : va_E} (ha : σ a = some e) (hq : σ q = none) : a ≠ q := fun z => by rw [z, hq] at ha; cases ha
def sp_J7_copyOf_6403c (cy : Nat → ClassId) (P : Pm) : Sg := mS [1, 0, 1] bCopy (fun as σ K _ => match as with
  | [.ref a, .int m, .ref ca] => ca = P.2.2.1 ∧ ∃ n f mm, m = nI mm ∧ n ≤ mm ∧ mm ≤ 65536 ∧ σ a = some (oRefs cy n f) ∧ ¬ a = P.2.1.1 ∧ oneC σ f n ∧ ∀ q, σ q = none → q ≠ P.2.1.1 → K (some (.ref q)) (hup σ q (oRefs cy mm (va_cpy f (fun _ => none) 0 0 n)))
  | _ => False)
set_option maxHeartbeats 2000000 in
theorem m_J7_copyOf_6403c (cy : Nat → ClassId) (P : Pm) (hP : PmOK P) : MOK (cl_J7 P) cy P.2.1 obj cJ7_copyOf_6403c (iv_J7_copyOf_6403c cy P) (fun _ => none) (fun _ => some none) (some (.array (.object "java/lang/Object"))) 4 (sp_J7_copyOf_6403c cy P) := by
  intro as σ K KX J hlen hT hJ hOld
  obtain ⟨-, hT⟩ := hT
  split at hT
  · rename_i a m ca
    obtain ⟨rfl, n, f, mm, rfl, hnm, hm2, ha, haz, hone, hT⟩ := hT
    have haz : (a = P.2.1.1) = False := eq_false haz
    have hcl : (nI mm).toNatClampNeg = mm := nI_clamp (by omega)
    refine wp_of_S hJ (ct []) 400 _ _ _ _ _ _ ?_
    simp only [w_aload_n (cut := ct []) (pc' := 1) (i := 2) rfl dJ7_copyOf_6403c_0 rfl rfl, w_ldc (cut := ct []) (pc' := 3) rfl dJ7_copyOf_6403c_1 rfl (q_J7_l110 P), w_acmp_ne (cut := ct []) (pc' := 6) (t := 13) rfl dJ7_copyOf_6403c_3 rfl (by decide) rfl, w_iload_n (cut := ct []) (pc' := 7) (i := 1) rfl dJ7_copyOf_6403c_6 rfl rfl, w_anewarray (CL := cl_J7 P) (cut := ct []) rfl dJ7_copyOf_6403c_7 rfl, w_goto (cut := ct []) (t := 24) rfl dJ7_copyOf_6403c_10 (by decide) rfl, w_aload_n (cut := ct []) (pc' := 14) (i := 2) rfl dJ7_copyOf_6403c_13 rfl rfl, w_iload_n (cut := ct []) (pc' := 18) (i := 1) rfl dJ7_copyOf_6403c_17 rfl rfl, w_checkcast (CL := cl_J7 P) (cut := ct []) (pc' := 24) rfl dJ7_copyOf_6403c_21 rfl, w_astore_n (cut := ct []) (pc' := 25) (i := 3) rfl dJ7_copyOf_6403c_24 rfl rfl, w_astore_nN (cut := ct []) (pc' := 25) (i := 3) rfl dJ7_copyOf_6403c_24 rfl rfl, w_aload_n (cut := ct []) (pc' := 26) (i := 0) rfl dJ7_copyOf_6403c_25 rfl rfl, w_iconst (cut := ct []) (pc' := 27) (v := 0) rfl dJ7_copyOf_6403c_26 rfl rfl, w_aload_n (cut := ct []) (pc' := 28) (i := 3) rfl dJ7_copyOf_6403c_27 rfl rfl, w_iconst (cut := ct []) (pc' := 29) (v := 0) rfl dJ7_copyOf_6403c_28 rfl rfl, w_aload_n (cut := ct []) (pc' := 30) (i := 0) rfl dJ7_copyOf_6403c_29 rfl rfl, w_arraylength (cut := ct []) rfl dJ7_copyOf_6403c_30, w_iload_n (cut := ct []) (pc' := 32) (i := 1) rfl dJ7_copyOf_6403c_31 rfl rfl, w_invoke (inv := iv_J7_copyOf_6403c cy P) (kd := 1) (f := 304) (g := sp_J9_min_7cf53 cy P) (cut := ct []) rfl dJ7_copyOf_6403c_32 rfl (by decide) rfl, w_invoke (inv := iv_J7_copyOf_6403c cy P) (kd := 1) (f := 150) (g := sp_ARRCOPY cy P) (cut := ct []) rfl dJ7_copyOf_6403c_35 rfl (by decide) rfl, w_aload_n (cut := ct []) (pc' := 39) (i := 3) rfl dJ7_copyOf_6403c_38 rfl rfl, w_areturn_arr (cut := ct []) rfl dJ7_copyOf_6403c_39 rfl, rsum, cg_int, cg_ref, cg_null, nby0, strd, mStr, onAL, true_imp_iff, false_imp_iff, not_true_eq_false, not_false_eq_true, Classical.not_not, eq_self, e10, e01, em1, Int32.reduceLT, Int32.reduceLE, onBoat, onGale, onOut, onPort, onRep, onWarn, yn, mI, mS, b0, okA, rcvd, nb0, nb1, ini, List.map_cons, List.map_nil, List.replicate_zero, List.replicate_succ, List.append_nil, ldI, ldA, incK, getK, putK, oldK, castK, inv1, nwO, nwA, nwR, alen, ald, bald, ast, lald, last, rald, rast, goTo, nth, sto, setN, popN, okv, cat1_int, cat1_ref, cat1_null, cat1_rf, va_rf, hup_same, hup_hup, List.length_cons, List.length_nil, List.nil_append, List.cons_append, Option.toList, true_and, and_true, Nat.reduceAdd, Nat.reduceSub, Nat.reduceLT, Nat.reduceLeDiff, Nat.zero_le, Nat.sub_zero, Nat.zero_lt_succ, Nat.lt_add_left_iff_pos, Nat.succ_lt_succ_iff, sp_J7_copyOf_6403c, bCopy, ha, haz, hcl, sp_J9_min_7cf53, sp_ARRCOPY, hup, true_or, or_true, ite_false, ite_true, Nat.le_refl, Nat.sub_self]
    refine ⟨nI_pos (by omega), hm2, fun q hq hqz => ?_⟩
    have haq : a ≠ q := fr_ne ha hq
    have hmin : (if nI mm < Int32.ofNat n then nI mm else Int32.ofNat n) = nI n := if_neg (nI_nlt hnm (by omega))
    have hcn : (nI n).toNatClampNeg = n := nI_clamp (by omega)
    simp only [if_neg haq, hmin, hcn, true_or, or_true, true_and]
    exact ⟨nI_pos (by omega), n, f, mm, fun _ => none, rfl, rfl, Nat.le_refl _, hnm, oneC_new hone hq, hT q hq hqz⟩
  · exact hT.elim
set_option maxRecDepth 100000 in
theorem con_J7_copyOf_6403c {l : Launch} {s0 : State} {D : va_G} {cy : Nat → ClassId} {P : Pm} {a0 : Array Value} (hE : E0 l s0 D cy P a0) : Con l s0 D yJ7_copyOf_6403c (Cond.code yJ7_copyOf_6403c cJ7_copyOf_6403c 4 (some (.array (.object "java/lang/Object")))) 1 60 (sp_J7_copyOf_6403c cy P) := by
  refine con_of (clok_J7 hE _) (by decide) (fun as σ K KX h => okA_cat h.1) (Nat.le_of_ble_eq_true rfl) ?_ ?_ (m_J7_copyOf_6403c cy P hE.2.2.2.1)
  · intro p e R s m args below meth c A Q hfr hlo hW B kd j g hg
    unfold iv_J7_copyOf_6403c at hg
    split at hg
    · cases hg; exact inv_mmin B hE tw_410 (by rw [hfr]; decide) (by rw [hlo]; decide)
    · cases hg; exact inv_copy B hE tw_413 (by rw [hfr]; decide) (by rw [hlo]; decide)
    · cases hg
  · intro p e R s m args below meth c A K KX hfr hlo hW B htab
    exact xok_none htab
def iv_J7_copyOf_1904c (cy : Nat → ClassId) (P : Pm) : Nat → Nat → Option Sg
  | 0, 86 => some (sp_GETCLASS cy P)
  | 1, 300 => some (sp_J7_copyOf_6403c cy P)
  | _, _ => none
def sp_J7_copyOf_1904c (cy : Nat → ClassId) (P : Pm) : Sg := mS [1, 0] bCopy (fun as σ K _ => match as with
  | [.ref a, .int m] => ∃ n f mm, m = nI mm ∧ n ≤ mm ∧ mm ≤ 65536 ∧ σ a = some (oRefs cy n f) ∧ ¬ a = P.2.1.1 ∧ oneC σ f n ∧ ∀ q, σ q = none → q ≠ P.2.1.1 → K (some (.ref q)) (hup σ q (oRefs cy mm (va_cpy f (fun _ => none) 0 0 n)))
  | _ => False)
set_option maxHeartbeats 2000000 in
theorem m_J7_copyOf_1904c (cy : Nat → ClassId) (P : Pm) (hP : PmOK P) : MOK (cl_J7 P) cy P.2.1 obj cJ7_copyOf_1904c (iv_J7_copyOf_1904c cy P) (fun _ => none) (fun _ => some none) (some (.array (.object "java/lang/Object"))) 2 (sp_J7_copyOf_1904c cy P) := by
  intro as σ K KX J hlen hT hJ hOld
  obtain ⟨-, hT⟩ := hT
  split at hT
  · rename_i a m
    obtain ⟨n, f, mm, hm, hnm, hm2, ha, haz, hone, hT⟩ := hT
    refine wp_of_S hJ (ct []) 400 _ _ _ _ _ _ ?_
    simp only [w_aload_n (cut := ct []) (pc' := 1) (i := 0) rfl dJ7_copyOf_1904c_0 rfl rfl, w_iload_n (cut := ct []) (pc' := 2) (i := 1) rfl dJ7_copyOf_1904c_1 rfl rfl, w_aload_n (cut := ct []) (pc' := 3) (i := 0) rfl dJ7_copyOf_1904c_2 rfl rfl, w_invoke (inv := iv_J7_copyOf_1904c cy P) (kd := 0) (f := 86) (g := sp_GETCLASS cy P) (cut := ct []) rfl dJ7_copyOf_1904c_3 rfl (by decide) rfl, w_invoke (inv := iv_J7_copyOf_1904c cy P) (kd := 1) (f := 300) (g := sp_J7_copyOf_6403c cy P) (cut := ct []) rfl dJ7_copyOf_1904c_6 rfl (by decide) rfl, w_areturn_arr (cut := ct []) rfl dJ7_copyOf_1904c_9 rfl, rsum, cg_int, cg_ref, cg_null, nby0, strd, mStr, onAL, true_imp_iff, false_imp_iff, not_true_eq_false, not_false_eq_true, Classical.not_not, eq_self, e10, e01, em1, Int32.reduceLT, Int32.reduceLE, onBoat, onGale, onOut, onPort, onRep, onWarn, yn, mI, mS, b0, okA, rcvd, nb0, nb1, ini, List.map_cons, List.map_nil, List.replicate_zero, List.replicate_succ, List.append_nil, ldI, ldA, incK, getK, putK, oldK, castK, inv1, nwO, nwA, nwR, alen, ald, bald, ast, lald, last, rald, rast, goTo, nth, sto, setN, popN, okv, cat1_int, cat1_ref, cat1_null, cat1_rf, va_rf, hup_same, hup_hup, List.length_cons, List.length_nil, List.nil_append, List.cons_append, Option.toList, true_and, and_true, Nat.reduceAdd, Nat.reduceSub, Nat.reduceLT, Nat.reduceLeDiff, Nat.zero_le, Nat.sub_zero, Nat.zero_lt_succ, Nat.lt_add_left_iff_pos, Nat.succ_lt_succ_iff, sp_J7_copyOf_1904c, ha, bCopy, sp_GETCLASS, sp_J7_copyOf_6403c, Nat.le_refl, Nat.sub_self]
    exact ⟨n, f, mm, hm, hnm, hm2, rfl, haz, hone, hT⟩
  · exact hT.elim
set_option maxRecDepth 100000 in
theorem con_J7_copyOf_1904c {l : Launch} {s0 : State} {D : va_G} {cy : Nat → ClassId} {P : Pm} {a0 : Array Value} (hE : E0 l s0 D cy P a0) : Con l s0 D yJ7_copyOf_1904c (Cond.code yJ7_copyOf_1904c cJ7_copyOf_1904c 2 (some (.array (.object "java/lang/Object")))) 2 83 (sp_J7_copyOf_1904c cy P) := by
  refine con_of (clok_J7 hE _) (by decide) (fun as σ K KX h => okA_cat h.1) (Nat.le_of_ble_eq_true rfl) ?_ ?_ (m_J7_copyOf_1904c cy P hE.2.2.2.1)
  · intro p e R s m args below meth c A Q hfr hlo hW B kd j g hg
    unfold iv_J7_copyOf_1904c at hg
    split at hg
    · cases hg; exact inv_getc B hE tw_385 (by rw [hfr]; decide) (by rw [hlo]; decide)
    · cases hg; exact inv_S B (con_J7_copyOf_6403c hE) (cw_mk hE hW tw_406 rfl tw_17 ⟨by decide, by decide⟩ rfl) (wd hE hW tw_404 rfl) (wd hE hW tw_405 rfl) (by rw [hfr]; decide) (by rw [hlo]; decide)
    · cases hg
  · intro p e R s m args below meth c A K KX hfr hlo hW B htab
    exact xok_none htab
/-- how long a list's row is, by how many it holds; and what the next longer one is -/
def capF (n : Nat) : Nat := if n = 0 then 0 else if n ≤ 10 then 10 else if n ≤ 15 then 15 else if n ≤ 22 then 22 else if n ≤ 33 then 33 else if n ≤ 49 then 49 else if n ≤ 73 then 73 else if n ≤ 109 then 109 else if n ≤ 163 then 163 else 244
def ncF (n : Nat) : Nat := if n = 0 then 10 else n + n / 2
theorem capF_succ : ∀ n, n < 244 → capF (n + 1) = if capF n = n then ncF n else capF n := by decide +kernel
theorem capF_ge : ∀ n, n < 245 → n ≤ capF n := by decide +kernel
theorem capF_le : ∀ n, n < 245 → capF n ≤ 244 := by decide +kernel
theorem capF_full : ∀ n, n < 245 → capF n = n → n = 0 ∨ 2 ≤ n := by decide +kernel
def iv_Jx4a65c_grow_92f84 (cy : Nat → ClassId) (P : Pm) : Nat → Nat → Option Sg
  | 1, 73 => some (sp_J8_newLength_cabcc cy P)
  | 1, 66 => some (sp_J7_copyOf_1904c cy P)
  | 1, 79 => some (sp_J9_max_7cf53 cy P)
  | _, _ => none
def bGrow : List Value → Hp → Nat × Nat := fun as σ => match as with
  | .ref q :: _ => (match σ q with
    | some (.inr (0, [_, _, .int n])) => (1, ncF n.toNatClampNeg)
    | _ => (0, 0))
  | _ => (0, 0)
/-- the longer row of a list -/
def grown (cy : Nat → ClassId) (P : Pm) (σ : Hp) (q : Nat) (n : Nat) (el : Nat) (k : Nat → (Nat → Option Nat) → Prop) : Prop := n ≤ 244 ∧ ((n = 0 ∧ el = P.2.1.1 ∧ ∀ q', σ q' = none → q' ≠ P.2.1.1 → k q' (fun _ => none)) ∨
  (2 ≤ n ∧ ¬ el = P.2.1.1 ∧ ∃ f, σ el = some (oRefs cy n f) ∧ oneC σ f n ∧ ∀ q', σ q' = none → q' ≠ P.2.1.1 → k q' (va_cpy f (fun _ => none) 0 0 n)))
def sp_Jx4a65c_grow_92f84 (cy : Nat → ClassId) (P : Pm) : Sg := mI 0 [0] bGrow (fun as σ K _ => match as with
  | [.ref q, .int mn] => onAL σ q (fun mc el n => ∃ nn, n = nI nn ∧ mn = nI (nn + 1) ∧ grown cy P σ q nn el (fun q' f => K (some (.ref q')) (hup (hup σ q' (oRefs cy (ncF nn) f)) q (oAL mc q' n))))
  | _ => False)
theorem gr_calc {n : Nat} (h2 : 2 ≤ n) (hn : n ≤ 244) : nI n + (if nI (n + 1) - nI n < nI n >>> (1 &&& 31) then nI n >>> (1 &&& 31) else nI (n + 1) - nI n) = nI (n + n / 2) := by
  have es : nI n >>> ((1 : Int32) &&& 31) = nI (n / 2) := by
    have k := pk_shrN (n := n) (by omega) ((1 : Int32) &&& 31) 1 (by decide)
    rw [Nat.pow_one] at k
    exact k
  have ed : nI (n + 1) - nI n = nI 1 := by
    have k := pk_sub (a := n + 1) (b := n) (by omega)
    rw [Nat.add_sub_cancel_left] at k
    exact k
  rw [es, ed]
  by_cases c : 1 < n / 2
  · rw [if_pos (nI_lt c (by omega))]
    exact nI_add n (n / 2)
  · rw [if_neg (nI_nlt (by omega) (by decide))]
    have hd : n / 2 = 1 := by omega
    rw [hd]
    exact nI_add n 1
set_option maxHeartbeats 2000000 in
theorem m_Jx4a65c_grow_92f84 (cy : Nat → ClassId) (P : Pm) (hP : PmOK P) : MOK (cl_Jx4a65c P) cy P.2.1 obj cJx4a65c_grow_92f84 (iv_Jx4a65c_grow_92f84 cy P) (fun _ => none) (fun _ => some none) (some (.array (.object "java/lang/Object"))) 4 (sp_Jx4a65c_grow_92f84 cy P) := by
  intro as σ K KX J hlen hT hJ hOld
  obtain ⟨-, -, hT⟩ := hT
  split at hT
  · rename_i q mn
    obtain ⟨mc, el, n, hq, nn, rfl, rfl, hn, hT⟩ := onAL_spec hT
    have hcl : (nI nn).toNatClampNeg = nn := nI_clamp (by omega)
    rcases hT with ⟨rfl, rfl, hT⟩ | ⟨h2, hez, f, hel, hone, hT⟩
    · refine wp_of_S hJ (ct []) 400 _ _ _ _ _ _ ?_
      simp only [w_aload_n (cut := ct []) (pc' := 1) (i := 0) rfl dJx4a65c_grow_92f84_0 rfl rfl, w_getfield (cut := ct []) (pc' := 4) rfl dJx4a65c_grow_92f84_1 rfl (q_Jx4a65c_f9 P), w_arraylength (cut := ct []) rfl dJx4a65c_grow_92f84_4, w_istore_n (cut := ct []) (pc' := 6) (i := 2) rfl dJx4a65c_grow_92f84_5 rfl rfl, w_iload_n (cut := ct []) (pc' := 7) (i := 2) rfl dJx4a65c_grow_92f84_6 rfl rfl, w_if_gt (cut := ct []) (pc' := 10) (t := 20) rfl dJx4a65c_grow_92f84_7 rfl (by decide) rfl, w_aload_n (cut := ct []) (pc' := 11) (i := 0) rfl dJx4a65c_grow_92f84_10 rfl rfl, w_getfield (cut := ct []) (pc' := 14) rfl dJx4a65c_grow_92f84_11 rfl (q_Jx4a65c_f9 P), w_getstatic (cut := ct []) (pc' := 17) rfl dJx4a65c_grow_92f84_14 rfl (q_Jx4a65c_g39 P), w_acmp_eq (cut := ct []) (pc' := 20) (t := 45) rfl dJx4a65c_grow_92f84_17 rfl (by decide) rfl, w_iload_n (cut := ct []) (pc' := 21) (i := 2) rfl dJx4a65c_grow_92f84_20 rfl rfl, w_iload_n (cut := ct []) (pc' := 22) (i := 1) rfl dJx4a65c_grow_92f84_21 rfl rfl, w_iload_n (cut := ct []) (pc' := 23) (i := 2) rfl dJx4a65c_grow_92f84_22 rfl rfl, w_isub (cut := ct []) (pc' := 24) rfl dJx4a65c_grow_92f84_23 rfl, w_iload_n (cut := ct []) (pc' := 25) (i := 2) rfl dJx4a65c_grow_92f84_24 rfl rfl, w_iconst (cut := ct []) (pc' := 26) (v := 1) rfl dJx4a65c_grow_92f84_25 rfl rfl, w_ishr (cut := ct []) (pc' := 27) rfl dJx4a65c_grow_92f84_26 rfl, w_invoke (inv := iv_Jx4a65c_grow_92f84 cy P) (kd := 1) (f := 73) (g := sp_J8_newLength_cabcc cy P) (cut := ct []) rfl dJx4a65c_grow_92f84_27 rfl (by decide) rfl, w_istore_n (cut := ct []) (pc' := 31) (i := 3) rfl dJx4a65c_grow_92f84_30 rfl rfl, w_aload_n (cut := ct []) (pc' := 32) (i := 0) rfl dJx4a65c_grow_92f84_31 rfl rfl, w_aload_n (cut := ct []) (pc' := 33) (i := 0) rfl dJx4a65c_grow_92f84_32 rfl rfl, w_getfield (cut := ct []) (pc' := 36) rfl dJx4a65c_grow_92f84_33 rfl (q_Jx4a65c_f9 P), w_iload_n (cut := ct []) (pc' := 37) (i := 3) rfl dJx4a65c_grow_92f84_36 rfl rfl, w_invoke (inv := iv_Jx4a65c_grow_92f84 cy P) (kd := 1) (f := 66) (g := sp_J7_copyOf_1904c cy P) (cut := ct []) rfl dJx4a65c_grow_92f84_37 rfl (by decide) rfl, w_dup_x1 (cut := ct []) (pc' := 41) rfl dJx4a65c_grow_92f84_40 rfl, w_putfield (cut := ct []) (pc' := 44) rfl dJx4a65c_grow_92f84_41 rfl (q_Jx4a65c_f9 P), w_areturn_arr (cut := ct []) rfl dJx4a65c_grow_92f84_44 rfl, w_aload_n (cut := ct []) (pc' := 46) (i := 0) rfl dJx4a65c_grow_92f84_45 rfl rfl, w_bipush (cut := ct []) (pc' := 48) (v := 10) rfl dJx4a65c_grow_92f84_46 rfl rfl, w_iload_n (cut := ct []) (pc' := 49) (i := 1) rfl dJx4a65c_grow_92f84_48 rfl rfl, w_invoke (inv := iv_Jx4a65c_grow_92f84 cy P) (kd := 1) (f := 79) (g := sp_J9_max_7cf53 cy P) (cut := ct []) rfl dJx4a65c_grow_92f84_49 rfl (by decide) rfl, w_anewarray (CL := cl_Jx4a65c P) (cut := ct []) rfl dJx4a65c_grow_92f84_52 rfl, w_dup_x1 (cut := ct []) (pc' := 56) rfl dJx4a65c_grow_92f84_55 rfl, w_putfield (cut := ct []) (pc' := 59) rfl dJx4a65c_grow_92f84_56 rfl (q_Jx4a65c_f9 P), w_areturn_arr (cut := ct []) rfl dJx4a65c_grow_92f84_59 rfl, rsum, cg_int, cg_ref, cg_null, nby0, strd, mStr, onAL, true_imp_iff, false_imp_iff, not_true_eq_false, not_false_eq_true, Classical.not_not, eq_self, e10, e01, em1, Int32.reduceLT, Int32.reduceLE, onBoat, onGale, onOut, onPort, onRep, onWarn, yn, mI, mS, b0, okA, rcvd, nb0, nb1, ini, List.map_cons, List.map_nil, List.replicate_zero, List.replicate_succ, List.append_nil, ldI, ldA, incK, getK, putK, oldK, castK, inv1, nwO, nwA, nwR, alen, ald, bald, ast, lald, last, rald, rast, goTo, nth, sto, setN, popN, okv, cat1_int, cat1_ref, cat1_null, cat1_rf, va_rf, hup_same, hup_hup, List.length_cons, List.length_nil, List.nil_append, List.cons_append, Option.toList, true_and, and_true, Nat.reduceAdd, Nat.reduceSub, Nat.reduceLT, Nat.reduceLeDiff, Nat.zero_le, Nat.sub_zero, Nat.zero_lt_succ, Nat.lt_add_left_iff_pos, Nat.succ_lt_succ_iff, sp_Jx4a65c_grow_92f84, bGrow, hq, hcl, sp_J9_max_7cf53, ite_true, Nat.le_refl, Nat.sub_self]
      have e10 : (if (10 : Int32) < nI 1 then nI 1 else 10) = 10 := by decide
      have c10 : (10 : Int32).toNatClampNeg = 10 := by decide
      simp only [e10, c10]
      refine ⟨by decide, by decide, by decide, fun q' h1 h2 => ?_⟩
      rw [hup_ne _ _ (fr_ne hq h1), hq]
      exact ⟨rfl, Nat.le_of_ble_eq_true rfl, hT q' h1 h2⟩
    · have hez : (el = P.2.1.1) = False := eq_false hez
      refine wp_of_S hJ (ct []) 400 _ _ _ _ _ _ ?_
      simp only [w_aload_n (cut := ct []) (pc' := 1) (i := 0) rfl dJx4a65c_grow_92f84_0 rfl rfl, w_getfield (cut := ct []) (pc' := 4) rfl dJx4a65c_grow_92f84_1 rfl (q_Jx4a65c_f9 P), w_arraylength (cut := ct []) rfl dJx4a65c_grow_92f84_4, w_istore_n (cut := ct []) (pc' := 6) (i := 2) rfl dJx4a65c_grow_92f84_5 rfl rfl, w_iload_n (cut := ct []) (pc' := 7) (i := 2) rfl dJx4a65c_grow_92f84_6 rfl rfl, w_if_gt (cut := ct []) (pc' := 10) (t := 20) rfl dJx4a65c_grow_92f84_7 rfl (by decide) rfl, w_aload_n (cut := ct []) (pc' := 11) (i := 0) rfl dJx4a65c_grow_92f84_10 rfl rfl, w_getfield (cut := ct []) (pc' := 14) rfl dJx4a65c_grow_92f84_11 rfl (q_Jx4a65c_f9 P), w_getstatic (cut := ct []) (pc' := 17) rfl dJx4a65c_grow_92f84_14 rfl (q_Jx4a65c_g39 P), w_acmp_eq (cut := ct []) (pc' := 20) (t := 45) rfl dJx4a65c_grow_92f84_17 rfl (by decide) rfl, w_iload_n (cut := ct []) (pc' := 21) (i := 2) rfl dJx4a65c_grow_92f84_20 rfl rfl, w_iload_n (cut := ct []) (pc' := 22) (i := 1) rfl dJx4a65c_grow_92f84_21 rfl rfl, w_iload_n (cut := ct []) (pc' := 23) (i := 2) rfl dJx4a65c_grow_92f84_22 rfl rfl, w_isub (cut := ct []) (pc' := 24) rfl dJx4a65c_grow_92f84_23 rfl, w_iload_n (cut := ct []) (pc' := 25) (i := 2) rfl dJx4a65c_grow_92f84_24 rfl rfl, w_iconst (cut := ct []) (pc' := 26) (v := 1) rfl dJx4a65c_grow_92f84_25 rfl rfl, w_ishr (cut := ct []) (pc' := 27) rfl dJx4a65c_grow_92f84_26 rfl, w_invoke (inv := iv_Jx4a65c_grow_92f84 cy P) (kd := 1) (f := 73) (g := sp_J8_newLength_cabcc cy P) (cut := ct []) rfl dJx4a65c_grow_92f84_27 rfl (by decide) rfl, w_istore_n (cut := ct []) (pc' := 31) (i := 3) rfl dJx4a65c_grow_92f84_30 rfl rfl, w_aload_n (cut := ct []) (pc' := 32) (i := 0) rfl dJx4a65c_grow_92f84_31 rfl rfl, w_aload_n (cut := ct []) (pc' := 33) (i := 0) rfl dJx4a65c_grow_92f84_32 rfl rfl, w_getfield (cut := ct []) (pc' := 36) rfl dJx4a65c_grow_92f84_33 rfl (q_Jx4a65c_f9 P), w_iload_n (cut := ct []) (pc' := 37) (i := 3) rfl dJx4a65c_grow_92f84_36 rfl rfl, w_invoke (inv := iv_Jx4a65c_grow_92f84 cy P) (kd := 1) (f := 66) (g := sp_J7_copyOf_1904c cy P) (cut := ct []) rfl dJx4a65c_grow_92f84_37 rfl (by decide) rfl, w_dup_x1 (cut := ct []) (pc' := 41) rfl dJx4a65c_grow_92f84_40 rfl, w_putfield (cut := ct []) (pc' := 44) rfl dJx4a65c_grow_92f84_41 rfl (q_Jx4a65c_f9 P), w_areturn_arr (cut := ct []) rfl dJx4a65c_grow_92f84_44 rfl, w_aload_n (cut := ct []) (pc' := 46) (i := 0) rfl dJx4a65c_grow_92f84_45 rfl rfl, w_bipush (cut := ct []) (pc' := 48) (v := 10) rfl dJx4a65c_grow_92f84_46 rfl rfl, w_iload_n (cut := ct []) (pc' := 49) (i := 1) rfl dJx4a65c_grow_92f84_48 rfl rfl, w_invoke (inv := iv_Jx4a65c_grow_92f84 cy P) (kd := 1) (f := 79) (g := sp_J9_max_7cf53 cy P) (cut := ct []) rfl dJx4a65c_grow_92f84_49 rfl (by decide) rfl, w_anewarray (CL := cl_Jx4a65c P) (cut := ct []) rfl dJx4a65c_grow_92f84_52 rfl, w_dup_x1 (cut := ct []) (pc' := 56) rfl dJx4a65c_grow_92f84_55 rfl, w_putfield (cut := ct []) (pc' := 59) rfl dJx4a65c_grow_92f84_56 rfl (q_Jx4a65c_f9 P), w_areturn_arr (cut := ct []) rfl dJx4a65c_grow_92f84_59 rfl, rsum, cg_int, cg_ref, cg_null, nby0, strd, mStr, onAL, true_imp_iff, false_imp_iff, not_true_eq_false, not_false_eq_true, Classical.not_not, eq_self, e10, e01, em1, Int32.reduceLT, Int32.reduceLE, onBoat, onGale, onOut, onPort, onRep, onWarn, yn, mI, mS, b0, okA, rcvd, nb0, nb1, ini, List.map_cons, List.map_nil, List.replicate_zero, List.replicate_succ, List.append_nil, ldI, ldA, incK, getK, putK, oldK, castK, inv1, nwO, nwA, nwR, alen, ald, bald, ast, lald, last, rald, rast, goTo, nth, sto, setN, popN, okv, cat1_int, cat1_ref, cat1_null, cat1_rf, va_rf, hup_same, hup_hup, List.length_cons, List.length_nil, List.nil_append, List.cons_append, Option.toList, true_and, and_true, Nat.reduceAdd, Nat.reduceSub, Nat.reduceLT, Nat.reduceLeDiff, Nat.zero_le, Nat.sub_zero, Nat.zero_lt_succ, Nat.lt_add_left_iff_pos, Nat.succ_lt_succ_iff, sp_Jx4a65c_grow_92f84, bGrow, bCopy, hq, hel, hez, hcl, sp_J8_newLength_cabcc, sp_J7_copyOf_1904c, ite_false, true_or, or_true, Nat.le_refl, Nat.sub_self]
      have hnc : ncF nn = nn + nn / 2 := if_neg (by omega)
      have hgc := gr_calc h2 hn
      rw [← hnc] at hgc
      rw [show Int32.ofNat nn = nI nn from rfl, hgc]
      have hb : ncF nn ≤ 400 := by rw [hnc]; omega
      have hb0 : 2 ≤ ncF nn := by rw [hnc]; omega
      have hcn : (nI (ncF nn)).toNatClampNeg = ncF nn := nI_clamp (by omega)
      refine ⟨fun _ => ⟨eq_false (nI_nle (by omega) (by omega)), eq_false ?_, by rw [hcn]; exact Nat.le_refl _, nn, f, ncF nn, rfl, by rw [hnc]; omega, by omega, rfl, hone, fun q' h1 h2 => ?_⟩, fun h => absurd (show nI 0 < nI nn from nI_lt (by omega) (by omega)) h⟩
      · exact nI_nlt (a := 2147483639) (b := ncF nn) (by omega) (by decide)
      · rw [hup_ne _ _ (fr_ne hq h1), hq]
        exact ⟨rfl, Nat.le_of_ble_eq_true rfl, hT q' h1 h2⟩
  · exact hT.elim
set_option maxRecDepth 100000 in
theorem con_Jx4a65c_grow_92f84 {l : Launch} {s0 : State} {D : va_G} {cy : Nat → ClassId} {P : Pm} {a0 : Array Value} (hE : E0 l s0 D cy P a0) : Con l s0 D yJx4a65c_grow_92f84 (Cond.code yJx4a65c_grow_92f84 cJx4a65c_grow_92f84 4 (some (.array (.object "java/lang/Object")))) 3 104 (sp_Jx4a65c_grow_92f84 cy P) := by
  refine con_of (clok_Jx4a65c hE _) (by decide) (fun as σ K KX h => okA_cat h.1) (Nat.le_of_ble_eq_true rfl) ?_ ?_ (m_Jx4a65c_grow_92f84 cy P hE.2.2.2.1)
  · intro p e R s m args below meth c A Q hfr hlo hW B kd j g hg
    unfold iv_Jx4a65c_grow_92f84 at hg
    split at hg
    · cases hg; exact inv_S B (con_J8_newLength_cabcc hE) (cw_mk hE hW tw_374 rfl tw_15 ⟨by decide, by decide⟩ rfl) (wd hE hW tw_372 rfl) (wd hE hW tw_373 rfl) (by rw [hfr]; decide) (by rw [hlo]; decide)
    · cases hg; exact inv_S B (con_J7_copyOf_1904c hE) (cw_mk hE hW tw_384 rfl tw_17 ⟨by decide, by decide⟩ rfl) (wd hE hW tw_382 rfl) (wd hE hW tw_383 rfl) (by rw [hfr]; decide) (by rw [hlo]; decide)
    · cases hg; exact inv_mmax B hE tw_416 (by rw [hfr]; decide) (by rw [hlo]; decide)
    · cases hg
  · intro p e R s m args below meth c A K KX hfr hlo hW B htab
    exact xok_none htab
def iv_Jx4a65c_grow_d5877 (cy : Nat → ClassId) (P : Pm) : Nat → Nat → Option Sg
  | 0, 69 => some (sp_Jx4a65c_grow_92f84 cy P)
  | _, _ => none
def sp_Jx4a65c_grow_d5877 (cy : Nat → ClassId) (P : Pm) : Sg := mI 0 [] bGrow (fun as σ K _ => match as with
  | [.ref q] => onAL σ q (fun mc el n => ∃ nn, n = nI nn ∧ grown cy P σ q nn el (fun q' f => K (some (.ref q')) (hup (hup σ q' (oRefs cy (ncF nn) f)) q (oAL mc q' n))))
  | _ => False)
set_option maxHeartbeats 2000000 in
theorem m_Jx4a65c_grow_d5877 (cy : Nat → ClassId) (P : Pm) (hP : PmOK P) : MOK (cl_Jx4a65c P) cy P.2.1 obj cJx4a65c_grow_d5877 (iv_Jx4a65c_grow_d5877 cy P) (fun _ => none) (fun _ => some none) (some (.array (.object "java/lang/Object"))) 1 (sp_Jx4a65c_grow_d5877 cy P) := by
  intro as σ K KX J hlen hT hJ hOld
  obtain ⟨-, -, hT⟩ := hT
  split at hT
  · rename_i q
    obtain ⟨mc, el, n, hq, nn, rfl, hT⟩ := onAL_spec hT
    refine wp_of_S hJ (ct []) 400 _ _ _ _ _ _ ?_
    simp only [w_aload_n (cut := ct []) (pc' := 1) (i := 0) rfl dJx4a65c_grow_d5877_0 rfl rfl, w_aload_n (cut := ct []) (pc' := 2) (i := 0) rfl dJx4a65c_grow_d5877_1 rfl rfl, w_getfield (cut := ct []) (pc' := 5) rfl dJx4a65c_grow_d5877_2 rfl (q_Jx4a65c_f48 P), w_iconst (cut := ct []) (pc' := 6) (v := 1) rfl dJx4a65c_grow_d5877_5 rfl rfl, w_iadd (cut := ct []) (pc' := 7) rfl dJx4a65c_grow_d5877_6 rfl, w_invoke (inv := iv_Jx4a65c_grow_d5877 cy P) (kd := 0) (f := 69) (g := sp_Jx4a65c_grow_92f84 cy P) (cut := ct []) rfl dJx4a65c_grow_d5877_7 rfl (by decide) rfl, w_areturn_arr (cut := ct []) rfl dJx4a65c_grow_d5877_10 rfl, rsum, cg_int, cg_ref, cg_null, nby0, strd, mStr, onAL, true_imp_iff, false_imp_iff, not_true_eq_false, not_false_eq_true, Classical.not_not, eq_self, e10, e01, em1, Int32.reduceLT, Int32.reduceLE, onBoat, onGale, onOut, onPort, onRep, onWarn, yn, mI, mS, b0, okA, rcvd, nb0, nb1, ini, List.map_cons, List.map_nil, List.replicate_zero, List.replicate_succ, List.append_nil, ldI, ldA, incK, getK, putK, oldK, castK, inv1, nwO, nwA, nwR, alen, ald, bald, ast, lald, last, rald, rast, goTo, nth, sto, setN, popN, okv, cat1_int, cat1_ref, cat1_null, cat1_rf, va_rf, hup_same, hup_hup, List.length_cons, List.length_nil, List.nil_append, List.cons_append, Option.toList, true_and, and_true, Nat.reduceAdd, Nat.reduceSub, Nat.reduceLT, Nat.reduceLeDiff, Nat.zero_le, Nat.sub_zero, Nat.zero_lt_succ, Nat.lt_add_left_iff_pos, Nat.succ_lt_succ_iff, sp_Jx4a65c_grow_d5877, hq, bGrow, sp_Jx4a65c_grow_92f84, Nat.le_refl, Nat.sub_self]
    exact ⟨nn, rfl, nI_1 nn, hT⟩
  · exact hT.elim
set_option maxRecDepth 100000 in
theorem con_Jx4a65c_grow_d5877 {l : Launch} {s0 : State} {D : va_G} {cy : Nat → ClassId} {P : Pm} {a0 : Array Value} (hE : E0 l s0 D cy P a0) : Con l s0 D yJx4a65c_grow_d5877 (Cond.code yJx4a65c_grow_d5877 cJx4a65c_grow_d5877 1 (some (.array (.object "java/lang/Object")))) 4 127 (sp_Jx4a65c_grow_d5877 cy P) := by
  refine con_of (clok_Jx4a65c hE _) (by decide) (fun as σ K KX h => okA_cat h.1) (Nat.le_of_ble_eq_true rfl) ?_ ?_ (m_Jx4a65c_grow_d5877 cy P hE.2.2.2.1)
  · intro p e R s m args below meth c A Q hfr hlo hW B kd j g hg
    unfold iv_Jx4a65c_grow_d5877 at hg
    split at hg
    · cases hg; exact inv_V (ci := 0) B (con_Jx4a65c_grow_92f84 hE) rfl (fun as σ K KX h => rcvd_spec h.2.1) (cw_mk hE hW tw_371 rfl tw_5 ⟨by decide, by decide⟩ rfl) rfl (wd hE hW tw_368 rfl) (wd hE hW tw_370 rfl) (wd hE hW (List.mem_of_getElem? (i := 4) (by decide +kernel)) rfl) (by rw [hfr]; decide) (by rw [hlo]; decide)
    · cases hg
  · intro p e R s m args below meth c A K KX hfr hlo hW B htab
    exact xok_none htab
/-- a list of n objects of class ci, whose row lies at el -/
def AL (cy : Nat → ClassId) (P : Pm) (σ : Hp) (q el n : Nat) (g : Nat → Nat) (ci : Nat) : Prop :=
  (∃ mc, σ q = some (oAL mc el (nI n))) ∧ n ≤ 244 ∧ ((n = 0 ∧ el = P.2.1.1) ∨ (0 < n ∧ ¬ el = P.2.1.1 ∧ ∃ f, σ el = some (oRefs cy (capF n) f) ∧ ∀ i, i < n → f i = some (g i))) ∧ ∀ i, i < n → ∃ vs, σ (g i) = some (.inr (ci, vs))
/-- behind an add -/
def Added (cy : Nat → ClassId) (P : Pm) (σ σ' : Hp) (q el el' n : Nat) (g : Nat → Nat) (e : Nat) : Prop :=
  (∃ mc, σ' q = some (oAL mc el' (nI (n + 1)))) ∧ (∃ f, σ' el' = some (oRefs cy (capF (n + 1)) f) ∧ ∀ i, i < n + 1 → f i = some (if i = n then e else g i)) ∧ ¬ el' = P.2.1.1 ∧ (el' = el ∨ σ el' = none) ∧ ∀ a, a ≠ q → a ≠ el' → σ' a = σ a
def bAdd : List Value → Hp → Nat × Nat := fun as σ => match as with
  | .ref q :: _ => (match σ q with
    | some (.inr (0, [_, _, .int n])) => (if capF n.toNatClampNeg = n.toNatClampNeg then (1, ncF n.toNatClampNeg) else (0, 0))
    | _ => (0, 0))
  | _ => (0, 0)
def iv_Jx4a65c_add_72be8 (cy : Nat → ClassId) (P : Pm) : Nat → Nat → Option Sg
  | 0, 129 => some (sp_Jx4a65c_grow_d5877 cy P)
  | _, _ => none
def sp_Jx4a65c_add_72be8 (cy : Nat → ClassId) (P : Pm) : Sg := mI 0 [1, 1, 0] bAdd (fun as σ K _ => match as with
  | [.ref q, .ref e, .ref el, .int k] => ∃ n g ci, k = nI n ∧ AL cy P σ q el n g ci ∧ obj ci = true ∧ n < 244 ∧ (∃ vs, σ e = some (.inr (ci, vs))) ∧ ∀ el' σ', Added cy P σ σ' q el el' n g e → K none σ'
  | _ => False)
theorem hup_app (σ : Hp) (a : Nat) (e : va_E) (b : Nat) : hup σ a e b = if b = a then some e else σ b := rfl
theorem kne {σ : Hp} {a b : Nat} {e1 e2 : va_E} (h1 : σ a = some e1) (h2 : σ b = some e2) (h : e1 ≠ e2) : a ≠ b := fun z => h (by rw [z, h2] at h1; exact (Option.some.inj h1).symm)
theorem obj_ne0 {ci : Nat} (h : obj ci = true) : ci ≠ 0 := fun z => by rw [z] at h; cases h
/-- the store at the end of an add: f is the row (of length c), e goes to its place n -/
theorem add_fin {cy : Nat → ClassId} {P : Pm} {σ : Hp} {q el el' n e : Nat} {g : Nat → Nat} {mc : Int32} {f : Nat → Option Nat} {σ1 : Hp} (hn : n < 244) (hz : ¬ el' = P.2.1.1) (hq : σ1 q = some (oAL mc el' (nI n))) (hf : σ1 el' = some (oRefs cy (capF (n + 1)) f)) (hfg : ∀ i, i < n → f i = some (g i))
    (ho : el' = el ∨ σ el' = none) (hfr : ∀ a, a ≠ q → a ≠ el' → σ1 a = σ a) : Added cy P σ (hup (hup σ1 el' (oRefs cy (capF (n + 1)) (va_up f n (some e)))) q (oAL mc el' (nI n + 1))) q el el' n g e := by
  have hne : el' ≠ q := kne hf hq (by intro z; cases z)
  refine ⟨⟨mc, by rw [hup_same, nI_1]⟩, ⟨va_up f n (some e), ?_, fun i hi => ?_⟩, hz, ho, fun a h1 h2 => ?_⟩
  · rw [hup_ne _ _ hne, hup_same]
  · unfold va_up
    by_cases h : i = n
    · rw [if_pos h, if_pos h]
    · rw [if_neg h, if_neg h]; exact hfg i (by omega)
  · rw [hup_ne _ _ h1, hup_ne _ _ h2]; exact hfr a h1 h2
set_option maxHeartbeats 4000000 in
theorem m_Jx4a65c_add_72be8 (cy : Nat → ClassId) (P : Pm) (hP : PmOK P) : MOK (cl_Jx4a65c P) cy P.2.1 obj cJx4a65c_add_72be8 (iv_Jx4a65c_add_72be8 cy P) (fun _ => none) (fun _ => some none) (none) 4 (sp_Jx4a65c_add_72be8 cy P) := by
  intro as σ K KX J hlen hT hJ hOld
  obtain ⟨-, -, hT⟩ := hT
  split at hT
  · rename_i q e el k
    obtain ⟨n, g, ci, rfl, ⟨⟨mc, hq⟩, hn, hAL, hgs⟩, hci, hn2, ⟨vs, he⟩, hT⟩ := hT
    have hcl : (nI n).toNatClampNeg = n := nI_clamp (by omega)
    have heq : e ≠ q := kne he hq (by intro z; cases z; exact absurd rfl (obj_ne0 hci))
    have hsucc := capF_succ n hn2
    have hge := capF_ge (n + 1) (by omega)
    have hle := capF_le (n + 1) (by omega)
    -- the end, from a heap whose row at r has room
    have fin : ∀ (σ1 : Hp) (r : Nat) (f : Nat → Option Nat) (rc rs : Nat), ¬ r = P.2.1.1 → σ1 q = some (oAL mc r (nI n)) → σ1 r = some (oRefs cy (capF (n + 1)) f) → (∀ i, i < n → f i = some (g i)) → (r = el ∨ σ r = none) → (∀ a, a ≠ q → a ≠ r → σ1 a = σ a) → e ≠ r → J 11 [some (.ref q), some (.ref e), some (.ref r), some (.int (nI n))] [] σ1 rc rs := by
      intro σ1 r f rc rs hz h1 h2 h3 h4 h5 h6
      have hee : σ1 e = some (.inr (ci, vs)) := by rw [h5 e heq h6]; exact he
      have hin : vp_in (nI n) (capF (n + 1)) = True := eq_true (vp_in_nI (by omega) (by omega))
      have hrq : (q = r) = False := eq_false (kne h1 h2 (by intro z; cases z))
      refine wp_of_S hJ (ct []) 400 _ _ _ _ _ _ ?_
      simp only [w_iload_n (cut := ct []) (pc' := 1) (i := 3) rfl dJx4a65c_add_72be8_0 rfl rfl, w_aload_n (cut := ct []) (pc' := 2) (i := 2) rfl dJx4a65c_add_72be8_1 rfl rfl, w_arraylength (cut := ct []) rfl dJx4a65c_add_72be8_2, w_icmp_ne (cut := ct []) (pc' := 6) (t := 11) rfl dJx4a65c_add_72be8_3 rfl (by decide) rfl, w_aload_n (cut := ct []) (pc' := 7) (i := 0) rfl dJx4a65c_add_72be8_6 rfl rfl, w_invoke (inv := iv_Jx4a65c_add_72be8 cy P) (kd := 0) (f := 129) (g := sp_Jx4a65c_grow_d5877 cy P) (cut := ct []) rfl dJx4a65c_add_72be8_7 rfl (by decide) rfl, w_astore_n (cut := ct []) (pc' := 11) (i := 2) rfl dJx4a65c_add_72be8_10 rfl rfl, w_astore_nN (cut := ct []) (pc' := 11) (i := 2) rfl dJx4a65c_add_72be8_10 rfl rfl, w_aload_n (cut := ct []) (pc' := 12) (i := 2) rfl dJx4a65c_add_72be8_11 rfl rfl, w_iload_n (cut := ct []) (pc' := 13) (i := 3) rfl dJx4a65c_add_72be8_12 rfl rfl, w_aload_n (cut := ct []) (pc' := 14) (i := 1) rfl dJx4a65c_add_72be8_13 rfl rfl, w_aastore (cut := ct []) rfl dJx4a65c_add_72be8_14, w_aload_n (cut := ct []) (pc' := 16) (i := 0) rfl dJx4a65c_add_72be8_15 rfl rfl, w_iload_n (cut := ct []) (pc' := 17) (i := 3) rfl dJx4a65c_add_72be8_16 rfl rfl, w_iconst (cut := ct []) (pc' := 18) (v := 1) rfl dJx4a65c_add_72be8_17 rfl rfl, w_iadd (cut := ct []) (pc' := 19) rfl dJx4a65c_add_72be8_18 rfl, w_putfield (cut := ct []) (pc' := 22) rfl dJx4a65c_add_72be8_19 rfl (q_Jx4a65c_f48 P), w_return (cut := ct []) rfl dJx4a65c_add_72be8_22 rfl, rsum, cg_int, cg_ref, cg_null, nby0, strd, mStr, onAL, true_imp_iff, false_imp_iff, not_true_eq_false, not_false_eq_true, Classical.not_not, eq_self, e10, e01, em1, Int32.reduceLT, Int32.reduceLE, onBoat, onGale, onOut, onPort, onRep, onWarn, yn, mI, mS, b0, okA, rcvd, nb0, nb1, ini, List.map_cons, List.map_nil, List.replicate_zero, List.replicate_succ, List.append_nil, ldI, ldA, incK, getK, putK, oldK, castK, inv1, nwO, nwA, nwR, alen, ald, bald, ast, lald, last, rald, rast, goTo, nth, sto, setN, popN, okv, cat1_int, cat1_ref, cat1_null, cat1_rf, va_rf, hup_same, hup_hup, List.length_cons, List.length_nil, List.nil_append, List.cons_append, Option.toList, true_and, and_true, Nat.reduceAdd, Nat.reduceSub, Nat.reduceLT, Nat.reduceLeDiff, Nat.zero_le, Nat.sub_zero, Nat.zero_lt_succ, Nat.lt_add_left_iff_pos, Nat.succ_lt_succ_iff, h1, h2, hee, hin, hci, hcl, hrq, hup_app, ite_false, ite_true]
      exact hT r _ (add_fin hn2 hz h1 h2 h3 h4 h5)
    by_cases hfull : capF n = n
    · rw [if_pos hfull] at hsucc
      refine wp_of_S hJ (ct [11]) 400 _ _ _ _ _ _ ?_
      rcases hAL with ⟨rfl, rfl⟩ | ⟨hpos, hez, f, hel, hfg⟩
      · have h00 : (nI 0 = 0) = True := eq_true rfl
        simp only [w_iload_n (cut := ct [11]) (pc' := 1) (i := 3) rfl dJx4a65c_add_72be8_0 rfl rfl, w_aload_n (cut := ct [11]) (pc' := 2) (i := 2) rfl dJx4a65c_add_72be8_1 rfl rfl, w_arraylength (cut := ct [11]) rfl dJx4a65c_add_72be8_2, w_icmp_ne (cut := ct [11]) (pc' := 6) (t := 11) rfl dJx4a65c_add_72be8_3 rfl (by decide) rfl, w_aload_n (cut := ct [11]) (pc' := 7) (i := 0) rfl dJx4a65c_add_72be8_6 rfl rfl, w_invoke (inv := iv_Jx4a65c_add_72be8 cy P) (kd := 0) (f := 129) (g := sp_Jx4a65c_grow_d5877 cy P) (cut := ct [11]) rfl dJx4a65c_add_72be8_7 rfl (by decide) rfl, w_astore_n (cut := ct [11]) (pc' := 11) (i := 2) rfl dJx4a65c_add_72be8_10 rfl rfl, w_astore_nN (cut := ct [11]) (pc' := 11) (i := 2) rfl dJx4a65c_add_72be8_10 rfl rfl, w_cut (cut := ct [11]) (pc := 11) rfl, w_iload_n (cut := ct [11]) (pc' := 13) (i := 3) rfl dJx4a65c_add_72be8_12 rfl rfl, w_aload_n (cut := ct [11]) (pc' := 14) (i := 1) rfl dJx4a65c_add_72be8_13 rfl rfl, w_aastore (cut := ct [11]) rfl dJx4a65c_add_72be8_14, w_aload_n (cut := ct [11]) (pc' := 16) (i := 0) rfl dJx4a65c_add_72be8_15 rfl rfl, w_iload_n (cut := ct [11]) (pc' := 17) (i := 3) rfl dJx4a65c_add_72be8_16 rfl rfl, w_iconst (cut := ct [11]) (pc' := 18) (v := 1) rfl dJx4a65c_add_72be8_17 rfl rfl, w_iadd (cut := ct [11]) (pc' := 19) rfl dJx4a65c_add_72be8_18 rfl, w_putfield (cut := ct [11]) (pc' := 22) rfl dJx4a65c_add_72be8_19 rfl (q_Jx4a65c_f48 P), w_return (cut := ct [11]) rfl dJx4a65c_add_72be8_22 rfl, rsum, cg_int, cg_ref, cg_null, nby0, strd, mStr, onAL, true_imp_iff, false_imp_iff, not_true_eq_false, not_false_eq_true, Classical.not_not, eq_self, e10, e01, em1, Int32.reduceLT, Int32.reduceLE, onBoat, onGale, onOut, onPort, onRep, onWarn, yn, mI, mS, b0, okA, rcvd, nb0, nb1, ini, List.map_cons, List.map_nil, List.replicate_zero, List.replicate_succ, List.append_nil, ldI, ldA, incK, getK, putK, oldK, castK, inv1, nwO, nwA, nwR, alen, ald, bald, ast, lald, last, rald, rast, goTo, nth, sto, setN, popN, okv, cat1_int, cat1_ref, cat1_null, cat1_rf, va_rf, hup_same, hup_hup, List.length_cons, List.length_nil, List.nil_append, List.cons_append, Option.toList, true_and, and_true, Nat.reduceAdd, Nat.reduceSub, Nat.reduceLT, Nat.reduceLeDiff, Nat.zero_le, Nat.sub_zero, Nat.zero_lt_succ, Nat.lt_add_left_iff_pos, Nat.succ_lt_succ_iff, sp_Jx4a65c_add_72be8, bAdd, bGrow, hq, hcl, h00, hfull, ite_true, sp_Jx4a65c_grow_d5877, Nat.le_refl, Nat.sub_self]
        refine ⟨0, rfl, by omega, Or.inl ⟨rfl, rfl, fun q' h1 h2 => ?_⟩⟩
        have hqq : q ≠ q' := fr_ne hq h1
        refine fin _ q' (fun _ => none) _ _ h2 (hup_same _ _ _) ?_ (fun i hi => by omega) (Or.inr h1) (fun a g1 g2 => ?_) (fr_ne he h1)
        · rw [hup_ne _ _ (Ne.symm hqq), hup_same, hsucc]
        · rw [hup_ne _ _ g1, hup_ne _ _ g2]
      · have hez' : (el = P.2.1.1) = False := eq_false hez
        rw [hfull] at hel
        simp only [w_iload_n (cut := ct [11]) (pc' := 1) (i := 3) rfl dJx4a65c_add_72be8_0 rfl rfl, w_aload_n (cut := ct [11]) (pc' := 2) (i := 2) rfl dJx4a65c_add_72be8_1 rfl rfl, w_arraylength (cut := ct [11]) rfl dJx4a65c_add_72be8_2, w_icmp_ne (cut := ct [11]) (pc' := 6) (t := 11) rfl dJx4a65c_add_72be8_3 rfl (by decide) rfl, w_aload_n (cut := ct [11]) (pc' := 7) (i := 0) rfl dJx4a65c_add_72be8_6 rfl rfl, w_invoke (inv := iv_Jx4a65c_add_72be8 cy P) (kd := 0) (f := 129) (g := sp_Jx4a65c_grow_d5877 cy P) (cut := ct [11]) rfl dJx4a65c_add_72be8_7 rfl (by decide) rfl, w_astore_n (cut := ct [11]) (pc' := 11) (i := 2) rfl dJx4a65c_add_72be8_10 rfl rfl, w_astore_nN (cut := ct [11]) (pc' := 11) (i := 2) rfl dJx4a65c_add_72be8_10 rfl rfl, w_cut (cut := ct [11]) (pc := 11) rfl, w_iload_n (cut := ct [11]) (pc' := 13) (i := 3) rfl dJx4a65c_add_72be8_12 rfl rfl, w_aload_n (cut := ct [11]) (pc' := 14) (i := 1) rfl dJx4a65c_add_72be8_13 rfl rfl, w_aastore (cut := ct [11]) rfl dJx4a65c_add_72be8_14, w_aload_n (cut := ct [11]) (pc' := 16) (i := 0) rfl dJx4a65c_add_72be8_15 rfl rfl, w_iload_n (cut := ct [11]) (pc' := 17) (i := 3) rfl dJx4a65c_add_72be8_16 rfl rfl, w_iconst (cut := ct [11]) (pc' := 18) (v := 1) rfl dJx4a65c_add_72be8_17 rfl rfl, w_iadd (cut := ct [11]) (pc' := 19) rfl dJx4a65c_add_72be8_18 rfl, w_putfield (cut := ct [11]) (pc' := 22) rfl dJx4a65c_add_72be8_19 rfl (q_Jx4a65c_f48 P), w_return (cut := ct [11]) rfl dJx4a65c_add_72be8_22 rfl, rsum, cg_int, cg_ref, cg_null, nby0, strd, mStr, onAL, true_imp_iff, false_imp_iff, not_true_eq_false, not_false_eq_true, Classical.not_not, eq_self, e10, e01, em1, Int32.reduceLT, Int32.reduceLE, onBoat, onGale, onOut, onPort, onRep, onWarn, yn, mI, mS, b0, okA, rcvd, nb0, nb1, ini, List.map_cons, List.map_nil, List.replicate_zero, List.replicate_succ, List.append_nil, ldI, ldA, incK, getK, putK, oldK, castK, inv1, nwO, nwA, nwR, alen, ald, bald, ast, lald, last, rald, rast, goTo, nth, sto, setN, popN, okv, cat1_int, cat1_ref, cat1_null, cat1_rf, va_rf, hup_same, hup_hup, List.length_cons, List.length_nil, List.nil_append, List.cons_append, Option.toList, true_and, and_true, Nat.reduceAdd, Nat.reduceSub, Nat.reduceLT, Nat.reduceLeDiff, Nat.zero_le, Nat.sub_zero, Nat.zero_lt_succ, Nat.lt_add_left_iff_pos, Nat.succ_lt_succ_iff, sp_Jx4a65c_add_72be8, bAdd, bGrow, hq, hcl, hel, hez', hfull, ite_true, ite_false, true_or, or_true, sp_Jx4a65c_grow_d5877, Nat.le_refl, Nat.sub_self]
        refine ⟨fun h => absurd rfl h, fun _ => ⟨n, rfl, by omega, Or.inr ⟨by rcases capF_full n (by omega) hfull with h | h <;> omega, hez, f, hel, ⟨ci, hci, fun i hi y hy => ?_⟩, fun q' h1 h2 => ?_⟩⟩⟩
        · rw [hfg i hi] at hy
          cases hy
          exact hgs i hi
        · have hqq : q ≠ q' := fr_ne hq h1
          refine fin _ q' (va_cpy f (fun _ => none) 0 0 n) _ _ h2 (hup_same _ _ _) ?_ (fun i hi => ?_) (Or.inr h1) (fun a g1 g2 => ?_) (fr_ne he h1)
          · rw [hup_ne _ _ (Ne.symm hqq), hup_same, hsucc]
          · rw [pk_cpy_in (by omega) (by omega)]
            simpa using hfg i hi
          · rw [hup_ne _ _ g1, hup_ne _ _ g2]
    · rw [if_neg hfull] at hsucc
      rcases hAL with ⟨rfl, rfl⟩ | ⟨hpos, hez, f, hel, hfg⟩
      · exact absurd (show capF 0 = 0 from rfl) hfull
      · have hez' : (el = P.2.1.1) = False := eq_false hez
        have hnc : ¬ nI n = Int32.ofNat (capF n) := fun z => hfull ((nI_eq (by omega) (by rw [← hsucc]; omega)).mp z).symm
        have hnc' : (nI n = Int32.ofNat (capF n)) = False := eq_false hnc
        refine wp_of_S hJ (ct [11]) 400 _ _ _ _ _ _ ?_
        simp only [w_iload_n (cut := ct [11]) (pc' := 1) (i := 3) rfl dJx4a65c_add_72be8_0 rfl rfl, w_aload_n (cut := ct [11]) (pc' := 2) (i := 2) rfl dJx4a65c_add_72be8_1 rfl rfl, w_arraylength (cut := ct [11]) rfl dJx4a65c_add_72be8_2, w_icmp_ne (cut := ct [11]) (pc' := 6) (t := 11) rfl dJx4a65c_add_72be8_3 rfl (by decide) rfl, w_aload_n (cut := ct [11]) (pc' := 7) (i := 0) rfl dJx4a65c_add_72be8_6 rfl rfl, w_invoke (inv := iv_Jx4a65c_add_72be8 cy P) (kd := 0) (f := 129) (g := sp_Jx4a65c_grow_d5877 cy P) (cut := ct [11]) rfl dJx4a65c_add_72be8_7 rfl (by decide) rfl, w_astore_n (cut := ct [11]) (pc' := 11) (i := 2) rfl dJx4a65c_add_72be8_10 rfl rfl, w_astore_nN (cut := ct [11]) (pc' := 11) (i := 2) rfl dJx4a65c_add_72be8_10 rfl rfl, w_cut (cut := ct [11]) (pc := 11) rfl, w_iload_n (cut := ct [11]) (pc' := 13) (i := 3) rfl dJx4a65c_add_72be8_12 rfl rfl, w_aload_n (cut := ct [11]) (pc' := 14) (i := 1) rfl dJx4a65c_add_72be8_13 rfl rfl, w_aastore (cut := ct [11]) rfl dJx4a65c_add_72be8_14, w_aload_n (cut := ct [11]) (pc' := 16) (i := 0) rfl dJx4a65c_add_72be8_15 rfl rfl, w_iload_n (cut := ct [11]) (pc' := 17) (i := 3) rfl dJx4a65c_add_72be8_16 rfl rfl, w_iconst (cut := ct [11]) (pc' := 18) (v := 1) rfl dJx4a65c_add_72be8_17 rfl rfl, w_iadd (cut := ct [11]) (pc' := 19) rfl dJx4a65c_add_72be8_18 rfl, w_putfield (cut := ct [11]) (pc' := 22) rfl dJx4a65c_add_72be8_19 rfl (q_Jx4a65c_f48 P), w_return (cut := ct [11]) rfl dJx4a65c_add_72be8_22 rfl, rsum, cg_int, cg_ref, cg_null, nby0, strd, mStr, onAL, true_imp_iff, false_imp_iff, not_true_eq_false, not_false_eq_true, Classical.not_not, eq_self, e10, e01, em1, Int32.reduceLT, Int32.reduceLE, onBoat, onGale, onOut, onPort, onRep, onWarn, yn, mI, mS, b0, okA, rcvd, nb0, nb1, ini, List.map_cons, List.map_nil, List.replicate_zero, List.replicate_succ, List.append_nil, ldI, ldA, incK, getK, putK, oldK, castK, inv1, nwO, nwA, nwR, alen, ald, bald, ast, lald, last, rald, rast, goTo, nth, sto, setN, popN, okv, cat1_int, cat1_ref, cat1_null, cat1_rf, va_rf, hup_same, hup_hup, List.length_cons, List.length_nil, List.nil_append, List.cons_append, Option.toList, true_and, and_true, Nat.reduceAdd, Nat.reduceSub, Nat.reduceLT, Nat.reduceLeDiff, Nat.zero_le, Nat.sub_zero, Nat.zero_lt_succ, Nat.lt_add_left_iff_pos, Nat.succ_lt_succ_iff, sp_Jx4a65c_add_72be8, bAdd, bGrow, hq, hcl, hel, hez', hfull, hnc', ite_true, ite_false, true_or, or_true, sp_Jx4a65c_grow_d5877, Nat.le_refl, Nat.sub_self]
        exact fin σ el f _ _ hez hq (by rw [hsucc]; exact hel) hfg (Or.inl rfl) (fun a _ _ => rfl) (kne he hel (by intro z; cases z))
  · exact hT.elim
set_option maxRecDepth 100000 in
theorem con_Jx4a65c_add_72be8 {l : Launch} {s0 : State} {D : va_G} {cy : Nat → ClassId} {P : Pm} {a0 : Array Value} (hE : E0 l s0 D cy P a0) : Con l s0 D yJx4a65c_add_72be8 (Cond.code yJx4a65c_add_72be8 cJx4a65c_add_72be8 4 none) 5 147 (sp_Jx4a65c_add_72be8 cy P) := by
  refine con_of (clok_Jx4a65c hE _) (by decide) (fun as σ K KX h => okA_cat h.1) (Nat.le_of_ble_eq_true rfl) ?_ ?_ (m_Jx4a65c_add_72be8 cy P hE.2.2.2.1)
  · intro p e R s m args below meth c A Q hfr hlo hW B kd j g hg
    unfold iv_Jx4a65c_add_72be8 at hg
    split at hg
    · cases hg; exact inv_V (ci := 0) B (con_Jx4a65c_grow_d5877 hE) rfl (fun as σ K KX h => rcvd_spec h.2.1) (cw_mk hE hW tw_367 rfl tw_5 ⟨by decide, by decide⟩ rfl) rfl (wd hE hW tw_364 rfl) (wd hE hW tw_366 rfl) (wd hE hW (List.mem_of_getElem? (i := 3) (by decide +kernel)) rfl) (by rw [hfr]; decide) (by rw [hlo]; decide)
    · cases hg
  · intro p e R s m args below meth c A K KX hfr hlo hW B htab
    exact xok_none htab
def iv_Jx4a65c_add_9ea2d (cy : Nat → ClassId) (P : Pm) : Nat → Nat → Option Sg
  | 0, 131 => some (sp_Jx4a65c_add_72be8 cy P)
  | _, _ => none
def sp_Jx4a65c_add_9ea2d (cy : Nat → ClassId) (P : Pm) : Sg := mI 0 [1] bAdd (fun as σ K _ => match as with
  | [.ref q, .ref e] => ∃ el n g ci, AL cy P σ q el n g ci ∧ obj ci = true ∧ n < 244 ∧ (∃ vs, σ e = some (.inr (ci, vs))) ∧ ∀ el' σ', Added cy P σ σ' q el el' n g e → K (some (.int 1)) σ'
  | _ => False)
set_option maxHeartbeats 4000000 in
theorem m_Jx4a65c_add_9ea2d (cy : Nat → ClassId) (P : Pm) (hP : PmOK P) : MOK (cl_Jx4a65c P) cy P.2.1 obj cJx4a65c_add_9ea2d (iv_Jx4a65c_add_9ea2d cy P) (fun _ => none) (fun _ => some none) (some .boolean) 2 (sp_Jx4a65c_add_9ea2d cy P) := by
  intro as σ K KX J hlen hT hJ hOld
  obtain ⟨-, -, hT⟩ := hT
  split at hT
  · rename_i q e
    obtain ⟨el, n, g, ci, ⟨⟨mc, hq⟩, hn, hAL, hgs⟩, hci, hn2, ⟨vs, he⟩, hT⟩ := hT
    have heq : e ≠ q := kne he hq (by intro z; cases z; exact absurd rfl (obj_ne0 hci))
    refine wp_of_S hJ (ct []) 400 _ _ _ _ _ _ ?_
    simp only [w_aload_n (cut := ct []) (pc' := 1) (i := 0) rfl dJx4a65c_add_9ea2d_0 rfl rfl, w_dup (cut := ct []) (pc' := 2) rfl dJx4a65c_add_9ea2d_1 rfl, w_getfield (cut := ct []) (pc' := 5) rfl dJx4a65c_add_9ea2d_2 rfl (q_Jx4a65c_f63 P), w_iconst (cut := ct []) (pc' := 6) (v := 1) rfl dJx4a65c_add_9ea2d_5 rfl rfl, w_iadd (cut := ct []) (pc' := 7) rfl dJx4a65c_add_9ea2d_6 rfl, w_putfield (cut := ct []) (pc' := 10) rfl dJx4a65c_add_9ea2d_7 rfl (q_Jx4a65c_f63 P), w_aload_n (cut := ct []) (pc' := 11) (i := 0) rfl dJx4a65c_add_9ea2d_10 rfl rfl, w_aload_n (cut := ct []) (pc' := 12) (i := 1) rfl dJx4a65c_add_9ea2d_11 rfl rfl, w_aload_n (cut := ct []) (pc' := 13) (i := 0) rfl dJx4a65c_add_9ea2d_12 rfl rfl, w_getfield (cut := ct []) (pc' := 16) rfl dJx4a65c_add_9ea2d_13 rfl (q_Jx4a65c_f9 P), w_aload_n (cut := ct []) (pc' := 17) (i := 0) rfl dJx4a65c_add_9ea2d_16 rfl rfl, w_getfield (cut := ct []) (pc' := 20) rfl dJx4a65c_add_9ea2d_17 rfl (q_Jx4a65c_f48 P), w_invoke (inv := iv_Jx4a65c_add_9ea2d cy P) (kd := 0) (f := 131) (g := sp_Jx4a65c_add_72be8 cy P) (cut := ct []) rfl dJx4a65c_add_9ea2d_20 rfl (by decide) rfl, w_iconst (cut := ct []) (pc' := 24) (v := 1) rfl dJx4a65c_add_9ea2d_23 rfl rfl, w_ireturn (ty := .boolean) (cut := ct []) rfl dJx4a65c_add_9ea2d_24 rfl, rsum, cg_int, cg_ref, cg_null, nby0, strd, mStr, onAL, true_imp_iff, false_imp_iff, not_true_eq_false, not_false_eq_true, Classical.not_not, eq_self, e10, e01, em1, Int32.reduceLT, Int32.reduceLE, onBoat, onGale, onOut, onPort, onRep, onWarn, yn, mI, mS, b0, okA, rcvd, nb0, nb1, ini, List.map_cons, List.map_nil, List.replicate_zero, List.replicate_succ, List.append_nil, ldI, ldA, incK, getK, putK, oldK, castK, inv1, nwO, nwA, nwR, alen, ald, bald, ast, lald, last, rald, rast, goTo, nth, sto, setN, popN, okv, cat1_int, cat1_ref, cat1_null, cat1_rf, va_rf, hup_same, hup_hup, List.length_cons, List.length_nil, List.nil_append, List.cons_append, Option.toList, true_and, and_true, Nat.reduceAdd, Nat.reduceSub, Nat.reduceLT, Nat.reduceLeDiff, Nat.zero_le, Nat.sub_zero, Nat.zero_lt_succ, Nat.lt_add_left_iff_pos, Nat.succ_lt_succ_iff, sp_Jx4a65c_add_9ea2d, bAdd, hq, sp_Jx4a65c_add_72be8, Nat.le_refl, Nat.sub_self]
    refine ⟨n, g, ci, rfl, ⟨⟨_, hup_same _ _ _⟩, hn, ?_, fun i hi => ?_⟩, hci, hn2, ⟨vs, by rw [hup_ne _ _ heq]; exact he⟩, fun el' σ' hAd => hT el' σ' ?_⟩
    · rcases hAL with h | ⟨hpos, hez, f, hel, hfg⟩
      · exact Or.inl h
      · exact Or.inr ⟨hpos, hez, f, by rw [hup_ne _ _ (kne hel hq (by intro z; cases z))]; exact hel, hfg⟩
    · obtain ⟨vs', hv⟩ := hgs i hi
      exact ⟨vs', by rw [hup_ne _ _ (kne hv hq (by intro z; cases z; exact absurd rfl (obj_ne0 hci)))]; exact hv⟩
    · obtain ⟨a1, a2, a3, a4, a5⟩ := hAd
      refine ⟨a1, a2, a3, ?_, fun a h1 h2 => by rw [a5 a h1 h2, hup_ne _ _ h1]⟩
      rcases a4 with h | h
      · exact Or.inl h
      · right
        by_cases hq' : el' = q
        · rw [hq', hup_same] at h; cases h
        · rw [hup_ne _ _ hq'] at h; exact h
  · exact hT.elim
set_option maxRecDepth 100000 in
theorem con_Jx4a65c_add_9ea2d {l : Launch} {s0 : State} {D : va_G} {cy : Nat → ClassId} {P : Pm} {a0 : Array Value} (hE : E0 l s0 D cy P a0) : Con l s0 D yJx4a65c_add_9ea2d (Cond.code yJx4a65c_add_9ea2d cJx4a65c_add_9ea2d 2 (some .boolean)) 6 170 (sp_Jx4a65c_add_9ea2d cy P) := by
  refine con_of (clok_Jx4a65c hE _) (by decide) (fun as σ K KX h => okA_cat h.1) (Nat.le_of_ble_eq_true rfl) ?_ ?_ (m_Jx4a65c_add_9ea2d cy P hE.2.2.2.1)
  · intro p e R s m args below meth c A Q hfr hlo hW B kd j g hg
    unfold iv_Jx4a65c_add_9ea2d at hg
    split at hg
    · cases hg; exact inv_V (ci := 0) B (con_Jx4a65c_add_72be8 hE) rfl (fun as σ K KX h => rcvd_spec h.2.1) (cw_mk hE hW tw_363 rfl tw_5 ⟨by decide, by decide⟩ rfl) rfl (wd hE hW tw_360 rfl) (wd hE hW tw_362 rfl) (wd hE hW (List.mem_of_getElem? (i := 2) (by decide +kernel)) rfl) (by rw [hfr]; decide) (by rw [hlo]; decide)
    · cases hg
  · intro p e R s m args below meth c A K KX hfr hlo hW B htab
    exact xok_none htab
