/-! ===== 'throw new NoSuchElementException(text)': its constructor passes on by entry 13 of its own pool ===== -/
def nsE : String := "java/util/NoSuchElementException"
def nsY : String := "java/lang/RuntimeException"
def nsB : ByteArray := ⟨#[0x2a, 0x2b, 0xb7, 0x00, 0x0d, 0xb1]⟩
theorem nsB_0 : decode nsB 0 = .ok (.aload_n 0, 1) := by decide +kernel
theorem nsB_1 : decode nsB 1 = .ok (.aload_n 1, 1) := by decide +kernel
theorem nsB_2 : decode nsB 2 = .ok (.invokespecial 13, 3) := by decide +kernel
theorem nsB_5 : decode nsB 5 = .ok (.return_, 1) := by decide +kernel
def nsT (ic : Nat) : List Cond := [.methodLink "StormFlags" ic (Bundle.initS nsE), .instantiable nsE 6, .castable nsE nsE, .selects nsE Bundle.tFill0 Bundle.tFill0, .selects nsE Bundle.tFill Bundle.tFill,
   .lays nsE Bundle.tN "cause" "Ljava/lang/Throwable;", .lays nsE Bundle.tN "stackTrace" Bundle.steD, .lays nsE Bundle.tN "suppressedExceptions" Bundle.listD, .lays nsE Bundle.tN "detailMessage" "Ljava/lang/String;",
   .isRef (.static Bundle.tN "UNASSIGNED_STACK" Bundle.steD), .isRef (.static Bundle.tN "SUPPRESSED_SENTINEL" Bundle.listD),
   .fieldLink Bundle.tN 198 Bundle.tN "backtrace" "Ljava/lang/Object;", .lays Bundle.tN Bundle.tN "backtrace" "Ljava/lang/Object;", .lays nsE Bundle.tN "backtrace" "Ljava/lang/Object;"]
def nsP : List Cond := Bundle.passSAtoms nsE nsY 13 nsB
def nsC : List Cond := Bundle.chainSAtoms nsY ["java/lang/Exception"]
def nsA (ic : Nat) : List Cond := Bundle.throwableAtoms ++ Bundle.throwableSAtoms ++ nsP ++ nsC ++ nsT ic
section NS
variable {p : Program} {l : Launch} {e : Env} {R : Room} {s : State} {m₀ : MethodId} {args : Array Value} {below : List Frame} {meth : Method} {c : Code} {U0 : State} {locs : List Loc} {cells slots : Nat}
set_option maxHeartbeats 2000000 in
theorem ns_ctor (X : Stand p l e R s m₀ args below meth c U0 locs cells slots) (hexec : p.tables.exec = Jvm.exec) (htr : e.platform.stackTraces = false) {ic : Nat} (hown : s.vm.findClass "StormFlags" = some m₀.cls) (h : ∀ a ∈ nsA ic, a.before args s = true)
    (hlocs : ∀ x ∈ locs, ∀ cell, s.heap[x.base]? = some cell → cell.vm.isStatics = false)
    {a : Addr} {cX : ClassId} {kX : Class} (hfoundX : s.vm.findClass nsE = some cX) (hkX : s.vm.classes[cX]? = some kX) (hcell : U0.heap[a]? = some (freshCell cX kX)) (hnew : s.heap.size ≤ a) {msg : Value} (hmsg : msg.isRef = true)
    {g : JFrame} (hg : g.method = m₀) (hsize : g.locals.size = c.maxLocals) (hlocked : g.locked = none) (hentered : g.entered = []) {rest : List Value} (hstack : g.stack = msg :: .ref a :: .ref a :: rest)
    (hd6 : decode c.code g.pc = .ok (.invokespecial ic, 3)) (hd9 : decode c.code (g.pc + 3) = .ok (.athrow, 1)) (hout : ∀ x ∈ c.exceptionTable.toList, covers x (g.pc + 3) = false)
    (hRframes : 5 < R.frames) (hRlocals : 2 * g.monitorRoom + ((Value.ref a :: rest).map fun v => v.category).sum + 81 ≤ R.locals) (hlocks : meth.locks = false) :
    ∃ U : State, Steps p.tables e below (U0.setTop g) U ∧ U.status = .running ∧ Ended U below (.threw a) ∧ s.WarmedH U.vm ∧ s.sameButNew ({ U with vm := s.vm } : State) locs cells slots ∧
      ∃ ce, U.heap[a]? = some ce ∧ s.vm.findClass nsE = some ce.cls ∧ ce.vm = .none := by
  have hpl : e.platform.magicAccessors = ({} : Platform).magicAccessors := by rw [X.admits.platform]
  have tT : ∀ w, w ∈ nsT ic → w.holds args s none s [] = true := fun w hw => h w (List.mem_append_right _ hw)
  have tP : ∀ w, w ∈ nsP → w.before args s = true := fun w hw => h w (List.mem_append_left _ (List.mem_append_left _ (List.mem_append_right _ hw)))
  obtain ⟨T, Z0, L, -, Y⟩ := ThrowableC.of_atoms (args := args) (pl := e.platform) (by rw [X.admits.platform]) (by rw [X.admits.platform]) hpl (fun w hw => h w (List.mem_append_left _ (List.mem_append_left _ (List.mem_append_left _ (List.mem_append_left _ hw)))))
  obtain ⟨Z, M, LZ, LM, hnZ⟩ := Init0T.ofS_atoms (args := args) hpl L Y (fun w hw => h w (List.mem_append_left _ (List.mem_append_left _ (List.mem_append_left _ (List.mem_append_right _ hw)))))
  obtain ⟨P1, L1, hP1m, hs1⟩ := PassC.ofS_atoms (args := args) (s := s) hpl (X := nsE) (Y := nsY) (by decide) (by decide) nsB_0 nsB_1 nsB_2 nsB_5 tP
  obtain ⟨P2, Ps, hlen, L2, hL, hm2, hlink2, hlink⟩ := Bundle.chainS (args := args) hpl hnZ ["java/lang/Exception"] nsY (by decide) (by decide) (fun w hw => h w (List.mem_append_left _ (List.mem_append_right _ hw)))
  have hlink1 : P1.sup = P2.m := Option.some.inj (hs1.symm.trans hm2)
  have hfound : s.vm.findClass nsE = some P1.m.cls := findClass_of_methodNamed hP1m
  cases Option.some.inj (hfoundX.symm.trans hfound)
  obtain ⟨c1, kX', hc1, hk, hord, -, -, hn6⟩ := Cond.instantiable_spec (tT (.instantiable nsE 6) (by simp [nsT]))
  cases Option.some.inj (hc1.symm.trans hfound)
  cases Option.some.inj (hkX.symm.trans hk)
  have sel : ∀ (y : MethodName) (mm : MethodId), Cond.selects nsE y y ∈ nsT ic → s.methodNamed? y = some mm → s.methodFound? y.cls y.name y.desc = some mm → selectMethod e.platform s.vm P1.m.cls mm = .method mm := by
    intro y mm hw hn hf
    obtain ⟨c2, r2, m2, q1, q2, q3, q4, -⟩ := Cond.selects_spec (tT _ hw)
    cases Option.some.inj (q1.symm.trans hfound)
    cases Option.some.inj (q2.symm.trans hf)
    cases Option.some.inj (q3.symm.trans hn)
    rw [Launch.admits_selectMethod X.admits]; exact q4
  have hsel0 := sel Bundle.tFill0 T.fill0 (by simp [nsT]) Y.fill0 (State.methodFound?_of_named Y.fill0 (by decide))
  have hselF := sel Bundle.tFill T.fill (by simp [nsT]) Y.fill (State.methodFound?_of_named Y.fill (by decide))
  obtain ⟨cellS0, hcS0, hiss⟩ := Y.statics
  obtain ⟨u0, hu0⟩ := Cond.staticRefV Y.unassigned L.unassignedStatic L.statics hcS0 hiss (tT (.isRef (.static Bundle.tN "UNASSIGNED_STACK" Bundle.steD)) (by simp [nsT]))
  obtain ⟨sen, hsen⟩ := Cond.staticRefV Y.sentinel L.sentinelStatic L.statics hcS0 hiss (tT (.isRef (.static Bundle.tN "SUPPRESSED_SENTINEL" Bundle.listD)) (by simp [nsT]))
  obtain ⟨ci198, i198, fB, hk198, hg198, ha198, hsB, -, hnB, htB, hffB⟩ := Cond.ownField (t := .object "java/lang/Object") Y.found L.cls (by decide +kernel) (tT (.fieldLink Bundle.tN 198 Bundle.tN "backtrace" "Ljava/lang/Object;") (by simp [nsT])) (tT (.lays Bundle.tN Bundle.tN "backtrace" "Ljava/lang/Object;") (by simp [nsT])) e.platform hpl
  obtain ⟨cellS, hcellS, heS, -, hkeep⟩ := X.same.2.2.2.2.2 T.aS cellS0 hcS0
  have hout' : ∀ i, (⟨T.aS, i⟩ : Loc) ∉ locs := fun i hmem => by
    have := hlocs _ hmem cellS0 hcS0
    rw [hiss] at this; cases this
  have hknownS : cellS.vm ≠ .unknown := fun hu => by
    rw [heS] at hu
    rw [show cellS0.vm = .unknown from hu] at hiss
    cases hiss
  obtain ⟨iM, hffM⟩ := Y.msg
  obtain ⟨tyC, dC, hdC, hdnC⟩ := Cond.laysAt hfound hk Y.cause (tT (.lays nsE Bundle.tN "cause" "Ljava/lang/Throwable;") (by simp [nsT]))
  obtain ⟨tyS, dS, hdS, hdnS⟩ := Cond.laysAt hfound hk Y.stack (tT (.lays nsE Bundle.tN "stackTrace" Bundle.steD) (by simp [nsT]))
  obtain ⟨tyP, dP, hdP, hdnP⟩ := Cond.laysAt hfound hk Y.supp (tT (.lays nsE Bundle.tN "suppressedExceptions" Bundle.listD) (by simp [nsT]))
  obtain ⟨tyM, dM, hdM, hdnM⟩ := Cond.laysAt hfound hk hffM (tT (.lays nsE Bundle.tN "detailMessage" "Ljava/lang/String;") (by simp [nsT]))
  obtain ⟨tyB, dB, hdB, hdnB⟩ := Cond.laysAt hfound hk hffB (tT (.lays nsE Bundle.tN "backtrace" "Ljava/lang/Object;") (by simp [nsT]))
  have bC := Cond.laysApart hdB hdC hdnB hdnC (by rw [hnB, Y.causeName]; decide)
  have bS := Cond.laysApart hdB hdS hdnB hdnS (by rw [hnB, Y.stackName]; decide)
  have bP := Cond.laysApart hdB hdP hdnB hdnP (by rw [hnB, Y.suppName]; decide)
  have hskip : SkipFacts T e.platform s (fun u => u) u0 ((preparedCellV T.toThrowableT (freshCell P1.m.cls kX) a u0 sen).withEntry U0.cur) :=
    ⟨{ ci198 := ci198, i198 := i198, fBack := fB }, ⟨hk198, hg198, ha198, hsB⟩, by
      have := fresh_default (c := P1.m.cls) tyB
      rw [htB] at this
      simpa [preparedCellV, Cell.setSlot, Cell.withEntry, Array.getElem?_setIfInBounds, bC, bS, bP, bC.symm, bS.symm, bP.symm, defaultValue] using this, fun _ _ => rfl⟩
  obtain ⟨tm, methC, cdC, kC, vm₁, hnC, -, -, -, -, -, -, -, hW₁, st1⟩ := Steps.initColdS (tb := p.tables) (e := e) (below := below) (s := s) (U := U0) X.here hexec X.warmed hpl hown (t := Bundle.initS nsE) rfl rfl (by decide)
    (tT (.methodLink "StormFlags" ic (Bundle.initS nsE)) (by simp [nsT])) (tP (.instanceMethod (Bundle.initS nsE)) (by simp [nsP, Bundle.passSAtoms])) (bytes := nsB) (maxL := 2) (tP (.code (Bundle.initS nsE) nsB 2 none) (by simp [nsP, Bundle.passSAtoms]))
    (f := g) hg (a := a) (msg := msg) (rest := .ref a :: rest) hstack hd6
  cases Option.some.inj (hnC.symm.trans hP1m)
  have X₁ := X.noted hW₁
  obtain ⟨vm₂, X₂, st2⟩ := X₁.ctorMessageOffV hexec (g := { g with stack := .ref a :: rest }) hg hsize T L Z LZ M LM (P1 :: P2 :: Ps)
    (fun P hP => by
      rcases List.mem_cons.mp hP with rfl | hP
      · exact L1
      · rcases List.mem_cons.mp hP with rfl | hP
        · exact L2
        · exact hL P hP) ⟨hlink1, hlink2, hlink⟩ (u0 := u0) (sen := sen) (self := a) hmsg (cell := freshCell P1.m.cls kX) (cellS := cellS)
    hcell (fun _ => by simp) (by simp) rfl rfl hsel0 hselF hcellS (Nat.ne_of_lt (Nat.lt_of_lt_of_le (Array.getElem?_eq_some_iff.mp hcS0).1 hnew)) hknownS (by rw [hkeep _ (hout' _)]; exact hu0) (by rw [hkeep _ (hout' _)]; exact hsen)
    (Takes.of_laid hk hord tyC (by rw [Y.causeType]; rfl)) (Takes.of_laid hk hord tyS (by rw [Y.stackType]; exact fits_refV_array _ u0)) (Takes.of_laid hk hord tyP (by rw [Y.suppType]; exact fits_refV_object _ sen))
    (Takes.of_laid hk hord tyM (by rw [Y.msgType]; exact fits_refV_object _ ⟨msg, hmsg⟩)) Y.objLocals hskip htr [] hd6
    (by simp only [List.length_cons, hlen, List.length_nil]; omega) (by simp only [List.length_cons, hlen, List.length_nil]; omega)
  obtain ⟨hwalk, hrun, hended, hWU, hsame⟩ := X₂.athrowLeaves hexec (g := { g with stack := .ref a :: rest, pc := g.pc + 3 }) hg hlocked hentered hout (a := a) (rest := rest) rfl hd9
  have hU := heapAt_setCell_self (s := (U0.setVm vm₁).setVm vm₂) (plainBareV T.toThrowableT (freshCell P1.m.cls kX) a u0 sen msg) (show a < ((U0.setVm vm₁).setVm vm₂).heap.size from (Array.getElem?_eq_some_iff.mp hcell).1)
  refine ⟨_, st1 _ (fun acts => ?_), hrun, hended, hWU, hsame.weaken (fun y hy hlt' => ?_) (Nat.le_refl _) (Nat.le_refl _), _, hU, hfound, rfl⟩
  · rw [doInvoke_state]
    exact st2 _ hwalk
  · rcases List.mem_append.mp hy with h1 | h1
    · exact h1
    · have hb : y.base = a := by
        simp only [List.mem_cons, List.not_mem_nil, or_false] at h1
        rcases h1 with rfl | rfl | rfl | rfl | rfl <;> rfl
      rw [hb] at hlt'
      exact absurd hnew (Nat.not_le.mpr hlt')
end NS
def nsW (ic : Nat) : List Cond := (nsA ic).filter vx_no
theorem nsW_in : ∀ w ∈ nsW 216, w ∈ lw_tbl := by decide +kernel
theorem nsW_ok : (nsW 216).all (fun w => okWord w || decide (w = .castable nsE nsE)) = true := by decide +kernel
theorem nsW_ot : ∀ w ∈ Cond.classLink "StormFlags" 212 nsE :: Cond.initialized nsE :: nsW 216, vx_ot w = true := by decide +kernel
section NS2
variable {p : Program} {l : Launch} {e : Env} {R : Room} {s : State} {m : MethodId} {args : Array Value} {below : List Frame} {meth : Method} {c : Code}
variable {s0 : State} {D : va_G} {cy : Nat → ClassId} {P : Pm} {a0 : Array Value} {A : Nat → Prop} {nL : Nat} {cc : ByteArray}
set_option maxHeartbeats 2000000 in
theorem thr_okN (B : Bd p s m meth c s0 D cy P.2.1 A nL "StormFlags" cc) (hE : E0 l s0 D cy P a0) (htab : ∀ x ∈ c.exceptionTable.toList, False) {K : Option Value → Hp → Prop} {KX : String → Hp → Prop} {text : String} {is pc : Nat} (hs9 : (is, text) ∈ msgTab)
    (hk : Cond.classLink "StormFlags" 212 nsE ∈ lw_tbl) (hi : Cond.initialized nsE ∈ lw_tbl)
    (d0 : decode cc pc = .ok (.new 212, 3)) (d3 : decode cc (pc + 3) = .ok (.dup, 1)) (d4 : decode cc (pc + 4) = .ok (.ldc is, 2)) (d6 : decode cc (pc + 6) = .ok (.invokespecial 216, 3)) (d9 : decode cc (pc + 9) = .ok (.athrow, 1)) (hfr : 6 ≤ R.frames) (hlo : 90 ≤ R.locals)
    {σ : Hp} {H : Heap} {locs : List Loc} {cells slots : Nat} {lsA : Array Slot} {st : List Value} (hKX : KX nsE σ) (hO : Okh s0 D σ H) (hdom : ∀ a, σ a ≠ none → A a) (hS : va_S A s.heap H locs) (hc : cells + 1 ≤ R.cells) (hsl : slots + 6 ≤ R.slots) (hsz : lsA.size = nL) (hst : st.length ≤ 4) :
    W p l e R s m args below meth c H locs cells slots (vx_MQ below (QcF s0 D A K) (XcF s0 D A KX) args s R.cells R.slots A) (F0 m pc lsA st) := by
  have hW := B.2.2.2.2.2.2.2.2.2.1
  have hA2 := B.2.2.2.2.2.2.2.1
  have hold := B.2.2.2.2.2.2.2.2.2.2.1
  have hexec := B.1
  have hb := B.2.1
  have hown := B.2.2.2.1
  obtain ⟨sa, hsa⟩ := hE.2.2.2.2.2.2.2.2.1 _ hs9
  have hstr := vk_R.warm hW hsa
  have hsum := sum_le hst
  have hat : ∀ w ∈ nsW 216, w.before args s = true := fun w hw => by
    have h1 := List.all_eq_true.mp nsW_ok w hw
    rw [Bool.or_eq_true] at h1
    rcases h1 with h1 | h1
    · exact wd hE hW (nsW_in w hw) h1
    · have h2 : w = .castable nsE nsE := by simpa using h1
      rw [h2] at hw ⊢
      exact wd hE hW (nsW_in _ hw) rfl
  have hk0 : (Cond.classLink "StormFlags" 212 nsE).before args s = true := wd hE hW hk rfl
  have hini0 : (Cond.initialized nsE).before args s = true := wd hE hW hi rfl
  have hU := vx_Zq_at hE.2.2.2.2.2.2.2.2.2.2.2.2.2.2.1 hW.alike hold hA2
  have hN := vx_Zq_at hE.2.2.2.2.2.2.2.2.2.2.2.2.2.2.2 hW.alike hold hA2
  intro T hT X
  have htr : e.platform.stackTraces = false := (show e.platform.stackTraces = l.stackTraces by rw [X.admits.platform]).trans hE.2.2.1
  have Y := vx_rebase X (R' := { frames := R.frames, locals := R.locals, cells := 1, slots := 6 }) (Nat.le_refl _) (Nat.le_refl _) hc hsl
  obtain ⟨s', hA⟩ : ∃ z, z = (T.setVm s.vm).setFrames (.invoking m args :: below) := ⟨_, rfl⟩
  rw [← hA] at Y
  have hvm : s'.vm = s.vm := by rw [hA]; rfl
  have hhp : s'.heap = H := by rw [hA]; exact hT
  have hW0 : s.WarmedH s'.vm := by rw [hvm]; exact State.WarmedH.refl s
  have hat' : ∀ w ∈ nsW 216, w.before args s' = true := fun w hw => vx_ot_at hW0 hvm.symm (nsW_ot w (List.mem_cons_of_mem _ (List.mem_cons_of_mem _ hw))) (hat w hw)
  have hU' : vx_Zq Bundle.tN "UNASSIGNED_STACK" Bundle.steD A s' s'.heap := by rw [hhp]; exact vx_Zq.moved hW0.alike (hU.kept hS.2.1)
  have hN' : vx_Zq Bundle.tN "SUPPRESSED_SENTINEL" Bundle.listD A s' s'.heap := by rw [hhp]; exact vx_Zq.moved hW0.alike (hN.kept hS.2.1)
  have h : ∀ w ∈ nsA 216, w.before args s' = true := vx_own hat' (vx_isRefq hU'.1) (vx_isRefq hN'.1) hU'.2.word hN'.2.word
  have hown' : s'.vm.findClass "StormFlags" = some m.cls := by rw [hvm]; exact hown
  obtain ⟨vm₁, cX, kX, hfX, hkX, -, -, X₁, st1⟩ := Y.newCold hexec (own := "StormFlags") (C := nsE) (index := 212) (n := 6) hown' (vx_ot_at hW0 hvm.symm (nsW_ot _ List.mem_cons_self) hk0) (h _ (List.mem_append_right _ (by simp [nsT]))) (vx_ot_at hW0 hvm.symm (nsW_ot _ (List.mem_cons_of_mem _ List.mem_cons_self)) hini0)
    (g := F0 m pc lsA st) rfl (by rw [hb]; exact d0) (Nat.le_refl _) (Nat.le_refl _)
  generalize hT1 : (T.setVm vm₁).pushCell { cls := cX, slots := kX.instanceTypes.map defaultValue, vm := .none } = T1 at X₁ st1
  have hcat : (Value.ref T.heap.size).category = 1 := rfl
  have hcellA : T1.heap[T.heap.size]? = some (freshCell cX kX) := by rw [← hT1]; exact State.heap_pushCell_size _ _
  have d3' : decode c.code (pc + 3) = .ok (.dup, 1) := by rw [hb]; exact d3
  have hstr' : vk_R "StormFlags" is text sa s' := vk_R.warm hW0 hstr
  obtain ⟨U, hsteps, hrun, hend, hWU, hsame, ce, hce, hcl9, hcv⟩ := ns_ctor X₁ hexec htr hown' h (fun x hx => nomatch hx) hfX hkX hcellA (by rw [hhp, hT]; exact Nat.le_refl _) (msg := .ref sa) rfl
    (g := { method := m, pc := pc + 6, locals := lsA, stack := .ref sa :: .ref T.heap.size :: .ref T.heap.size :: st, locked := none }) rfl (by rw [B.2.2.1]; exact hsz) rfl rfl (rest := st) rfl
    (by rw [hb]; exact d6) (by rw [hb]; exact d9) (fun x hx => (htab x hx).elim) (show 5 < R.frames by omega) (by
      show 2 * 0 + ((Value.ref T.heap.size :: st).map fun v => v.category).sum + 81 ≤ R.locals
      simp only [List.map_cons, List.sum_cons, hcat]; omega) B.2.2.2.2.1
  obtain ⟨f1, f2⟩ := vx_frame hsame
  rw [hhp] at f1 f2
  have hWs : s.WarmedH U.vm := State.WarmedH.trans hW0 hWU
  have hcl : s.vm.findClass nsE = some ce.cls := by rw [hvm] at hcl9; exact hcl9
  have hall : s.sameButNew ({ U with vm := s.vm } : State) locs R.cells R.slots := by
    subst hA
    obtain ⟨e1, e2⟩ := hsame
    rw [State.setFrames_setFrames] at e1
    have h2 : (T.setVm s.vm).sameButNew ({ U with vm := s.vm } : State) [] (0 + 1) (0 + 6) := ⟨e1, e2⟩
    have h3 := X.same.trans h2
    rw [List.append_nil] at h3
    exact h3.mono hc hsl
  refine ⟨U, ?_, .threw T.heap.size, hrun, hend, Or.inr ⟨T.heap.size, rfl, nsE, ce, locs, ?_, hce, hcv, hcl, hWs, hall, hS.2.2⟩⟩
  · refine st1 _ ?_
    show Steps p.tables e below (T1.setTop { method := m, pc := pc + 3, locals := lsA, stack := .ref T.heap.size :: st, locked := none }) _
    jvm_step X₁.here [X₁.here.top, hexec, d3', Value.category]
    exact X₁.ldcString hexec (own := "StormFlags") (text := text) (index := is) (a := sa) hown' hstr'.1 hstr'.2
      (g := { method := m, pc := pc + 4, locals := lsA, stack := .ref T.heap.size :: .ref T.heap.size :: st, locked := none }) rfl (by rw [hb]; exact d4) _ hsteps
  · obtain ⟨L, f, i1, hP, hD⟩ := hO
    have hq : ∀ q : Nat, q < H.size → U.heap[q]? = H[q]? := fun q hq => f2 q hq (fun z hz => nomatch hz)
    exact ⟨⟨σ, hKX, ⟨L, f, i1, hP.kept (fun k q hk => hq q.1 ((hP k q hk).lt)), hD⟩, hdom⟩, Nat.le_trans hS.1 f1, fun q h1 h2 => by rw [hq q (Nat.lt_of_lt_of_le h1 hS.1)]; exact hS.2.1 q h1 h2⟩
end NS2
