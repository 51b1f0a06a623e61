/-! ===== the model: its object ===== -/
def oMd (A : Nat → Nat) (I : Nat → Int32) : va_E := .inr (10, [.int (I 0), .int (I 1), .ref (A 2), .ref (A 3), .ref (A 4), .ref (A 5), .int (I 6), .ref (A 7), .ref (A 8), .ref (A 9), .ref (A 10), .ref (A 11), .int (I 12), .ref (A 13), .ref (A 14), .ref (A 15), .ref (A 16), .int (I 17), .ref (A 18), .int (I 19), .int (I 20), .int (I 21), .int (I 22), .int (I 23), .ref (A 24), .ref (A 25), .int (I 26), .int (I 27), .int (I 28), .int (I 29), .ref (A 30), .ref (A 31), .ref (A 32), .ref (A 33), .int (I 34), .ref (A 35), .int (I 36)])
def iu (I : Nat → Int32) (j : Nat) (v : Int32) (k : Nat) : Int32 := if k = j then v else I k
section GM
variable {A : Nat → Nat} {I : Nat → Int32} {k : Jt} {pc : Nat} {ls : List (Option Value)} {st : List Value} {σ : Hp} {rc rs a : Nat} {v : Int32}
theorem gM_0 : getK k (some (oMd A I)) 10 0 pc ls st σ rc rs = k pc ls (.int (I 0) :: st) σ rc rs := by
  simp only [oMd, getK, nth, true_and]
theorem gM_1 : getK k (some (oMd A I)) 10 1 pc ls st σ rc rs = k pc ls (.int (I 1) :: st) σ rc rs := by
  simp only [oMd, getK, nth, true_and]
theorem gM_2 : getK k (some (oMd A I)) 10 2 pc ls st σ rc rs = k pc ls (.ref (A 2) :: st) σ rc rs := by
  simp only [oMd, getK, nth, true_and]
theorem gM_3 : getK k (some (oMd A I)) 10 3 pc ls st σ rc rs = k pc ls (.ref (A 3) :: st) σ rc rs := by
  simp only [oMd, getK, nth, true_and]
theorem gM_4 : getK k (some (oMd A I)) 10 4 pc ls st σ rc rs = k pc ls (.ref (A 4) :: st) σ rc rs := by
  simp only [oMd, getK, nth, true_and]
theorem gM_5 : getK k (some (oMd A I)) 10 5 pc ls st σ rc rs = k pc ls (.ref (A 5) :: st) σ rc rs := by
  simp only [oMd, getK, nth, true_and]
theorem gM_6 : getK k (some (oMd A I)) 10 6 pc ls st σ rc rs = k pc ls (.int (I 6) :: st) σ rc rs := by
  simp only [oMd, getK, nth, true_and]
theorem gM_7 : getK k (some (oMd A I)) 10 7 pc ls st σ rc rs = k pc ls (.ref (A 7) :: st) σ rc rs := by
  simp only [oMd, getK, nth, true_and]
theorem gM_8 : getK k (some (oMd A I)) 10 8 pc ls st σ rc rs = k pc ls (.ref (A 8) :: st) σ rc rs := by
  simp only [oMd, getK, nth, true_and]
theorem gM_9 : getK k (some (oMd A I)) 10 9 pc ls st σ rc rs = k pc ls (.ref (A 9) :: st) σ rc rs := by
  simp only [oMd, getK, nth, true_and]
theorem gM_10 : getK k (some (oMd A I)) 10 10 pc ls st σ rc rs = k pc ls (.ref (A 10) :: st) σ rc rs := by
  simp only [oMd, getK, nth, true_and]
theorem gM_11 : getK k (some (oMd A I)) 10 11 pc ls st σ rc rs = k pc ls (.ref (A 11) :: st) σ rc rs := by
  simp only [oMd, getK, nth, true_and]
theorem gM_12 : getK k (some (oMd A I)) 10 12 pc ls st σ rc rs = k pc ls (.int (I 12) :: st) σ rc rs := by
  simp only [oMd, getK, nth, true_and]
theorem gM_13 : getK k (some (oMd A I)) 10 13 pc ls st σ rc rs = k pc ls (.ref (A 13) :: st) σ rc rs := by
  simp only [oMd, getK, nth, true_and]
theorem gM_14 : getK k (some (oMd A I)) 10 14 pc ls st σ rc rs = k pc ls (.ref (A 14) :: st) σ rc rs := by
  simp only [oMd, getK, nth, true_and]
theorem gM_15 : getK k (some (oMd A I)) 10 15 pc ls st σ rc rs = k pc ls (.ref (A 15) :: st) σ rc rs := by
  simp only [oMd, getK, nth, true_and]
theorem gM_16 : getK k (some (oMd A I)) 10 16 pc ls st σ rc rs = k pc ls (.ref (A 16) :: st) σ rc rs := by
  simp only [oMd, getK, nth, true_and]
theorem gM_17 : getK k (some (oMd A I)) 10 17 pc ls st σ rc rs = k pc ls (.int (I 17) :: st) σ rc rs := by
  simp only [oMd, getK, nth, true_and]
theorem gM_18 : getK k (some (oMd A I)) 10 18 pc ls st σ rc rs = k pc ls (.ref (A 18) :: st) σ rc rs := by
  simp only [oMd, getK, nth, true_and]
theorem gM_19 : getK k (some (oMd A I)) 10 19 pc ls st σ rc rs = k pc ls (.int (I 19) :: st) σ rc rs := by
  simp only [oMd, getK, nth, true_and]
theorem gM_20 : getK k (some (oMd A I)) 10 20 pc ls st σ rc rs = k pc ls (.int (I 20) :: st) σ rc rs := by
  simp only [oMd, getK, nth, true_and]
theorem gM_21 : getK k (some (oMd A I)) 10 21 pc ls st σ rc rs = k pc ls (.int (I 21) :: st) σ rc rs := by
  simp only [oMd, getK, nth, true_and]
theorem gM_22 : getK k (some (oMd A I)) 10 22 pc ls st σ rc rs = k pc ls (.int (I 22) :: st) σ rc rs := by
  simp only [oMd, getK, nth, true_and]
theorem gM_23 : getK k (some (oMd A I)) 10 23 pc ls st σ rc rs = k pc ls (.int (I 23) :: st) σ rc rs := by
  simp only [oMd, getK, nth, true_and]
theorem gM_24 : getK k (some (oMd A I)) 10 24 pc ls st σ rc rs = k pc ls (.ref (A 24) :: st) σ rc rs := by
  simp only [oMd, getK, nth, true_and]
theorem gM_25 : getK k (some (oMd A I)) 10 25 pc ls st σ rc rs = k pc ls (.ref (A 25) :: st) σ rc rs := by
  simp only [oMd, getK, nth, true_and]
theorem gM_26 : getK k (some (oMd A I)) 10 26 pc ls st σ rc rs = k pc ls (.int (I 26) :: st) σ rc rs := by
  simp only [oMd, getK, nth, true_and]
theorem gM_27 : getK k (some (oMd A I)) 10 27 pc ls st σ rc rs = k pc ls (.int (I 27) :: st) σ rc rs := by
  simp only [oMd, getK, nth, true_and]
theorem gM_28 : getK k (some (oMd A I)) 10 28 pc ls st σ rc rs = k pc ls (.int (I 28) :: st) σ rc rs := by
  simp only [oMd, getK, nth, true_and]
theorem gM_29 : getK k (some (oMd A I)) 10 29 pc ls st σ rc rs = k pc ls (.int (I 29) :: st) σ rc rs := by
  simp only [oMd, getK, nth, true_and]
theorem gM_30 : getK k (some (oMd A I)) 10 30 pc ls st σ rc rs = k pc ls (.ref (A 30) :: st) σ rc rs := by
  simp only [oMd, getK, nth, true_and]
theorem gM_31 : getK k (some (oMd A I)) 10 31 pc ls st σ rc rs = k pc ls (.ref (A 31) :: st) σ rc rs := by
  simp only [oMd, getK, nth, true_and]
theorem gM_32 : getK k (some (oMd A I)) 10 32 pc ls st σ rc rs = k pc ls (.ref (A 32) :: st) σ rc rs := by
  simp only [oMd, getK, nth, true_and]
theorem gM_33 : getK k (some (oMd A I)) 10 33 pc ls st σ rc rs = k pc ls (.ref (A 33) :: st) σ rc rs := by
  simp only [oMd, getK, nth, true_and]
theorem gM_34 : getK k (some (oMd A I)) 10 34 pc ls st σ rc rs = k pc ls (.int (I 34) :: st) σ rc rs := by
  simp only [oMd, getK, nth, true_and]
theorem gM_35 : getK k (some (oMd A I)) 10 35 pc ls st σ rc rs = k pc ls (.ref (A 35) :: st) σ rc rs := by
  simp only [oMd, getK, nth, true_and]
theorem gM_36 : getK k (some (oMd A I)) 10 36 pc ls st σ rc rs = k pc ls (.int (I 36) :: st) σ rc rs := by
  simp only [oMd, getK, nth, true_and]
theorem pM_0 : putK k (some (oMd A I)) a 10 0 .int (.int v) pc ls st σ rc rs = k pc ls st (hup σ a (oMd A (iu I 0 v))) rc rs := propext ⟨fun h => h.2.2.2, fun h => ⟨rfl, Nat.le_of_ble_eq_true rfl, rfl, h⟩⟩
theorem pM_1 : putK k (some (oMd A I)) a 10 1 .int (.int v) pc ls st σ rc rs = k pc ls st (hup σ a (oMd A (iu I 1 v))) rc rs := propext ⟨fun h => h.2.2.2, fun h => ⟨rfl, Nat.le_of_ble_eq_true rfl, rfl, h⟩⟩
theorem pM_6 : putK k (some (oMd A I)) a 10 6 .int (.int v) pc ls st σ rc rs = k pc ls st (hup σ a (oMd A (iu I 6 v))) rc rs := propext ⟨fun h => h.2.2.2, fun h => ⟨rfl, Nat.le_of_ble_eq_true rfl, rfl, h⟩⟩
theorem pM_12 : putK k (some (oMd A I)) a 10 12 .int (.int v) pc ls st σ rc rs = k pc ls st (hup σ a (oMd A (iu I 12 v))) rc rs := propext ⟨fun h => h.2.2.2, fun h => ⟨rfl, Nat.le_of_ble_eq_true rfl, rfl, h⟩⟩
theorem pM_17 : putK k (some (oMd A I)) a 10 17 .int (.int v) pc ls st σ rc rs = k pc ls st (hup σ a (oMd A (iu I 17 v))) rc rs := propext ⟨fun h => h.2.2.2, fun h => ⟨rfl, Nat.le_of_ble_eq_true rfl, rfl, h⟩⟩
theorem pM_19 : putK k (some (oMd A I)) a 10 19 .int (.int v) pc ls st σ rc rs = k pc ls st (hup σ a (oMd A (iu I 19 v))) rc rs := propext ⟨fun h => h.2.2.2, fun h => ⟨rfl, Nat.le_of_ble_eq_true rfl, rfl, h⟩⟩
theorem pM_20 : putK k (some (oMd A I)) a 10 20 .int (.int v) pc ls st σ rc rs = k pc ls st (hup σ a (oMd A (iu I 20 v))) rc rs := propext ⟨fun h => h.2.2.2, fun h => ⟨rfl, Nat.le_of_ble_eq_true rfl, rfl, h⟩⟩
theorem pM_21 : putK k (some (oMd A I)) a 10 21 .int (.int v) pc ls st σ rc rs = k pc ls st (hup σ a (oMd A (iu I 21 v))) rc rs := propext ⟨fun h => h.2.2.2, fun h => ⟨rfl, Nat.le_of_ble_eq_true rfl, rfl, h⟩⟩
theorem pM_22 : putK k (some (oMd A I)) a 10 22 .int (.int v) pc ls st σ rc rs = k pc ls st (hup σ a (oMd A (iu I 22 v))) rc rs := propext ⟨fun h => h.2.2.2, fun h => ⟨rfl, Nat.le_of_ble_eq_true rfl, rfl, h⟩⟩
theorem pM_23 : putK k (some (oMd A I)) a 10 23 .int (.int v) pc ls st σ rc rs = k pc ls st (hup σ a (oMd A (iu I 23 v))) rc rs := propext ⟨fun h => h.2.2.2, fun h => ⟨rfl, Nat.le_of_ble_eq_true rfl, rfl, h⟩⟩
theorem pM_26 : putK k (some (oMd A I)) a 10 26 .int (.int v) pc ls st σ rc rs = k pc ls st (hup σ a (oMd A (iu I 26 v))) rc rs := propext ⟨fun h => h.2.2.2, fun h => ⟨rfl, Nat.le_of_ble_eq_true rfl, rfl, h⟩⟩
theorem pM_27 : putK k (some (oMd A I)) a 10 27 .int (.int v) pc ls st σ rc rs = k pc ls st (hup σ a (oMd A (iu I 27 v))) rc rs := propext ⟨fun h => h.2.2.2, fun h => ⟨rfl, Nat.le_of_ble_eq_true rfl, rfl, h⟩⟩
theorem pM_28 : putK k (some (oMd A I)) a 10 28 .int (.int v) pc ls st σ rc rs = k pc ls st (hup σ a (oMd A (iu I 28 v))) rc rs := propext ⟨fun h => h.2.2.2, fun h => ⟨rfl, Nat.le_of_ble_eq_true rfl, rfl, h⟩⟩
theorem pM_29 : putK k (some (oMd A I)) a 10 29 .int (.int v) pc ls st σ rc rs = k pc ls st (hup σ a (oMd A (iu I 29 v))) rc rs := propext ⟨fun h => h.2.2.2, fun h => ⟨rfl, Nat.le_of_ble_eq_true rfl, rfl, h⟩⟩
theorem pM_34 : putK k (some (oMd A I)) a 10 34 .int (.int v) pc ls st σ rc rs = k pc ls st (hup σ a (oMd A (iu I 34 v))) rc rs := propext ⟨fun h => h.2.2.2, fun h => ⟨rfl, Nat.le_of_ble_eq_true rfl, rfl, h⟩⟩
theorem pM_36 : putK k (some (oMd A I)) a 10 36 .int (.int v) pc ls st σ rc rs = k pc ls st (hup σ a (oMd A (iu I 36 v))) rc rs := propext ⟨fun h => h.2.2.2, fun h => ⟨rfl, Nat.le_of_ble_eq_true rfl, rfl, h⟩⟩
theorem rcM {m : Nat} {as : List Value} (h : σ m = some (oMd A I)) : rcvd 10 (.ref m :: as) σ = True := by
  simp only [rcvd, h, oMd, eq_self]
theorem rcM2 {m : Nat} {as : List Value} : rcvd 10 (.ref m :: as) (hup σ m (oMd A I)) = True := rcM (hup_same _ _ _)
def isMd (e : Option va_E) : Prop := ∃ A I, e = some (oMd A I)
theorem isMd_M : isMd (some (oMd A I)) = True := eq_true ⟨A, I, rfl⟩
def setTE (e : Option va_E) (c : Int32) : va_E := match e with
  | some (.inr (_, _ :: vs)) => .inr (10, .int c :: vs)
  | _ => .inr (10, [])
theorem setTE_M : setTE (some (oMd A I)) v = oMd A (iu I 0 v) := rfl
def fI (e : Option va_E) (j : Nat) : Int32 := match e with
  | some (.inr (_, vs)) => (match nth vs j with
    | some (.int x) => x
    | _ => 0)
  | _ => 0
theorem fI_0 : fI (some (oMd A I)) 0 = I 0 := rfl
theorem fI_1 : fI (some (oMd A I)) 1 = I 1 := rfl
theorem fI_6 : fI (some (oMd A I)) 6 = I 6 := rfl
theorem fI_36 : fI (some (oMd A I)) 36 = I 36 := rfl
theorem one_ne : ((1 : Int32) = 0) = False := eq_false (by decide)
theorem zero_ne : ((0 : Int32) = 1) = False := eq_false (by decide)
end GM
