/-! ===== from the law's entry ===== -/
theorem forget_new {s t : State} {oc : Outcome} {L : List Loc} {k n : Nat} (h : FrameEnd s oc t L k n) (hL : ∀ q ∈ L, s.heap.size ≤ q.base) : Framed s oc t [] k n := by
  obtain ⟨h1, h2, e1, e2, e3, e4, e5, e6⟩ := h
  refine ⟨h1, h2, e1, e2, e3, e4, e5, fun a c hc => ?_⟩
  obtain ⟨c', d1, d2, d3, d4⟩ := e6 a c hc
  refine ⟨c', d1, d2, d3, fun i _ => d4 i (fun hm => ?_)⟩
  have h8 := hL _ hm
  have h9 := (Array.getElem?_eq_some_iff.mp hc).1
  have h7 : s.heap.size ≤ a := h8
  omega
set_option maxRecDepth 100000 in
theorem law_inv {p : Program} {l : Launch} {e : Env} {s : State} {m : MethodId} {args : Array Value} {below : List Frame} {meth : Method} {c : Code} {D : va_G} {cy : Nat → ClassId} {P : Pm} {a0 : Array Value} {A : Nat → Prop} {Q : State → Prop} (hE : E0 l s D cy P a0) (hN : NCok s) (B : Bd p s m meth c s D cy P.2.1 A 7 RL cL_law) : ∀ kd j g, iv_L_law cy P kd j = some g → InvOK p l e room_1 s m args below meth c s D A 7 cL_law Q (insOf kd j) g := by
  have hW : s.WarmedH s.vm := State.WarmedH.refl s
  intro kd j g hg
  unfold iv_L_law at hg
  split at hg
  · cases hg; exact inv_I B (con_fr (con_X8_init hE)) (fun as σ K KX h => h) (fun as σ K KX h => (fr_rcv h).imp fun b h => h.imp fun As h => h.choose_spec.1) (cw_mk hE hW tw_34 rfl tw_1 ⟨by decide, by decide⟩ rfl) rfl (wd hE hW tw_32 rfl) (wd hE hW tw_33 rfl) rfl (Nat.le_of_ble_eq_true rfl) (Nat.le_of_ble_eq_true rfl)
  · cases hg; exact inv_I B (con_fr (con_X9_init hE)) (fun as σ K KX h => h) (fun as σ K KX h => (fr_rcv h).imp fun b h => h.imp fun As h => h.choose_spec.1) (cw_mk hE hW tw_920 rfl tw_8 ⟨by decide, by decide⟩ rfl) rfl (wd hE hW tw_918 rfl) (wd hE hW tw_919 rfl) rfl (Nat.le_of_ble_eq_true rfl) (Nat.le_of_ble_eq_true rfl)
  · cases hg; exact inv_V (ci := 9) B (con_fr (con_X8_feed hE)) rfl (fun as σ K KX h => fr_rcv h) (cw_mk hE hW tw_165 rfl tw_1 ⟨by decide, by decide⟩ rfl) rfl (wd hE hW tw_162 rfl) (wd hE hW tw_163 rfl) (wd hE hW tw_164 rfl) (Nat.le_of_ble_eq_true rfl) (Nat.le_of_ble_eq_true rfl)
  · cases hg; exact inv_V (ci := 10) B (con_fr (con_X9_feed hE)) rfl (fun as σ K KX h => fr_rcv h) (cw_mk hE hW tw_1077 rfl tw_8 ⟨by decide, by decide⟩ rfl) rfl (wd hE hW tw_1074 rfl) (wd hE hW tw_1075 rfl) (wd hE hW tw_1076 rfl) (Nat.le_of_ble_eq_true rfl) (Nat.le_of_ble_eq_true rfl)
  · cases hg; exact inv_V (ci := 9) B (con_fr (con_X8_end hE)) rfl (fun as σ K KX h => fr_rcv h) (cw_mk hE hW tw_181 rfl tw_1 ⟨by decide, by decide⟩ rfl) rfl (wd hE hW tw_178 rfl) (wd hE hW tw_179 rfl) (wd hE hW tw_180 rfl) (Nat.le_of_ble_eq_true rfl) (Nat.le_of_ble_eq_true rfl)
  · cases hg; exact inv_V (ci := 10) B (con_fr (con_X9_end hE)) rfl (fun as σ K KX h => fr_rcv h) (cw_mk hE hW tw_1081 rfl tw_8 ⟨by decide, by decide⟩ rfl) rfl (wd hE hW tw_1078 rfl) (wd hE hW tw_1079 rfl) (wd hE hW tw_1080 rfl) (Nat.le_of_ble_eq_true rfl) (Nat.le_of_ble_eq_true rfl)
  · cases hg; exact inv_SX B (con_L_port hE hN) (cw_mk hE hW tw_223 rfl tw_0 ⟨by decide, by decide⟩ rfl) (wd hE hW tw_221 rfl) (wd hE hW tw_222 rfl) (Nat.le_of_ble_eq_true rfl) (Nat.le_of_ble_eq_true rfl)
  · cases hg; exact inv_V (ci := 10) B (con_fr (con_X9_port hE)) rfl (fun as σ K KX h => fr_rcv h) (cw_mk hE hW tw_1041 rfl tw_8 ⟨by decide, by decide⟩ rfl) rfl (wd hE hW tw_1038 rfl) (wd hE hW tw_1039 rfl) (wd hE hW tw_1040 rfl) (Nat.le_of_ble_eq_true rfl) (Nat.le_of_ble_eq_true rfl)
  · cases hg; exact inv_V (ci := 10) B (con_fr (con_X9_thrown hE)) rfl (fun as σ K KX h => fr_rcv h) (cw_mk hE hW tw_1037 rfl tw_8 ⟨by decide, by decide⟩ rfl) rfl (wd hE hW tw_1034 rfl) (wd hE hW tw_1035 rfl) (wd hE hW tw_1036 rfl) (Nat.le_of_ble_eq_true rfl) (Nat.le_of_ble_eq_true rfl)
  · cases hg; exact inv_SX B (con_L_report hE hN) (cw_mk hE hW tw_420 rfl tw_0 ⟨by decide, by decide⟩ rfl) (wd hE hW tw_418 rfl) (wd hE hW tw_419 rfl) (Nat.le_of_ble_eq_true rfl) (Nat.le_of_ble_eq_true rfl)
  · cases hg; exact inv_V (ci := 10) B (con_fr (con_X9_report hE)) rfl (fun as σ K KX h => fr_rcv h) (cw_mk hE hW tw_1052 rfl tw_8 ⟨by decide, by decide⟩ rfl) rfl (wd hE hW tw_1049 rfl) (wd hE hW tw_1050 rfl) (wd hE hW tw_1051 rfl) (Nat.le_of_ble_eq_true rfl) (Nat.le_of_ble_eq_true rfl)
  · cases hg; exact inv_SX B (con_L_counts hE hN) (cw_mk hE hW tw_485 rfl tw_0 ⟨by decide, by decide⟩ rfl) (wd hE hW tw_483 rfl) (wd hE hW tw_484 rfl) (Nat.le_of_ble_eq_true rfl) (Nat.le_of_ble_eq_true rfl)
  · cases hg; exact inv_V (ci := 10) B (con_fr (con_X9_counts hE)) rfl (fun as σ K KX h => fr_rcv h) (cw_mk hE hW tw_1060 rfl tw_8 ⟨by decide, by decide⟩ rfl) rfl (wd hE hW tw_1057 rfl) (wd hE hW tw_1058 rfl) (wd hE hW tw_1059 rfl) (Nat.le_of_ble_eq_true rfl) (Nat.le_of_ble_eq_true rfl)
  · cases hg; exact inv_SX B (con_L_field hE hN) (cw_mk hE hW tw_496 rfl tw_0 ⟨by decide, by decide⟩ rfl) (wd hE hW tw_494 rfl) (wd hE hW tw_495 rfl) (Nat.le_of_ble_eq_true rfl) (Nat.le_of_ble_eq_true rfl)
  · cases hg; exact inv_V (ci := 10) B (con_fr (con_X9_field hE)) rfl (fun as σ K KX h => fr_rcv h) (cw_mk hE hW tw_1068 rfl tw_8 ⟨by decide, by decide⟩ rfl) rfl (wd hE hW tw_1065 rfl) (wd hE hW tw_1066 rfl) (wd hE hW tw_1067 rfl) (Nat.le_of_ble_eq_true rfl) (Nat.le_of_ble_eq_true rfl)
  · cases hg; exact inv_SX B (con_L_rules hE hN) (cw_mk hE hW tw_513 rfl tw_0 ⟨by decide, by decide⟩ rfl) (wd hE hW tw_511 rfl) (wd hE hW tw_512 rfl) (Nat.le_of_ble_eq_true rfl) (Nat.le_of_ble_eq_true rfl)
  · cases hg; exact inv_V (ci := 10) B (con_fr (con_X9_rules hE)) rfl (fun as σ K KX h => fr_rcv h) (cw_mk hE hW tw_1085 rfl tw_8 ⟨by decide, by decide⟩ rfl) rfl (wd hE hW tw_1082 rfl) (wd hE hW tw_1083 rfl) (wd hE hW tw_1084 rfl) (Nat.le_of_ble_eq_true rfl) (Nat.le_of_ble_eq_true rfl)
  · cases hg; exact inv_V (ci := 9) B (con_fr (con_X8_fault hE)) rfl (fun as σ K KX h => fr_rcv h) (cw_mk hE hW tw_189 rfl tw_1 ⟨by decide, by decide⟩ rfl) rfl (wd hE hW tw_186 rfl) (wd hE hW tw_187 rfl) (wd hE hW tw_188 rfl) (Nat.le_of_ble_eq_true rfl) (Nat.le_of_ble_eq_true rfl)
  · cases hg; exact inv_V (ci := 10) B (con_fr (con_X9_fault hE)) rfl (fun as σ K KX h => fr_rcv h) (cw_mk hE hW tw_1126 rfl tw_8 ⟨by decide, by decide⟩ rfl) rfl (wd hE hW tw_1123 rfl) (wd hE hW tw_1124 rfl) (wd hE hW tw_1125 rfl) (Nat.le_of_ble_eq_true rfl) (Nat.le_of_ble_eq_true rfl)
  · cases hg; exact inv_SX B (con_L_gale hE hN) (cw_mk hE hW tw_632 rfl tw_0 ⟨by decide, by decide⟩ rfl) (wd hE hW tw_630 rfl) (wd hE hW tw_631 rfl) (Nat.le_of_ble_eq_true rfl) (Nat.le_of_ble_eq_true rfl)
  · cases hg; exact inv_V (ci := 10) B (con_fr (con_X9_gale hE)) rfl (fun as σ K KX h => fr_rcv h) (cw_mk hE hW tw_1130 rfl tw_8 ⟨by decide, by decide⟩ rfl) rfl (wd hE hW tw_1127 rfl) (wd hE hW tw_1128 rfl) (wd hE hW tw_1129 rfl) (Nat.le_of_ble_eq_true rfl) (Nat.le_of_ble_eq_true rfl)
  · cases hg; exact inv_SX B (con_L_boat hE hN) (cw_mk hE hW tw_667 rfl tw_0 ⟨by decide, by decide⟩ rfl) (wd hE hW tw_665 rfl) (wd hE hW tw_666 rfl) (Nat.le_of_ble_eq_true rfl) (Nat.le_of_ble_eq_true rfl)
  · cases hg; exact inv_V (ci := 10) B (con_fr (con_X9_boat hE)) rfl (fun as σ K KX h => fr_rcv h) (cw_mk hE hW tw_1134 rfl tw_8 ⟨by decide, by decide⟩ rfl) rfl (wd hE hW tw_1131 rfl) (wd hE hW tw_1132 rfl) (wd hE hW tw_1133 rfl) (Nat.le_of_ble_eq_true rfl) (Nat.le_of_ble_eq_true rfl)
  · cases hg; exact inv_SX B (con_L_trip hE hN) (cw_mk hE hW tw_712 rfl tw_0 ⟨by decide, by decide⟩ rfl) (wd hE hW tw_710 rfl) (wd hE hW tw_711 rfl) (Nat.le_of_ble_eq_true rfl) (Nat.le_of_ble_eq_true rfl)
  · cases hg; exact inv_V (ci := 10) B (con_fr (con_X9_trip hE)) rfl (fun as σ K KX h => fr_rcv h) (cw_mk hE hW tw_1138 rfl tw_8 ⟨by decide, by decide⟩ rfl) rfl (wd hE hW tw_1135 rfl) (wd hE hW tw_1136 rfl) (wd hE hW tw_1137 rfl) (Nat.le_of_ble_eq_true rfl) (Nat.le_of_ble_eq_true rfl)
  · cases hg; exact inv_SX B (con_L_hours hE hN) (cw_mk hE hW tw_729 rfl tw_0 ⟨by decide, by decide⟩ rfl) (wd hE hW tw_727 rfl) (wd hE hW tw_728 rfl) (Nat.le_of_ble_eq_true rfl) (Nat.le_of_ble_eq_true rfl)
  · cases hg; exact inv_V (ci := 10) B (con_fr (con_X9_hours hE)) rfl (fun as σ K KX h => fr_rcv h) (cw_mk hE hW tw_1146 rfl tw_8 ⟨by decide, by decide⟩ rfl) rfl (wd hE hW tw_1143 rfl) (wd hE hW tw_1144 rfl) (wd hE hW tw_1145 rfl) (Nat.le_of_ble_eq_true rfl) (Nat.le_of_ble_eq_true rfl)
  · cases hg; exact inv_SX B (con_L_flies hE hN) (cw_mk hE hW tw_854 rfl tw_0 ⟨by decide, by decide⟩ rfl) (wd hE hW tw_852 rfl) (wd hE hW tw_853 rfl) (Nat.le_of_ble_eq_true rfl) (Nat.le_of_ble_eq_true rfl)
  · cases hg; exact inv_V (ci := 10) B (con_fr (con_X9_flies hE)) rfl (fun as σ K KX h => fr_rcv h) (cw_mk hE hW tw_1174 rfl tw_8 ⟨by decide, by decide⟩ rfl) rfl (wd hE hW tw_1171 rfl) (wd hE hW tw_1172 rfl) (wd hE hW tw_1173 rfl) (Nat.le_of_ble_eq_true rfl) (Nat.le_of_ble_eq_true rfl)
  · cases hg; exact inv_SX B (con_L_warning hE hN) (cw_mk hE hW tw_861 rfl tw_0 ⟨by decide, by decide⟩ rfl) (wd hE hW tw_859 rfl) (wd hE hW tw_860 rfl) (Nat.le_of_ble_eq_true rfl) (Nat.le_of_ble_eq_true rfl)
  · cases hg; exact inv_V (ci := 10) B (con_fr (con_X9_warning hE)) rfl (fun as σ K KX h => fr_rcv h) (cw_mk hE hW tw_1178 rfl tw_8 ⟨by decide, by decide⟩ rfl) rfl (wd hE hW tw_1175 rfl) (wd hE hW tw_1176 rfl) (wd hE hW tw_1177 rfl) (Nat.le_of_ble_eq_true rfl) (Nat.le_of_ble_eq_true rfl)
  · cases hg; exact inv_SX B (con_L_look hE hN) (cw_mk hE hW tw_886 rfl tw_0 ⟨by decide, by decide⟩ rfl) (wd hE hW tw_884 rfl) (wd hE hW tw_885 rfl) (Nat.le_of_ble_eq_true rfl) (Nat.le_of_ble_eq_true rfl)
  · cases hg; exact inv_V (ci := 10) B (con_fr (con_X9_look hE)) rfl (fun as σ K KX h => fr_rcv h) (cw_mk hE hW tw_1182 rfl tw_8 ⟨by decide, by decide⟩ rfl) rfl (wd hE hW tw_1179 rfl) (wd hE hW tw_1180 rfl) (wd hE hW tw_1181 rfl) (Nat.le_of_ble_eq_true rfl) (Nat.le_of_ble_eq_true rfl)
  · cases hg; exact inv_SX B (con_L_score hE hN) (cw_mk hE hW tw_894 rfl tw_0 ⟨by decide, by decide⟩ rfl) (wd hE hW tw_892 rfl) (wd hE hW tw_893 rfl) (Nat.le_of_ble_eq_true rfl) (Nat.le_of_ble_eq_true rfl)
  · cases hg; exact inv_V (ci := 10) B (con_fr (con_X9_score hE)) rfl (fun as σ K KX h => fr_rcv h) (cw_mk hE hW tw_1186 rfl tw_8 ⟨by decide, by decide⟩ rfl) rfl (wd hE hW tw_1183 rfl) (wd hE hW tw_1184 rfl) (wd hE hW tw_1185 rfl) (Nat.le_of_ble_eq_true rfl) (Nat.le_of_ble_eq_true rfl)
  · cases hg; exact inv_V (ci := 9) B (con_fr (con_X8_count hE)) rfl (fun as σ K KX h => fr_rcv h) (cw_mk hE hW tw_193 rfl tw_1 ⟨by decide, by decide⟩ rfl) rfl (wd hE hW tw_190 rfl) (wd hE hW tw_191 rfl) (wd hE hW tw_192 rfl) (Nat.le_of_ble_eq_true rfl) (Nat.le_of_ble_eq_true rfl)
  · cases hg; exact inv_V (ci := 10) B (con_fr (con_X9_count hE)) rfl (fun as σ K KX h => fr_rcv h) (cw_mk hE hW tw_1194 rfl tw_8 ⟨by decide, by decide⟩ rfl) rfl (wd hE hW tw_1191 rfl) (wd hE hW tw_1192 rfl) (wd hE hW tw_1193 rfl) (Nat.le_of_ble_eq_true rfl) (Nat.le_of_ble_eq_true rfl)
  · cases hg
theorem whole_start {p : Program} {e : Env} {s : State} {m : MethodId} {below : List Frame} {meth : Method} {c : Code} (l : Launch) (hl : l.stackTraces = false) {b L : Nat} {xs : Nat → Int32} (hL : L ≤ 3072) (C0 : lw_At p s m meth c b L xs) : W p l e room_1 s m #[Value.ref b] below meth c s.heap [] 0 0 (lw_Z below #[Value.ref b] s) (entryFrame m ([Value.ref b] : List Value).toArray 7) := by
  obtain ⟨hx, hb, hr, hml, hown, hts, hX, hbl, hlk, hgv⟩ := C0
  obtain ⟨D, cy, P, hE⟩ := E0_of (l := l) hts hgv hl
  have hN : NCok s := NC_of hgv
  have hA0 : ∀ q, (fun q : Nat => s.heap.size ≤ q) q → s.heap.size ≤ q := fun q h => h
  have B : Bd p s m meth c s D cy P.2.1 (fun q => s.heap.size ≤ q) 7 RL cL_law :=
    ⟨hx, hb, hml, hown, hlk, hE.2.1, fun q h => h, fun q h => h, Nat.le_refl _, State.WarmedH.refl s, fun q _ => rfl, hE.2.2.2.2.1.1, hE.2.2.2.2.1.2, hE.2.2.2.2.2.1⟩
  have hcl := (clok_L hE meth.name).2.2.2.2 s #[Value.ref b] meth (fun q => s.heap.size ≤ q) (State.WarmedH.refl s) (fun q _ => rfl) (Nat.le_refl _) (fun q h => h) rfl
  have hJ := wpS_sound (l := l) (e := e) (R := room_1) (below := below) (args := #[Value.ref b]) (K := fun v _ => v = some (.int 1)) (KX := fun _ _ => False) (thr := fun _ => none) (exc := fun _ => none) (ret := some .boolean) B rfl ⟨fun pc E h => (by cases h), fun E h q => (by cases q), fun h => (by obtain ⟨E, h⟩ := h; cases h)⟩ hcl hr (law_inv hE hN B)
  have hfin := law_pure (scr := b) (L := L) (xs := xs) hJ
    (fun pc ls st σ rc rs i hd hi h H locs cells slots lsA h1 h2 h3 h4 h5 h6 => va_sld hx hb hX hbl (by show ¬ s.heap.size ≤ b; omega) h3 (nI_in hi (by omega)) hd (by rw [nI_clamp (by omega)]; exact h H locs cells slots lsA h1 h2 h3 h4 h5 h6))
    (fun pc ls st σ rc rs hd h H locs cells slots lsA h1 h2 h3 h4 h5 h6 => va_slen hx hb hX hbl (by show ¬ s.heap.size ≤ b; omega) h3 hd (h H locs cells slots lsA h1 h2 h3 h4 h5 h6)) hL (fun σ => rfl)
  rw [lg_entry_eq]
  intro T hT X
  obtain ⟨t, a1, oc, b1, b2, hq⟩ := hfin s.heap [] 0 0 _ ⟨[], fun _ => .inr (0, []), fun a e => ⟨fun h => (by cases h), fun h => (by cases h.1)⟩, fun k q h => (by cases h), ⟨fun i j p q h => (by cases h), fun k q h => (by cases h)⟩⟩ (fun a h => absurd rfl h) va_S.rf (Nat.le_of_ble_eq_true rfl) (Nat.le_of_ble_eq_true rfl) (lh_ini (as := [Value.ref b]) (nL := 7) (fun v hv => (by rw [List.mem_singleton.mp hv]; rfl)) (Nat.le_of_ble_eq_true rfl)) T hT X
  rcases hq with ⟨⟨⟨v, σ, rfl, hv, -, -⟩, -⟩, L9, hF, hL9⟩ | ⟨q, -, E, ce, L9, hx9, -⟩
  · cases hv
    exact ⟨t, a1, _, b1, b2, rfl, forget_new hF hL9⟩
  · exact absurd hx9 no_xcf
