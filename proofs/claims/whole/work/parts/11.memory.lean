set_option maxHeartbeats 4000000 in
set_option maxRecDepth 100000 in
theorem c_X0_wordAt (l : Launch) (dC : Nat → ClassId) (dI : Nat → Nat → Nat) (h : Nat → Nat) (k : Nat → ClassId) (g : Nat → Nat) (sz : Nat) (σ : StC) (a1 : Int32) : Met l yX0_wordAt wsX0_wordAt ({ frames := 1, cells := 0, slots := 0, locals := 21 }) (PcC (dC, dI) h k g [.ref (h 1), .int a1] sz σ) (va_Qi (fun r u => (r, u) = (f_X0_wordAt σ a1, σ)) (BC (dC, dI) h k (AX 5 h sz)) (AX 5 h sz)) 0 0 (AX 5 h sz) := by
  refine Met.ofW (cc := cX0_wordAt) (maxL := 2) (ret := (some .int)) (by decide) rfl ?_
  intro p e s m args below meth c s₁ B hml hv
  obtain ⟨rfl, rfl, hP, hct, hD⟩ := hv
  have hx := B.exec
  have hb := B.bytes
  have hr := B.returns
  have hts := atoms_spec (ws := wsX0_wordAt) B.pre
  have hown : s.vm.findClass RX0 = some m.cls := findClass_of_methodNamed B.named
  have hlocks := B.notSynchronized
  have hK := hct.1
  have hN := hct.2.1
  have hS : va_S (AX 5 h s.heap.size) s.heap s.heap [] := va_S.rf
  have hl := lv_entry ([.ref (h 1), .int a1]) (n := 2) (Nat.le_of_ble_eq_true rfl)
  rw [lg_entry_eq]
  generalize (lg_sl ([.ref (h 1), .int a1]) ++ List.replicate (2 - (lg_sl ([.ref (h 1), .int a1])).length) Slot.unset).toArray = ls at hl ⊢
  have hl : lv_has ls 2 [(0, .ref (h 1)), (1, .int a1)] := hl
  refine lv_iload_n hx hb dX0_wordAt_0 rfl (lv_at hl 1 rfl) ?_
  refine callC_ip (va_runS (As := [.int a1]) (rest := []) ⟨hx, hb, hml, hown, hts⟩ (c_X0_isMultiplier l dC dI h k g _ σ a1) (va_cwS 1 hts gX0_wordAt_X0_isMultiplier rfl rfl rfl (by decide +kernel) ⟨Nat.le_of_ble_eq_true rfl, Nat.le_of_ble_eq_true rfl⟩) (preC_S hct hP hD hS) rfl rfl hl.1 rfl (lv_room (Nat.le_of_ble_eq_true rfl)) dX0_wordAt_1 ⟨Nat.le_of_ble_eq_true rfl, Nat.le_of_ble_eq_true rfl⟩) hS (fun x1 H locs ex1 hP hD hS => ?_)
  refine lv_if_eq (tgt := 19) hx hb dX0_wordAt_4 (by decide) (fun c2 => ?_) (fun c2 => ?_)
  · refine lv_aload_n hx hb dX0_wordAt_19 rfl (lv_at hl 0 rfl) ?_
    refine va_get (D := (dC, dI)) (ci := 0) (v := .ref (h 3)) (C := RX0) (T := TX0) (N := 2) hx hb hts (fun _ h9 => List.mem_cons_of_mem _ (List.mem_append_left _ (List.mem_append_right _ h9))) hown hK hP 1 rfl rfl 0 (by decide) (hts (.fieldLink RX0 9 "LowPowerCpu$Memory" "cells" "[J") (by decide +kernel)) (fun _ h9 => h9) rfl dX0_wordAt_20 ?_
    refine lv_iload_n hx hb dX0_wordAt_23 rfl (lv_at hl 1 rfl) ?_
    refine callC_ip (va_runS (As := [.int a1]) (rest := [.ref (h 3)]) ⟨hx, hb, hml, hown, hts⟩ (c_X0_cellOf l dC dI h k g _ σ a1) (va_cwS 1 hts gX0_wordAt_X0_cellOf rfl rfl rfl (by decide +kernel) ⟨Nat.le_of_ble_eq_true rfl, Nat.le_of_ble_eq_true rfl⟩) (preC_S hct hP hD hS) rfl rfl hl.1 rfl (lv_room (Nat.le_of_ble_eq_true rfl)) dX0_wordAt_24 ⟨Nat.le_of_ble_eq_true rfl, Nat.le_of_ble_eq_true rfl⟩) hS (fun x3 H locs ex3 hP hD hS => ?_)
    refine va_lald hx hb hK hP 3 1 rfl rfl (by rw [ex3]; exact cellOf_in _) dX0_wordAt_27 ?_
    refine lv_iload_n hx hb dX0_wordAt_28 rfl (lv_at hl 1 rfl) ?_
    refine lv_bipush (v := 6) hx hb dX0_wordAt_29 (by decide) ?_
    refine lv_iand hx hb dX0_wordAt_31 ?_
    refine lv_bipush (v := 8) hx hb dX0_wordAt_32 (by decide) ?_
    refine lv_imul hx hb dX0_wordAt_34 ?_
    refine lv_lushr hx hb dX0_wordAt_35 rfl ?_
    refine lv_l2i hx hb dX0_wordAt_36 rfl ?_
    refine lv_ldc (v := 65535) hx hb hown (hts (.constant RX0 37 65535) (by decide +kernel)) dX0_wordAt_37 ?_
    refine lv_iand hx hb dX0_wordAt_39 ?_
    exact retC_ip hx hb hr hlocks (by subst ex3; subst ex1; exact if_pos c2) hP hD hS dX0_wordAt_40
  · refine lv_aload_n hx hb dX0_wordAt_7 rfl (lv_at hl 0 rfl) ?_
    refine va_get (D := (dC, dI)) (ci := 0) (v := .ref (h 4)) (C := RX0) (T := TX0) (N := 2) hx hb hts (fun _ h9 => List.mem_cons_of_mem _ (List.mem_append_left _ (List.mem_append_right _ h9))) hown hK hP 1 rfl rfl 1 (by decide) (hts (.fieldLink RX0 18 "LowPowerCpu$Memory" "multiplier" "LLowPowerCpu$Multiplier;") (by decide +kernel)) (fun _ h9 => h9) rfl dX0_wordAt_8 ?_
    refine lv_iload_n hx hb dX0_wordAt_11 rfl (lv_at hl 1 rfl) ?_
    refine callC_ip (va_runS (As := [.int a1]) (rest := [.ref (h 4)]) ⟨hx, hb, hml, hown, hts⟩ (c_X0_slotOf l dC dI h k g _ σ a1) (va_cwS 1 hts gX0_wordAt_X0_slotOf rfl rfl rfl (by decide +kernel) ⟨Nat.le_of_ble_eq_true rfl, Nat.le_of_ble_eq_true rfl⟩) (preC_S hct hP hD hS) rfl rfl hl.1 rfl (lv_room (Nat.le_of_ble_eq_true rfl)) dX0_wordAt_12 ⟨Nat.le_of_ble_eq_true rfl, Nat.le_of_ble_eq_true rfl⟩) hS (fun x4 H locs ex4 hP hD hS => ?_)
    refine callC_ip (va_runVN (As := [.int x4]) (rest := []) ⟨hx, hb, hml, hown, hts⟩ (c_X1_wordAtSlot l dC dI h k g _ σ x4) ⟨va_cnB 1 hts gX0_wordAt_X1_wordAtSlot_n31 rfl rfl rfl (hN (.methodLinkNest RX0 31 yX1_wordAtSlot RX2) (List.mem_of_getElem? (i := 4) rfl)) (hts (.initialized RX1) (by decide +kernel)) (by decide +kernel) ⟨Nat.le_of_ble_eq_true rfl, Nat.le_of_ble_eq_true rfl⟩, hts (.instanceMethod yX1_wordAtSlot) (by decide +kernel), hts (.selects RX1 yX1_wordAtSlot yX1_wordAtSlot) (by decide +kernel)⟩ (preC_V (ci := 1) (q0 := 4) hct hP hD hS rfl rfl) rfl rfl hl.1 rfl (lv_room (Nat.le_of_ble_eq_true rfl)) dX0_wordAt_15 ⟨Nat.le_of_ble_eq_true rfl, Nat.le_of_ble_eq_true rfl⟩) hS (fun x5 H locs ex5 hP hD hS => ?_)
    exact retC_ip hx hb hr hlocks (by subst ex5; subst ex4; subst ex1; exact if_neg c2) hP hD hS dX0_wordAt_18

set_option maxHeartbeats 4000000 in
set_option maxRecDepth 100000 in
theorem c_X0_byteAt (l : Launch) (dC : Nat → ClassId) (dI : Nat → Nat → Nat) (h : Nat → Nat) (k : Nat → ClassId) (g : Nat → Nat) (sz : Nat) (σ : StC) (a1 : Int32) : Met l yX0_byteAt wsX0_byteAt ({ frames := 2, cells := 0, slots := 0, locals := 42 }) (PcC (dC, dI) h k g [.ref (h 1), .int a1] sz σ) (va_Qi (fun r u => (r, u) = (f_X0_byteAt σ a1, σ)) (BC (dC, dI) h k (AX 5 h sz)) (AX 5 h sz)) 0 0 (AX 5 h sz) := by
  refine Met.ofW (cc := cX0_byteAt) (maxL := 3) (ret := (some .int)) (by decide) rfl ?_
  intro p e s m args below meth c s₁ B hml hv
  obtain ⟨rfl, rfl, hP, hct, hD⟩ := hv
  have hx := B.exec
  have hb := B.bytes
  have hr := B.returns
  have hts := atoms_spec (ws := wsX0_byteAt) B.pre
  have hown : s.vm.findClass RX0 = some m.cls := findClass_of_methodNamed B.named
  have hlocks := B.notSynchronized
  have hK := hct.1
  have hN := hct.2.1
  have hS : va_S (AX 5 h s.heap.size) s.heap s.heap [] := va_S.rf
  have hl := lv_entry ([.ref (h 1), .int a1]) (n := 3) (Nat.le_of_ble_eq_true rfl)
  rw [lg_entry_eq]
  generalize (lg_sl ([.ref (h 1), .int a1]) ++ List.replicate (3 - (lg_sl ([.ref (h 1), .int a1])).length) Slot.unset).toArray = ls at hl ⊢
  have hl : lv_has ls 3 [(0, .ref (h 1)), (1, .int a1)] := hl
  refine lv_aload_n hx hb dX0_byteAt_0 rfl (lv_at hl 0 rfl) ?_
  refine lv_iload_n hx hb dX0_byteAt_1 rfl (lv_at hl 1 rfl) ?_
  refine callC_ip (va_runV (As := [.int a1]) (rest := []) ⟨hx, hb, hml, hown, hts⟩ (c_X0_wordAt l dC dI h k g _ σ a1) (cwV 1 hts gX0_byteAt_X0_wordAt rfl rfl rfl (by decide +kernel) ⟨Nat.le_of_ble_eq_true rfl, Nat.le_of_ble_eq_true rfl⟩) (preC_V (ci := 0) (q0 := 1) hct hP hD hS rfl rfl) rfl rfl hl.1 rfl (lv_room (Nat.le_of_ble_eq_true rfl)) dX0_byteAt_2 ⟨Nat.le_of_ble_eq_true rfl, Nat.le_of_ble_eq_true rfl⟩) hS (fun x1 H locs ex1 hP hD hS => ?_)
  refine lv_istore_n (lv' := [(2, .int x1), (0, .ref (h 1)), (1, .int a1)]) hx hb dX0_byteAt_5 rfl hl (by decide) rfl (fun ls hl => ?_)
  refine lv_iload_n hx hb dX0_byteAt_6 rfl (lv_at hl 2 rfl) ?_
  refine lv_iconst (v := 1) hx hb dX0_byteAt_7 (by decide) ?_
  refine lv_iand hx hb dX0_byteAt_8 ?_
  refine lv_if_ne (tgt := 20) hx hb dX0_byteAt_9 (by decide) (fun c2 => ?_) (fun c2 => ?_)
  · refine lv_iload_n hx hb dX0_byteAt_20 rfl (lv_at hl 0 rfl) ?_
    refine lv_bipush (v := 8) hx hb dX0_byteAt_21 (by decide) ?_
    refine lv_ishr hx hb dX0_byteAt_23 ?_
    exact retC_ip hx hb hr hlocks (by subst ex1; exact if_neg c2) hP hD hS dX0_byteAt_24
  · refine lv_iload_n hx hb dX0_byteAt_12 rfl (lv_at hl 0 rfl) ?_
    refine lv_sipush (v := 255) hx hb dX0_byteAt_13 (by decide) ?_
    refine lv_iand hx hb dX0_byteAt_16 ?_
    refine lv_goto (tgt := 24) hx hb dX0_byteAt_17 (by decide) ?_
    exact retC_ip hx hb hr hlocks (by subst ex1; exact if_pos c2) hP hD hS dX0_byteAt_24

set_option maxHeartbeats 4000000 in
set_option maxRecDepth 100000 in
theorem c_X0_placeWord (l : Launch) (dC : Nat → ClassId) (dI : Nat → Nat → Nat) (h : Nat → Nat) (k : Nat → ClassId) (g : Nat → Nat) (sz : Nat) (σ : StC) (a1 : Int32) (a2 : Int32) : Met l yX0_placeWord wsX0_placeWord ({ frames := 1, cells := 0, slots := 0, locals := 20 }) (PcC (dC, dI) h k g [.ref (h 1), .int a1, .int a2] sz σ) (va_Qv (fun u => u = f_X0_placeWord σ a1 a2) (BC (dC, dI) h k (AX 5 h sz)) (AX 5 h sz)) 0 0 (AX 5 h sz) := by
  refine Met.ofW (cc := cX0_placeWord) (maxL := 5) (ret := none) (by decide) rfl ?_
  intro p e s m args below meth c s₁ B hml hv
  obtain ⟨rfl, rfl, hP, hct, hD⟩ := hv
  have hx := B.exec
  have hb := B.bytes
  have hr := B.returns
  have hts := atoms_spec (ws := wsX0_placeWord) B.pre
  have hown : s.vm.findClass RX0 = some m.cls := findClass_of_methodNamed B.named
  have hlocks := B.notSynchronized
  have hK := hct.1
  have hN := hct.2.1
  have hS : va_S (AX 5 h s.heap.size) s.heap s.heap [] := va_S.rf
  have hl := lv_entry ([.ref (h 1), .int a1, .int a2]) (n := 5) (Nat.le_of_ble_eq_true rfl)
  rw [lg_entry_eq]
  generalize (lg_sl ([.ref (h 1), .int a1, .int a2]) ++ List.replicate (5 - (lg_sl ([.ref (h 1), .int a1, .int a2])).length) Slot.unset).toArray = ls at hl ⊢
  have hl : lv_has ls 5 [(0, .ref (h 1)), (1, .int a1), (2, .int a2)] := hl
  refine lv_iload_n hx hb dX0_placeWord_0 rfl (lv_at hl 1 rfl) ?_
  refine lv_bipush (v := 6) hx hb dX0_placeWord_1 (by decide) ?_
  refine lv_iand hx hb dX0_placeWord_3 ?_
  refine lv_bipush (v := 8) hx hb dX0_placeWord_4 (by decide) ?_
  refine lv_imul hx hb dX0_placeWord_6 ?_
  refine lv_topi (fun x1 ex1 => ?_)
  refine lv_istore_n (lv' := [(3, .int x1), (0, .ref (h 1)), (1, .int a1), (2, .int a2)]) hx hb dX0_placeWord_7 rfl hl (by decide) rfl (fun ls hl => ?_)
  refine lv_iload_n hx hb dX0_placeWord_8 rfl (lv_at hl 2 rfl) ?_
  refine callC_ip (va_runS (As := [.int a1]) (rest := []) ⟨hx, hb, hml, hown, hts⟩ (c_X0_cellOf l dC dI h k g _ σ a1) (va_cwS 1 hts gX0_placeWord_X0_cellOf rfl rfl rfl (by decide +kernel) ⟨Nat.le_of_ble_eq_true rfl, Nat.le_of_ble_eq_true rfl⟩) (preC_S hct hP hD hS) rfl rfl hl.1 rfl (lv_room (Nat.le_of_ble_eq_true rfl)) dX0_placeWord_9 ⟨Nat.le_of_ble_eq_true rfl, Nat.le_of_ble_eq_true rfl⟩) hS (fun x2 H locs ex2 hP hD hS => ?_)
  refine lv_istore (lv' := [(4, .int x2), (3, .int x1), (0, .ref (h 1)), (1, .int a1), (2, .int a2)]) hx hb dX0_placeWord_12 hl (by decide) rfl (fun ls hl => ?_)
  refine lv_aload_n hx hb dX0_placeWord_14 rfl (lv_at hl 2 rfl) ?_
  refine va_get (D := (dC, dI)) (ci := 0) (v := .ref (h 3)) (C := RX0) (T := TX0) (N := 2) hx hb hts (fun _ h9 => List.mem_cons_of_mem _ (List.mem_append_right _ h9)) hown hK hP 1 rfl rfl 0 (by decide) (hts (.fieldLink RX0 9 "LowPowerCpu$Memory" "cells" "[J") (by decide +kernel)) (fun _ h9 => h9) rfl dX0_placeWord_15 ?_
  refine lv_iload hx hb dX0_placeWord_18 (lv_at hl 0 rfl) ?_
  refine lv_aload_n hx hb dX0_placeWord_20 rfl (lv_at hl 2 rfl) ?_
  refine va_get (D := (dC, dI)) (ci := 0) (v := .ref (h 3)) (C := RX0) (T := TX0) (N := 2) hx hb hts (fun _ h9 => List.mem_cons_of_mem _ (List.mem_append_right _ h9)) hown hK hP 1 rfl rfl 0 (by decide) (hts (.fieldLink RX0 9 "LowPowerCpu$Memory" "cells" "[J") (by decide +kernel)) (fun _ h9 => h9) rfl dX0_placeWord_21 ?_
  refine lv_iload hx hb dX0_placeWord_24 (lv_at hl 0 rfl) ?_
  refine va_lald hx hb hK hP 3 1 rfl rfl (by rw [ex2]; exact cellOf_in _) dX0_placeWord_26 ?_
  refine lv_ldc2 (v := 65535) hx hb hown (hts (.constantLong RX0 55 65535) (by decide +kernel)) dX0_placeWord_27 ?_
  refine lv_iload_n hx hb dX0_placeWord_30 rfl (lv_at hl 1 rfl) ?_
  refine lv_lshl hx hb dX0_placeWord_31 rfl ?_
  refine lv_ldc2 (v := (-1)) hx hb hown (hts (.constantLong RX0 57 (-1)) (by decide +kernel)) dX0_placeWord_32 ?_
  refine lv_lxor hx hb dX0_placeWord_35 ?_
  refine lv_land hx hb dX0_placeWord_36 ?_
  refine lv_iload_n hx hb dX0_placeWord_37 rfl (lv_at hl 4 rfl) ?_
  refine lv_i2l hx hb dX0_placeWord_38 rfl ?_
  refine lv_iload_n hx hb dX0_placeWord_39 rfl (lv_at hl 1 rfl) ?_
  refine lv_lshl hx hb dX0_placeWord_40 rfl ?_
  refine lv_lor hx hb dX0_placeWord_41 ?_
  refine lv_topl (fun x3 ex3 => ?_)
  refine va_last hx hb hK hP hD hS 3 1 rfl rfl (by rw [ex2]; exact cellOf_in _) dX0_placeWord_42 (fun H locs hP hD hS => ?_)
  have hP : va_P (dC, dI) vwCl (wsC h k (σ.1, σ.2.1, σ.2.2.1, vp_updL σ.2.2.2.1 x2.toNatClampNeg x3, σ.2.2.2.2.1, σ.2.2.2.2.2.1, σ.2.2.2.2.2.2.1, σ.2.2.2.2.2.2.2.1, σ.2.2.2.2.2.2.2.2.1, σ.2.2.2.2.2.2.2.2.2)) H := hP
  have hD : va_D (AX 5 h s.heap.size) (wsC h k (σ.1, σ.2.1, σ.2.2.1, vp_updL σ.2.2.2.1 x2.toNatClampNeg x3, σ.2.2.2.2.1, σ.2.2.2.2.2.1, σ.2.2.2.2.2.2.1, σ.2.2.2.2.2.2.2.1, σ.2.2.2.2.2.2.2.2.1, σ.2.2.2.2.2.2.2.2.2)) := hD
  exact retC_v hx hb hr hlocks (by subst ex3; subst ex2; subst ex1; exact rfl) hP hD hS dX0_placeWord_43

set_option maxHeartbeats 4000000 in
set_option maxRecDepth 100000 in
theorem c_X0_writeWord (l : Launch) (dC : Nat → ClassId) (dI : Nat → Nat → Nat) (h : Nat → Nat) (k : Nat → ClassId) (g : Nat → Nat) (sz : Nat) (σ : StC) (a1 : Int32) (a2 : Int32) : Met l yX0_writeWord wsX0_writeWord ({ frames := 2, cells := 0, slots := 0, locals := 50 }) (PcC (dC, dI) h k g [.ref (h 1), .int a1, .int a2] sz σ) (va_Qv (fun u => u = f_X0_writeWord σ a1 a2) (BC (dC, dI) h k (AX 5 h sz)) (AX 5 h sz)) 0 0 (AX 5 h sz) := by
  refine Met.ofW (cc := cX0_writeWord) (maxL := 3) (ret := none) (by decide) rfl ?_
  intro p e s m args below meth c s₁ B hml hv
  obtain ⟨rfl, rfl, hP, hct, hD⟩ := hv
  have hx := B.exec
  have hb := B.bytes
  have hr := B.returns
  have hts := atoms_spec (ws := wsX0_writeWord) B.pre
  have hown : s.vm.findClass RX0 = some m.cls := findClass_of_methodNamed B.named
  have hlocks := B.notSynchronized
  have hK := hct.1
  have hN := hct.2.1
  have hS : va_S (AX 5 h s.heap.size) s.heap s.heap [] := va_S.rf
  have hl := lv_entry ([.ref (h 1), .int a1, .int a2]) (n := 3) (Nat.le_of_ble_eq_true rfl)
  rw [lg_entry_eq]
  generalize (lg_sl ([.ref (h 1), .int a1, .int a2]) ++ List.replicate (3 - (lg_sl ([.ref (h 1), .int a1, .int a2])).length) Slot.unset).toArray = ls at hl ⊢
  have hl : lv_has ls 3 [(0, .ref (h 1)), (1, .int a1), (2, .int a2)] := hl
  refine lv_iload_n hx hb dX0_writeWord_0 rfl (lv_at hl 1 rfl) ?_
  refine callC_ip (va_runS (As := [.int a1]) (rest := []) ⟨hx, hb, hml, hown, hts⟩ (c_X0_isMultiplier l dC dI h k g _ σ a1) (va_cwS 1 hts gX0_writeWord_X0_isMultiplier rfl rfl rfl (by decide +kernel) ⟨Nat.le_of_ble_eq_true rfl, Nat.le_of_ble_eq_true rfl⟩) (preC_S hct hP hD hS) rfl rfl hl.1 rfl (lv_room (Nat.le_of_ble_eq_true rfl)) dX0_writeWord_1 ⟨Nat.le_of_ble_eq_true rfl, Nat.le_of_ble_eq_true rfl⟩) hS (fun x1 H locs ex1 hP hD hS => ?_)
  refine lv_if_eq (tgt := 22) hx hb dX0_writeWord_4 (by decide) (fun c2 => ?_) (fun c2 => ?_)
  · refine lv_aload_n hx hb dX0_writeWord_22 rfl (lv_at hl 0 rfl) ?_
    refine lv_iload_n hx hb dX0_writeWord_23 rfl (lv_at hl 1 rfl) ?_
    refine lv_iload_n hx hb dX0_writeWord_24 rfl (lv_at hl 2 rfl) ?_
    refine callC_v (va_runV (As := [.int a1, .int a2]) (rest := []) ⟨hx, hb, hml, hown, hts⟩ (c_X0_placeWord l dC dI h k g _ σ a1 a2) (cwV 2 hts gX0_writeWord_X0_placeWord rfl rfl rfl (by decide +kernel) ⟨Nat.le_of_ble_eq_true rfl, Nat.le_of_ble_eq_true rfl⟩) (preC_V (ci := 0) (q0 := 1) hct hP hD hS rfl rfl) rfl rfl hl.1 rfl (lv_room (Nat.le_of_ble_eq_true rfl)) dX0_writeWord_25 ⟨Nat.le_of_ble_eq_true rfl, Nat.le_of_ble_eq_true rfl⟩) hS (fun σ3 H locs eσ3 hP hD hS => ?_)
    exact retC_v hx hb hr hlocks (by subst eσ3; subst ex1; exact if_pos c2) hP hD hS dX0_writeWord_28
  · refine lv_aload_n hx hb dX0_writeWord_7 rfl (lv_at hl 0 rfl) ?_
    refine va_get (D := (dC, dI)) (ci := 0) (v := .ref (h 4)) (C := RX0) (T := TX0) (N := 2) hx hb hts (fun _ h9 => List.mem_cons_of_mem _ (List.mem_append_left _ (List.mem_append_right _ h9))) hown hK hP 1 rfl rfl 1 (by decide) (hts (.fieldLink RX0 18 "LowPowerCpu$Memory" "multiplier" "LLowPowerCpu$Multiplier;") (by decide +kernel)) (fun _ h9 => h9) rfl dX0_writeWord_8 ?_
    refine lv_iload_n hx hb dX0_writeWord_11 rfl (lv_at hl 1 rfl) ?_
    refine callC_ip (va_runS (As := [.int a1]) (rest := [.ref (h 4)]) ⟨hx, hb, hml, hown, hts⟩ (c_X0_slotOf l dC dI h k g _ σ a1) (va_cwS 1 hts gX0_writeWord_X0_slotOf rfl rfl rfl (by decide +kernel) ⟨Nat.le_of_ble_eq_true rfl, Nat.le_of_ble_eq_true rfl⟩) (preC_S hct hP hD hS) rfl rfl hl.1 rfl (lv_room (Nat.le_of_ble_eq_true rfl)) dX0_writeWord_12 ⟨Nat.le_of_ble_eq_true rfl, Nat.le_of_ble_eq_true rfl⟩) hS (fun x4 H locs ex4 hP hD hS => ?_)
    refine lv_iload_n hx hb dX0_writeWord_15 rfl (lv_at hl 2 rfl) ?_
    refine callC_v (va_runVN (As := [.int x4, .int a2]) (rest := []) ⟨hx, hb, hml, hown, hts⟩ (c_X1_write l dC dI h k g _ σ x4 a2) ⟨va_cnB 2 hts gX0_writeWord_X1_write_n41 rfl rfl rfl (hN (.methodLinkNest RX0 41 yX1_write RX2) (List.mem_of_getElem? (i := 9) rfl)) (hts (.initialized RX1) (by decide +kernel)) (by decide +kernel) ⟨Nat.le_of_ble_eq_true rfl, Nat.le_of_ble_eq_true rfl⟩, hts (.instanceMethod yX1_write) (by decide +kernel), hts (.selects RX1 yX1_write yX1_write) (by decide +kernel)⟩ (preC_V (ci := 1) (q0 := 4) hct hP hD hS rfl rfl) rfl rfl hl.1 rfl (lv_room (Nat.le_of_ble_eq_true rfl)) dX0_writeWord_16 ⟨Nat.le_of_ble_eq_true rfl, Nat.le_of_ble_eq_true rfl⟩) hS (fun σ5 H locs eσ5 hP hD hS => ?_)
    refine lv_goto (tgt := 28) hx hb dX0_writeWord_19 (by decide) ?_
    exact retC_v hx hb hr hlocks (by subst eσ5; subst ex4; subst ex1; exact if_neg c2) hP hD hS dX0_writeWord_28

set_option maxHeartbeats 4000000 in
set_option maxRecDepth 100000 in
theorem c_X0_placeByte (l : Launch) (dC : Nat → ClassId) (dI : Nat → Nat → Nat) (h : Nat → Nat) (k : Nat → ClassId) (g : Nat → Nat) (sz : Nat) (σ : StC) (a1 : Int32) (a2 : Int32) : Met l yX0_placeByte wsX0_placeByte ({ frames := 2, cells := 0, slots := 0, locals := 44 }) (PcC (dC, dI) h k g [.ref (h 1), .int a1, .int a2] sz σ) (va_Qv (fun u => u = f_X0_placeByte σ a1 a2) (BC (dC, dI) h k (AX 5 h sz)) (AX 5 h sz)) 0 0 (AX 5 h sz) := by
  refine Met.ofW (cc := cX0_placeByte) (maxL := 5) (ret := none) (by decide) rfl ?_
  intro p e s m args below meth c s₁ B hml hv
  obtain ⟨rfl, rfl, hP, hct, hD⟩ := hv
  have hx := B.exec
  have hb := B.bytes
  have hr := B.returns
  have hts := atoms_spec (ws := wsX0_placeByte) B.pre
  have hown : s.vm.findClass RX0 = some m.cls := findClass_of_methodNamed B.named
  have hlocks := B.notSynchronized
  have hK := hct.1
  have hN := hct.2.1
  have hS : va_S (AX 5 h s.heap.size) s.heap s.heap [] := va_S.rf
  have hl := lv_entry ([.ref (h 1), .int a1, .int a2]) (n := 5) (Nat.le_of_ble_eq_true rfl)
  rw [lg_entry_eq]
  generalize (lg_sl ([.ref (h 1), .int a1, .int a2]) ++ List.replicate (5 - (lg_sl ([.ref (h 1), .int a1, .int a2])).length) Slot.unset).toArray = ls at hl ⊢
  have hl : lv_has ls 5 [(0, .ref (h 1)), (1, .int a1), (2, .int a2)] := hl
  refine lv_aload_n hx hb dX0_placeByte_0 rfl (lv_at hl 0 rfl) ?_
  refine lv_iload_n hx hb dX0_placeByte_1 rfl (lv_at hl 1 rfl) ?_
  refine callC_ip (va_runV (As := [.int a1]) (rest := []) ⟨hx, hb, hml, hown, hts⟩ (c_X0_wordAt l dC dI h k g _ σ a1) (cwV 1 hts gX0_placeByte_X0_wordAt rfl rfl rfl (by decide +kernel) ⟨Nat.le_of_ble_eq_true rfl, Nat.le_of_ble_eq_true rfl⟩) (preC_V (ci := 0) (q0 := 1) hct hP hD hS rfl rfl) rfl rfl hl.1 rfl (lv_room (Nat.le_of_ble_eq_true rfl)) dX0_placeByte_2 ⟨Nat.le_of_ble_eq_true rfl, Nat.le_of_ble_eq_true rfl⟩) hS (fun x1 H locs ex1 hP hD hS => ?_)
  refine lv_istore_n (lv' := [(3, .int x1), (0, .ref (h 1)), (1, .int a1), (2, .int a2)]) hx hb dX0_placeByte_5 rfl hl (by decide) rfl (fun ls hl => ?_)
  refine lv_iload_n hx hb dX0_placeByte_6 rfl (lv_at hl 2 rfl) ?_
  refine lv_iconst (v := 1) hx hb dX0_placeByte_7 (by decide) ?_
  refine lv_iand hx hb dX0_placeByte_8 ?_
  refine wj (α := Int32) (D := (dC, dI)) (cl := vwCl) (A := AX 5 h s.heap.size) (H0 := s.heap) (if (a1 &&& (1 : Int32)) = 0 then (x1 &&& (65280 : Int32)) ||| a2 else (x1 &&& (255 : Int32)) ||| (a2 <<< ((8 : Int32) &&& 31))) (fun v3 => wsC h k σ) (fun v3 => [(3, .int x1), (0, .ref (h 1)), (1, .int a1), (2, .int a2)]) 5 (fun v3 ls => F0 m 31 ls [.int v3]) ?_ ?_
  · intro v3 ls H locs ev3 hl hP hD hS
    try dsimp only at hl hP hD ⊢
    refine lv_istore (lv' := [(4, .int v3), (3, .int x1), (0, .ref (h 1)), (1, .int a1), (2, .int a2)]) hx hb dX0_placeByte_31 hl (by decide) rfl (fun ls hl => ?_)
    refine lv_iload_n hx hb dX0_placeByte_33 rfl (lv_at hl 3 rfl) ?_
    refine callC_ip (va_runS (As := [.int a1]) (rest := []) ⟨hx, hb, hml, hown, hts⟩ (c_X0_isMultiplier l dC dI h k g _ σ a1) (va_cwS 1 hts gX0_placeByte_X0_isMultiplier rfl rfl rfl (by decide +kernel) ⟨Nat.le_of_ble_eq_true rfl, Nat.le_of_ble_eq_true rfl⟩) (preC_S hct hP hD hS) rfl rfl hl.1 rfl (lv_room (Nat.le_of_ble_eq_true rfl)) dX0_placeByte_34 ⟨Nat.le_of_ble_eq_true rfl, Nat.le_of_ble_eq_true rfl⟩) hS (fun x4 H locs ex4 hP hD hS => ?_)
    refine lv_if_eq (tgt := 56) hx hb dX0_placeByte_37 (by decide) (fun c5 => ?_) (fun c5 => ?_)
    · refine lv_aload_n hx hb dX0_placeByte_56 rfl (lv_at hl 2 rfl) ?_
      refine lv_iload_n hx hb dX0_placeByte_57 rfl (lv_at hl 3 rfl) ?_
      refine lv_iload hx hb dX0_placeByte_58 (lv_at hl 0 rfl) ?_
      refine callC_v (va_runV (As := [.int a1, .int v3]) (rest := []) ⟨hx, hb, hml, hown, hts⟩ (c_X0_placeWord l dC dI h k g _ σ a1 v3) (cwV 2 hts gX0_placeByte_X0_placeWord rfl rfl rfl (by decide +kernel) ⟨Nat.le_of_ble_eq_true rfl, Nat.le_of_ble_eq_true rfl⟩) (preC_V (ci := 0) (q0 := 1) hct hP hD hS rfl rfl) rfl rfl hl.1 rfl (lv_room (Nat.le_of_ble_eq_true rfl)) dX0_placeByte_60 ⟨Nat.le_of_ble_eq_true rfl, Nat.le_of_ble_eq_true rfl⟩) hS (fun σ6 H locs eσ6 hP hD hS => ?_)
      exact retC_v hx hb hr hlocks (by subst eσ6; subst ex4; subst ev3; subst ex1; exact if_pos c5) hP hD hS dX0_placeByte_63
    · refine lv_aload_n hx hb dX0_placeByte_40 rfl (lv_at hl 2 rfl) ?_
      refine va_get (D := (dC, dI)) (ci := 0) (v := .ref (h 4)) (C := RX0) (T := TX0) (N := 2) hx hb hts (fun _ h9 => List.mem_cons_of_mem _ (List.mem_append_left _ (List.mem_append_right _ h9))) hown hK hP 1 rfl rfl 1 (by decide) (hts (.fieldLink RX0 18 "LowPowerCpu$Memory" "multiplier" "LLowPowerCpu$Multiplier;") (by decide +kernel)) (fun _ h9 => h9) rfl dX0_placeByte_41 ?_
      refine lv_iload_n hx hb dX0_placeByte_44 rfl (lv_at hl 3 rfl) ?_
      refine callC_ip (va_runS (As := [.int a1]) (rest := [.ref (h 4)]) ⟨hx, hb, hml, hown, hts⟩ (c_X0_slotOf l dC dI h k g _ σ a1) (va_cwS 1 hts gX0_placeByte_X0_slotOf rfl rfl rfl (by decide +kernel) ⟨Nat.le_of_ble_eq_true rfl, Nat.le_of_ble_eq_true rfl⟩) (preC_S hct hP hD hS) rfl rfl hl.1 rfl (lv_room (Nat.le_of_ble_eq_true rfl)) dX0_placeByte_45 ⟨Nat.le_of_ble_eq_true rfl, Nat.le_of_ble_eq_true rfl⟩) hS (fun x7 H locs ex7 hP hD hS => ?_)
      refine lv_iload hx hb dX0_placeByte_48 (lv_at hl 0 rfl) ?_
      refine callC_v (va_runVN (As := [.int x7, .int v3]) (rest := []) ⟨hx, hb, hml, hown, hts⟩ (c_X1_placeWordAtSlot l dC dI h k g _ σ x7 v3) ⟨va_cnB 2 hts gX0_placeByte_X1_placeWordAtSlot_n52 rfl rfl rfl (hN (.methodLinkNest RX0 52 yX1_placeWordAtSlot RX2) (List.mem_of_getElem? (i := 6) rfl)) (hts (.initialized RX1) (by decide +kernel)) (by decide +kernel) ⟨Nat.le_of_ble_eq_true rfl, Nat.le_of_ble_eq_true rfl⟩, hts (.instanceMethod yX1_placeWordAtSlot) (by decide +kernel), hts (.selects RX1 yX1_placeWordAtSlot yX1_placeWordAtSlot) (by decide +kernel)⟩ (preC_V (ci := 1) (q0 := 4) hct hP hD hS rfl rfl) rfl rfl hl.1 rfl (lv_room (Nat.le_of_ble_eq_true rfl)) dX0_placeByte_50 ⟨Nat.le_of_ble_eq_true rfl, Nat.le_of_ble_eq_true rfl⟩) hS (fun σ8 H locs eσ8 hP hD hS => ?_)
      refine lv_goto (tgt := 63) hx hb dX0_placeByte_53 (by decide) ?_
      exact retC_v hx hb hr hlocks (by subst eσ8; subst ex7; subst ex4; subst ev3; subst ex1; exact if_neg c5) hP hD hS dX0_placeByte_63
  · intro J
    refine lv_if_ne (tgt := 21) hx hb dX0_placeByte_9 (by decide) (fun c2 => ?_) (fun c2 => ?_)
    · refine lv_iload_n hx hb dX0_placeByte_21 rfl (lv_at hl 0 rfl) ?_
      refine lv_sipush (v := 255) hx hb dX0_placeByte_22 (by decide) ?_
      refine lv_iand hx hb dX0_placeByte_25 ?_
      refine lv_iload_n hx hb dX0_placeByte_26 rfl (lv_at hl 3 rfl) ?_
      refine lv_bipush (v := 8) hx hb dX0_placeByte_27 (by decide) ?_
      refine lv_ishl hx hb dX0_placeByte_29 ?_
      refine lv_ior hx hb dX0_placeByte_30 ?_
      exact J ((x1 &&& (255 : Int32)) ||| (a2 <<< ((8 : Int32) &&& 31))) ls _ _ (by exact (if_neg c2).symm) (lv_sub hl [0, 1, 2, 3] rfl) hP hD hS
    · refine lv_iload_n hx hb dX0_placeByte_12 rfl (lv_at hl 0 rfl) ?_
      refine lv_ldc (v := 65280) hx hb hown (hts (.constant RX0 51 65280) (by decide +kernel)) dX0_placeByte_13 ?_
      refine lv_iand hx hb dX0_placeByte_15 ?_
      refine lv_iload_n hx hb dX0_placeByte_16 rfl (lv_at hl 3 rfl) ?_
      refine lv_ior hx hb dX0_placeByte_17 ?_
      refine lv_goto (tgt := 31) hx hb dX0_placeByte_18 (by decide) ?_
      exact J ((x1 &&& (65280 : Int32)) ||| a2) ls _ _ (by exact (if_pos c2).symm) (lv_sub hl [0, 1, 2, 3] rfl) hP hD hS

set_option maxHeartbeats 4000000 in
set_option maxRecDepth 100000 in
theorem c_X0_writeByte (l : Launch) (dC : Nat → ClassId) (dI : Nat → Nat → Nat) (h : Nat → Nat) (k : Nat → ClassId) (g : Nat → Nat) (sz : Nat) (σ : StC) (a1 : Int32) (a2 : Int32) : Met l yX0_writeByte wsX0_writeByte ({ frames := 3, cells := 0, slots := 0, locals := 68 }) (PcC (dC, dI) h k g [.ref (h 1), .int a1, .int a2] sz σ) (va_Qv (fun u => u = f_X0_writeByte σ a1 a2) (BC (dC, dI) h k (AX 5 h sz)) (AX 5 h sz)) 0 0 (AX 5 h sz) := by
  refine Met.ofW (cc := cX0_writeByte) (maxL := 3) (ret := none) (by decide) rfl ?_
  intro p e s m args below meth c s₁ B hml hv
  obtain ⟨rfl, rfl, hP, hct, hD⟩ := hv
  have hx := B.exec
  have hb := B.bytes
  have hr := B.returns
  have hts := atoms_spec (ws := wsX0_writeByte) B.pre
  have hown : s.vm.findClass RX0 = some m.cls := findClass_of_methodNamed B.named
  have hlocks := B.notSynchronized
  have hK := hct.1
  have hN := hct.2.1
  have hS : va_S (AX 5 h s.heap.size) s.heap s.heap [] := va_S.rf
  have hl := lv_entry ([.ref (h 1), .int a1, .int a2]) (n := 3) (Nat.le_of_ble_eq_true rfl)
  rw [lg_entry_eq]
  generalize (lg_sl ([.ref (h 1), .int a1, .int a2]) ++ List.replicate (3 - (lg_sl ([.ref (h 1), .int a1, .int a2])).length) Slot.unset).toArray = ls at hl ⊢
  have hl : lv_has ls 3 [(0, .ref (h 1)), (1, .int a1), (2, .int a2)] := hl
  refine lv_iload_n hx hb dX0_writeByte_0 rfl (lv_at hl 1 rfl) ?_
  refine callC_ip (va_runS (As := [.int a1]) (rest := []) ⟨hx, hb, hml, hown, hts⟩ (c_X0_isMultiplier l dC dI h k g _ σ a1) (va_cwS 1 hts gX0_writeByte_X0_isMultiplier rfl rfl rfl (by decide +kernel) ⟨Nat.le_of_ble_eq_true rfl, Nat.le_of_ble_eq_true rfl⟩) (preC_S hct hP hD hS) rfl rfl hl.1 rfl (lv_room (Nat.le_of_ble_eq_true rfl)) dX0_writeByte_1 ⟨Nat.le_of_ble_eq_true rfl, Nat.le_of_ble_eq_true rfl⟩) hS (fun x1 H locs ex1 hP hD hS => ?_)
  refine lv_if_ne (tgt := 16) hx hb dX0_writeByte_4 (by decide) (fun c2 => ?_) (fun c2 => ?_)
  · refine lv_iload_n hx hb dX0_writeByte_16 rfl (lv_at hl 1 rfl) ?_
    refine lv_iconst (v := 1) hx hb dX0_writeByte_17 (by decide) ?_
    refine lv_iand hx hb dX0_writeByte_18 ?_
    refine lv_if_ne (tgt := 34) hx hb dX0_writeByte_19 (by decide) (fun c3 => ?_) (fun c3 => ?_)
    · exact retC_v hx hb hr hlocks (by subst ex1; exact (if_neg c2).trans (if_neg c3)) hP hD hS dX0_writeByte_34
    · refine lv_aload_n hx hb dX0_writeByte_22 rfl (lv_at hl 0 rfl) ?_
      refine va_get (D := (dC, dI)) (ci := 0) (v := .ref (h 4)) (C := RX0) (T := TX0) (N := 2) hx hb hts (fun _ h9 => List.mem_cons_of_mem _ (List.mem_append_left _ (List.mem_append_right _ h9))) hown hK hP 1 rfl rfl 1 (by decide) (hts (.fieldLink RX0 18 "LowPowerCpu$Memory" "multiplier" "LLowPowerCpu$Multiplier;") (by decide +kernel)) (fun _ h9 => h9) rfl dX0_writeByte_23 ?_
      refine lv_iload_n hx hb dX0_writeByte_26 rfl (lv_at hl 1 rfl) ?_
      refine callC_ip (va_runS (As := [.int a1]) (rest := [.ref (h 4)]) ⟨hx, hb, hml, hown, hts⟩ (c_X0_slotOf l dC dI h k g _ σ a1) (va_cwS 1 hts gX0_writeByte_X0_slotOf rfl rfl rfl (by decide +kernel) ⟨Nat.le_of_ble_eq_true rfl, Nat.le_of_ble_eq_true rfl⟩) (preC_S hct hP hD hS) rfl rfl hl.1 rfl (lv_room (Nat.le_of_ble_eq_true rfl)) dX0_writeByte_27 ⟨Nat.le_of_ble_eq_true rfl, Nat.le_of_ble_eq_true rfl⟩) hS (fun x4 H locs ex4 hP hD hS => ?_)
      refine lv_iload_n hx hb dX0_writeByte_30 rfl (lv_at hl 2 rfl) ?_
      refine callC_v (va_runVN (As := [.int x4, .int a2]) (rest := []) ⟨hx, hb, hml, hown, hts⟩ (c_X1_write l dC dI h k g _ σ x4 a2) ⟨va_cnB 2 hts gX0_writeByte_X1_write_n41 rfl rfl rfl (hN (.methodLinkNest RX0 41 yX1_write RX2) (List.mem_of_getElem? (i := 9) rfl)) (hts (.initialized RX1) (by decide +kernel)) (by decide +kernel) ⟨Nat.le_of_ble_eq_true rfl, Nat.le_of_ble_eq_true rfl⟩, hts (.instanceMethod yX1_write) (by decide +kernel), hts (.selects RX1 yX1_write yX1_write) (by decide +kernel)⟩ (preC_V (ci := 1) (q0 := 4) hct hP hD hS rfl rfl) rfl rfl hl.1 rfl (lv_room (Nat.le_of_ble_eq_true rfl)) dX0_writeByte_31 ⟨Nat.le_of_ble_eq_true rfl, Nat.le_of_ble_eq_true rfl⟩) hS (fun σ5 H locs eσ5 hP hD hS => ?_)
      exact retC_v hx hb hr hlocks (by subst eσ5; subst ex4; subst ex1; exact (if_neg c2).trans (if_pos c3)) hP hD hS dX0_writeByte_34
  · refine lv_aload_n hx hb dX0_writeByte_7 rfl (lv_at hl 0 rfl) ?_
    refine lv_iload_n hx hb dX0_writeByte_8 rfl (lv_at hl 1 rfl) ?_
    refine lv_iload_n hx hb dX0_writeByte_9 rfl (lv_at hl 2 rfl) ?_
    refine callC_v (va_runV (As := [.int a1, .int a2]) (rest := []) ⟨hx, hb, hml, hown, hts⟩ (c_X0_placeByte l dC dI h k g _ σ a1 a2) (cwV 2 hts gX0_writeByte_X0_placeByte rfl rfl rfl (by decide +kernel) ⟨Nat.le_of_ble_eq_true rfl, Nat.le_of_ble_eq_true rfl⟩) (preC_V (ci := 0) (q0 := 1) hct hP hD hS rfl rfl) rfl rfl hl.1 rfl (lv_room (Nat.le_of_ble_eq_true rfl)) dX0_writeByte_10 ⟨Nat.le_of_ble_eq_true rfl, Nat.le_of_ble_eq_true rfl⟩) hS (fun σ6 H locs eσ6 hP hD hS => ?_)
    refine lv_goto (tgt := 34) hx hb dX0_writeByte_13 (by decide) ?_
    exact retC_v hx hb hr hlocks (by subst eσ6; subst ex1; exact if_pos c2) hP hD hS dX0_writeByte_34
