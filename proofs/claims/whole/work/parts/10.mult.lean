set_option maxHeartbeats 4000000 in
set_option maxRecDepth 100000 in
theorem c_X0_isMultiplier (l : Launch) (dC : Nat → ClassId) (dI : Nat → Nat → Nat) (h : Nat → Nat) (k : Nat → ClassId) (g : Nat → Nat) (sz : Nat) (σ : StC) (a1 : Int32) : Met l yX0_isMultiplier wsX0_isMultiplier ({ frames := 0, cells := 0, slots := 0, locals := 0 }) (PcC (dC, dI) h k g [.int a1] sz σ) (va_Qi (fun r u => (r, u) = (f_X0_isMultiplier a1, σ)) (BC (dC, dI) h k (AX 5 h sz)) (AX 5 h sz)) 0 0 (AX 5 h sz) := by
  refine Met.ofW (cc := cX0_isMultiplier) (maxL := 1) (ret := (some .boolean)) (by decide) rfl ?_
  intro p e s m args below meth c s₁ B hml hv
  obtain ⟨rfl, rfl, hP, hct, hD⟩ := hv
  have hx := B.exec
  have hb := B.bytes
  have hr := B.returns
  have hts := atoms_spec (ws := wsX0_isMultiplier) B.pre
  have hown : s.vm.findClass RX0 = some m.cls := findClass_of_methodNamed B.named
  have hlocks := B.notSynchronized
  have hK := hct.1
  have hN := hct.2.1
  have hS : va_S (AX 5 h s.heap.size) s.heap s.heap [] := va_S.rf
  have hl := lv_entry ([.int a1]) (n := 1) (Nat.le_of_ble_eq_true rfl)
  rw [lg_entry_eq]
  generalize (lg_sl ([.int a1]) ++ List.replicate (1 - (lg_sl ([.int a1])).length) Slot.unset).toArray = ls at hl ⊢
  have hl : lv_has ls 1 [(0, .int a1)] := hl
  refine lv_iload_n hx hb dX0_isMultiplier_0 rfl (lv_at hl 0 rfl) ?_
  refine lv_ldc (v := 65520) hx hb hown (hts (.constant RX0 22 65520) (by decide +kernel)) dX0_isMultiplier_1 ?_
  refine lv_iand hx hb dX0_isMultiplier_3 ?_
  refine lv_sipush (v := 304) hx hb dX0_isMultiplier_4 (by decide) ?_
  refine lv_icmp_ne (tgt := 14) hx hb dX0_isMultiplier_7 (by decide) (fun c1 => ?_) (fun c1 => ?_)
  · refine lv_iconst (v := 0) hx hb dX0_isMultiplier_14 (by decide) ?_
    exact retC_zp hx hb hr hlocks rfl (by exact if_neg c1) hP hD hS dX0_isMultiplier_15
  · refine lv_iconst (v := 1) hx hb dX0_isMultiplier_10 (by decide) ?_
    refine lv_goto (tgt := 15) hx hb dX0_isMultiplier_11 (by decide) ?_
    exact retC_zp hx hb hr hlocks rfl (by exact if_pos c1) hP hD hS dX0_isMultiplier_15

set_option maxHeartbeats 4000000 in
set_option maxRecDepth 100000 in
theorem c_X0_slotOf (l : Launch) (dC : Nat → ClassId) (dI : Nat → Nat → Nat) (h : Nat → Nat) (k : Nat → ClassId) (g : Nat → Nat) (sz : Nat) (σ : StC) (a1 : Int32) : Met l yX0_slotOf wsX0_slotOf ({ frames := 0, cells := 0, slots := 0, locals := 0 }) (PcC (dC, dI) h k g [.int a1] sz σ) (va_Qi (fun r u => (r, u) = (f_X0_slotOf a1, σ)) (BC (dC, dI) h k (AX 5 h sz)) (AX 5 h sz)) 0 0 (AX 5 h sz) := by
  refine Met.ofW (cc := cX0_slotOf) (maxL := 1) (ret := (some .int)) (by decide) rfl ?_
  intro p e s m args below meth c s₁ B hml hv
  obtain ⟨rfl, rfl, hP, hct, hD⟩ := hv
  have hx := B.exec
  have hb := B.bytes
  have hr := B.returns
  have hts := atoms_spec (ws := wsX0_slotOf) B.pre
  have hown : s.vm.findClass RX0 = some m.cls := findClass_of_methodNamed B.named
  have hlocks := B.notSynchronized
  have hK := hct.1
  have hN := hct.2.1
  have hS : va_S (AX 5 h s.heap.size) s.heap s.heap [] := va_S.rf
  have hl := lv_entry ([.int a1]) (n := 1) (Nat.le_of_ble_eq_true rfl)
  rw [lg_entry_eq]
  generalize (lg_sl ([.int a1]) ++ List.replicate (1 - (lg_sl ([.int a1])).length) Slot.unset).toArray = ls at hl ⊢
  have hl : lv_has ls 1 [(0, .int a1)] := hl
  refine lv_iload_n hx hb dX0_slotOf_0 rfl (lv_at hl 0 rfl) ?_
  refine lv_iconst (v := 1) hx hb dX0_slotOf_1 (by decide) ?_
  refine lv_ishr hx hb dX0_slotOf_2 ?_
  refine lv_bipush (v := 7) hx hb dX0_slotOf_3 (by decide) ?_
  refine lv_iand hx hb dX0_slotOf_5 ?_
  exact retC_ip hx hb hr hlocks (by exact rfl) hP hD hS dX0_slotOf_6

set_option maxHeartbeats 4000000 in
set_option maxRecDepth 100000 in
theorem c_X0_cellOf (l : Launch) (dC : Nat → ClassId) (dI : Nat → Nat → Nat) (h : Nat → Nat) (k : Nat → ClassId) (g : Nat → Nat) (sz : Nat) (σ : StC) (a1 : Int32) : Met l yX0_cellOf wsX0_cellOf ({ frames := 0, cells := 0, slots := 0, locals := 0 }) (PcC (dC, dI) h k g [.int a1] sz σ) (va_Qi (fun r u => (r, u) = (f_X0_cellOf a1, σ)) (BC (dC, dI) h k (AX 5 h sz)) (AX 5 h sz)) 0 0 (AX 5 h sz) := by
  refine Met.ofW (cc := cX0_cellOf) (maxL := 1) (ret := (some .int)) (by decide) rfl ?_
  intro p e s m args below meth c s₁ B hml hv
  obtain ⟨rfl, rfl, hP, hct, hD⟩ := hv
  have hx := B.exec
  have hb := B.bytes
  have hr := B.returns
  have hts := atoms_spec (ws := wsX0_cellOf) B.pre
  have hown : s.vm.findClass RX0 = some m.cls := findClass_of_methodNamed B.named
  have hlocks := B.notSynchronized
  have hK := hct.1
  have hN := hct.2.1
  have hS : va_S (AX 5 h s.heap.size) s.heap s.heap [] := va_S.rf
  have hl := lv_entry ([.int a1]) (n := 1) (Nat.le_of_ble_eq_true rfl)
  rw [lg_entry_eq]
  generalize (lg_sl ([.int a1]) ++ List.replicate (1 - (lg_sl ([.int a1])).length) Slot.unset).toArray = ls at hl ⊢
  have hl : lv_has ls 1 [(0, .int a1)] := hl
  refine lv_iload_n hx hb dX0_cellOf_0 rfl (lv_at hl 0 rfl) ?_
  refine lv_ldc (v := 65535) hx hb hown (hts (.constant RX0 37 65535) (by decide +kernel)) dX0_cellOf_1 ?_
  refine lv_iand hx hb dX0_cellOf_3 ?_
  refine lv_iconst (v := 3) hx hb dX0_cellOf_4 (by decide) ?_
  refine lv_ishr hx hb dX0_cellOf_5 ?_
  exact retC_ip hx hb hr hlocks (by exact rfl) hP hD hS dX0_cellOf_6

set_option maxHeartbeats 4000000 in
set_option maxRecDepth 100000 in
theorem c_X1_wordAtSlot (l : Launch) (dC : Nat → ClassId) (dI : Nat → Nat → Nat) (h : Nat → Nat) (k : Nat → ClassId) (g : Nat → Nat) (sz : Nat) (σ : StC) (a1 : Int32) : Met l yX1_wordAtSlot wsX1_wordAtSlot ({ frames := 0, cells := 0, slots := 0, locals := 0 }) (PcC (dC, dI) h k g [.ref (h 4), .int a1] sz σ) (va_Qi (fun r u => (r, u) = (f_X1_wordAtSlot σ a1, σ)) (BC (dC, dI) h k (AX 5 h sz)) (AX 5 h sz)) 0 0 (AX 5 h sz) := by
  refine Met.ofW (cc := cX1_wordAtSlot) (maxL := 2) (ret := (some .int)) (by decide) rfl ?_
  intro p e s m args below meth c s₁ B hml hv
  obtain ⟨rfl, rfl, hP, hct, hD⟩ := hv
  have hx := B.exec
  have hb := B.bytes
  have hr := B.returns
  have hts := atoms_spec (ws := wsX1_wordAtSlot) B.pre
  have hown : s.vm.findClass RX1 = some m.cls := findClass_of_methodNamed B.named
  have hlocks := B.notSynchronized
  have hK := hct.1
  have hN := hct.2.1
  have hS : va_S (AX 5 h s.heap.size) s.heap s.heap [] := va_S.rf
  have hl := lv_entry ([.ref (h 4), .int a1]) (n := 2) (Nat.le_of_ble_eq_true rfl)
  rw [lg_entry_eq]
  generalize (lg_sl ([.ref (h 4), .int a1]) ++ List.replicate (2 - (lg_sl ([.ref (h 4), .int a1])).length) Slot.unset).toArray = ls at hl ⊢
  have hl : lv_has ls 2 [(0, .ref (h 4)), (1, .int a1)] := hl
  refine lv_iload_n hx hb dX1_wordAtSlot_0 rfl (lv_at hl 1 rfl) ?_
  rcases Classical.em (a1 = 4) with c1 | c1
  · refine lv_tableIn (tgt := 32) hx hb dX1_wordAtSlot_1 (by rw [c1]; decide) (by rw [c1]; decide) (by rw [c1]; rfl) (by decide) ?_
    refine lv_aload_n hx hb dX1_wordAtSlot_32 rfl (lv_at hl 0 rfl) ?_
    refine va_get (D := (dC, dI)) (ci := 1) (v := .int σ.2.2.2.2.2.1) (C := RX1) (T := TX1) (N := 6) hx hb hts (fun _ h9 => List.mem_cons_of_mem _ (List.mem_append_right _ h9)) hown hK hP 4 rfl rfl 1 (by decide) (hts (.fieldLink RX1 13 "LowPowerCpu$Multiplier" "two" "I") (by decide +kernel)) (fun _ h9 => h9) rfl dX1_wordAtSlot_33 ?_
    exact retC_ip hx hb hr hlocks (by exact if_pos c1) hP hD hS dX1_wordAtSlot_36
  · skip
    rcases Classical.em (a1 = 5) with c2 | c2
    · refine lv_tableIn (tgt := 37) hx hb dX1_wordAtSlot_1 (by rw [c2]; decide) (by rw [c2]; decide) (by rw [c2]; rfl) (by decide) ?_
      refine lv_aload_n hx hb dX1_wordAtSlot_37 rfl (lv_at hl 0 rfl) ?_
      refine va_get (D := (dC, dI)) (ci := 1) (v := .int σ.2.2.2.2.2.2.1) (C := RX1) (T := TX1) (N := 6) hx hb hts (fun _ h9 => List.mem_cons_of_mem _ (List.mem_append_right _ h9)) hown hK hP 4 rfl rfl 2 (by decide) (hts (.fieldLink RX1 16 "LowPowerCpu$Multiplier" "low" "I") (by decide +kernel)) (fun _ h9 => h9) rfl dX1_wordAtSlot_38 ?_
      exact retC_ip hx hb hr hlocks (by exact (if_neg c1).trans (if_pos c2)) hP hD hS dX1_wordAtSlot_41
    · skip
      rcases Classical.em (a1 = 6) with c3 | c3
      · refine lv_tableIn (tgt := 42) hx hb dX1_wordAtSlot_1 (by rw [c3]; decide) (by rw [c3]; decide) (by rw [c3]; rfl) (by decide) ?_
        refine lv_aload_n hx hb dX1_wordAtSlot_42 rfl (lv_at hl 0 rfl) ?_
        refine va_get (D := (dC, dI)) (ci := 1) (v := .int σ.2.2.2.2.2.2.2.1) (C := RX1) (T := TX1) (N := 6) hx hb hts (fun _ h9 => List.mem_cons_of_mem _ (List.mem_append_right _ h9)) hown hK hP 4 rfl rfl 3 (by decide) (hts (.fieldLink RX1 19 "LowPowerCpu$Multiplier" "high" "I") (by decide +kernel)) (fun _ h9 => h9) rfl dX1_wordAtSlot_43 ?_
        exact retC_ip hx hb hr hlocks (by exact (if_neg c1).trans ((if_neg c2).trans (if_pos c3))) hP hD hS dX1_wordAtSlot_46
      · skip
        rcases Classical.em (a1 = 7) with c4 | c4
        · refine lv_tableIn (tgt := 47) hx hb dX1_wordAtSlot_1 (by rw [c4]; decide) (by rw [c4]; decide) (by rw [c4]; rfl) (by decide) ?_
          refine lv_aload_n hx hb dX1_wordAtSlot_47 rfl (lv_at hl 0 rfl) ?_
          refine va_get (D := (dC, dI)) (ci := 1) (v := .int σ.2.2.2.2.2.2.2.2.1) (C := RX1) (T := TX1) (N := 6) hx hb hts (fun _ h9 => List.mem_cons_of_mem _ (List.mem_append_right _ h9)) hown hK hP 4 rfl rfl 4 (by decide) (hts (.fieldLink RX1 22 "LowPowerCpu$Multiplier" "extra" "I") (by decide +kernel)) (fun _ h9 => h9) rfl dX1_wordAtSlot_48 ?_
          exact retC_ip hx hb hr hlocks (by exact (if_neg c1).trans ((if_neg c2).trans ((if_neg c3).trans (if_pos c4)))) hP hD hS dX1_wordAtSlot_51
        · skip
          have nc1 := i32ne (n := 4) (by decide) c1
          have nc2 := i32ne (n := 5) (by decide) c2
          have nc3 := i32ne (n := 6) (by decide) c3
          have nc4 := i32ne (n := 7) (by decide) c4
          refine lv_tableOut (tgt := 52) hx hb dX1_wordAtSlot_1 (by omega) (by decide) ?_
          refine lv_aload_n hx hb dX1_wordAtSlot_52 rfl (lv_at hl 0 rfl) ?_
          refine va_get (D := (dC, dI)) (ci := 1) (v := .int σ.2.2.2.2.1) (C := RX1) (T := TX1) (N := 6) hx hb hts (fun _ h9 => List.mem_cons_of_mem _ (List.mem_append_right _ h9)) hown hK hP 4 rfl rfl 0 (by decide) (hts (.fieldLink RX1 7 "LowPowerCpu$Multiplier" "one" "I") (by decide +kernel)) (fun _ h9 => h9) rfl dX1_wordAtSlot_53 ?_
          exact retC_ip hx hb hr hlocks (by exact (if_neg c1).trans ((if_neg c2).trans ((if_neg c3).trans (if_neg c4)))) hP hD hS dX1_wordAtSlot_56

set_option maxHeartbeats 4000000 in
set_option maxRecDepth 100000 in
theorem c_X1_placeWordAtSlot (l : Launch) (dC : Nat → ClassId) (dI : Nat → Nat → Nat) (h : Nat → Nat) (k : Nat → ClassId) (g : Nat → Nat) (sz : Nat) (σ : StC) (a1 : Int32) (a2 : Int32) : Met l yX1_placeWordAtSlot wsX1_placeWordAtSlot ({ frames := 0, cells := 0, slots := 0, locals := 0 }) (PcC (dC, dI) h k g [.ref (h 4), .int a1, .int a2] sz σ) (va_Qv (fun u => u = f_X1_placeWordAtSlot σ a1 a2) (BC (dC, dI) h k (AX 5 h sz)) (AX 5 h sz)) 0 0 (AX 5 h sz) := by
  refine Met.ofW (cc := cX1_placeWordAtSlot) (maxL := 3) (ret := none) (by decide) rfl ?_
  intro p e s m args below meth c s₁ B hml hv
  obtain ⟨rfl, rfl, hP, hct, hD⟩ := hv
  have hx := B.exec
  have hb := B.bytes
  have hr := B.returns
  have hts := atoms_spec (ws := wsX1_placeWordAtSlot) B.pre
  have hown : s.vm.findClass RX1 = some m.cls := findClass_of_methodNamed B.named
  have hlocks := B.notSynchronized
  have hK := hct.1
  have hN := hct.2.1
  have hS : va_S (AX 5 h s.heap.size) s.heap s.heap [] := va_S.rf
  have hl := lv_entry ([.ref (h 4), .int a1, .int a2]) (n := 3) (Nat.le_of_ble_eq_true rfl)
  rw [lg_entry_eq]
  generalize (lg_sl ([.ref (h 4), .int a1, .int a2]) ++ List.replicate (3 - (lg_sl ([.ref (h 4), .int a1, .int a2])).length) Slot.unset).toArray = ls at hl ⊢
  have hl : lv_has ls 3 [(0, .ref (h 4)), (1, .int a1), (2, .int a2)] := hl
  refine lv_iload_n hx hb dX1_placeWordAtSlot_0 rfl (lv_at hl 1 rfl) ?_
  rcases Classical.em (a1 = 4) with c1 | c1
  · refine lv_tableIn (tgt := 32) hx hb dX1_placeWordAtSlot_1 (by rw [c1]; decide) (by rw [c1]; decide) (by rw [c1]; rfl) (by decide) ?_
    refine lv_aload_n hx hb dX1_placeWordAtSlot_32 rfl (lv_at hl 0 rfl) ?_
    refine lv_iload_n hx hb dX1_placeWordAtSlot_33 rfl (lv_at hl 2 rfl) ?_
    refine va_put (D := (dC, dI)) (ci := 1) (v := .int a2) (ty := .int) (C := RX1) (T := TX1) (N := 6) hx hb hts (fun _ h9 => List.mem_cons_of_mem _ (List.mem_append_right _ h9)) tyX1 tyX1_ok nmX1 hown hK hP hD hS 4 rfl rfl 1 (by decide) (hts (.fieldLink RX1 13 "LowPowerCpu$Multiplier" "two" "I") (by decide +kernel)) (fun _ h9 => h9) rfl (by decide +kernel) rfl rfl (Nat.le_of_ble_eq_true rfl) dX1_placeWordAtSlot_34 (fun H locs hP hD hS => ?_)
    have hP : va_P (dC, dI) vwCl (wsC h k (σ.1, σ.2.1, σ.2.2.1, σ.2.2.2.1, σ.2.2.2.2.1, a2, σ.2.2.2.2.2.2.1, σ.2.2.2.2.2.2.2.1, σ.2.2.2.2.2.2.2.2.1, σ.2.2.2.2.2.2.2.2.2)) H := hP
    have hD : va_D (AX 5 h s.heap.size) (wsC h k (σ.1, σ.2.1, σ.2.2.1, σ.2.2.2.1, σ.2.2.2.2.1, a2, σ.2.2.2.2.2.2.1, σ.2.2.2.2.2.2.2.1, σ.2.2.2.2.2.2.2.2.1, σ.2.2.2.2.2.2.2.2.2)) := hD
    refine lv_goto (tgt := 69) hx hb dX1_placeWordAtSlot_37 (by decide) ?_
    exact retC_v hx hb hr hlocks (by exact if_pos c1) hP hD hS dX1_placeWordAtSlot_69
  · skip
    rcases Classical.em (a1 = 5) with c2 | c2
    · refine lv_tableIn (tgt := 40) hx hb dX1_placeWordAtSlot_1 (by rw [c2]; decide) (by rw [c2]; decide) (by rw [c2]; rfl) (by decide) ?_
      refine lv_aload_n hx hb dX1_placeWordAtSlot_40 rfl (lv_at hl 0 rfl) ?_
      refine lv_iload_n hx hb dX1_placeWordAtSlot_41 rfl (lv_at hl 2 rfl) ?_
      refine va_put (D := (dC, dI)) (ci := 1) (v := .int a2) (ty := .int) (C := RX1) (T := TX1) (N := 6) hx hb hts (fun _ h9 => List.mem_cons_of_mem _ (List.mem_append_right _ h9)) tyX1 tyX1_ok nmX1 hown hK hP hD hS 4 rfl rfl 2 (by decide) (hts (.fieldLink RX1 16 "LowPowerCpu$Multiplier" "low" "I") (by decide +kernel)) (fun _ h9 => h9) rfl (by decide +kernel) rfl rfl (Nat.le_of_ble_eq_true rfl) dX1_placeWordAtSlot_42 (fun H locs hP hD hS => ?_)
      have hP : va_P (dC, dI) vwCl (wsC h k (σ.1, σ.2.1, σ.2.2.1, σ.2.2.2.1, σ.2.2.2.2.1, σ.2.2.2.2.2.1, a2, σ.2.2.2.2.2.2.2.1, σ.2.2.2.2.2.2.2.2.1, σ.2.2.2.2.2.2.2.2.2)) H := hP
      have hD : va_D (AX 5 h s.heap.size) (wsC h k (σ.1, σ.2.1, σ.2.2.1, σ.2.2.2.1, σ.2.2.2.2.1, σ.2.2.2.2.2.1, a2, σ.2.2.2.2.2.2.2.1, σ.2.2.2.2.2.2.2.2.1, σ.2.2.2.2.2.2.2.2.2)) := hD
      refine lv_goto (tgt := 69) hx hb dX1_placeWordAtSlot_45 (by decide) ?_
      exact retC_v hx hb hr hlocks (by exact (if_neg c1).trans (if_pos c2)) hP hD hS dX1_placeWordAtSlot_69
    · skip
      rcases Classical.em (a1 = 6) with c3 | c3
      · refine lv_tableIn (tgt := 48) hx hb dX1_placeWordAtSlot_1 (by rw [c3]; decide) (by rw [c3]; decide) (by rw [c3]; rfl) (by decide) ?_
        refine lv_aload_n hx hb dX1_placeWordAtSlot_48 rfl (lv_at hl 0 rfl) ?_
        refine lv_iload_n hx hb dX1_placeWordAtSlot_49 rfl (lv_at hl 2 rfl) ?_
        refine va_put (D := (dC, dI)) (ci := 1) (v := .int a2) (ty := .int) (C := RX1) (T := TX1) (N := 6) hx hb hts (fun _ h9 => List.mem_cons_of_mem _ (List.mem_append_right _ h9)) tyX1 tyX1_ok nmX1 hown hK hP hD hS 4 rfl rfl 3 (by decide) (hts (.fieldLink RX1 19 "LowPowerCpu$Multiplier" "high" "I") (by decide +kernel)) (fun _ h9 => h9) rfl (by decide +kernel) rfl rfl (Nat.le_of_ble_eq_true rfl) dX1_placeWordAtSlot_50 (fun H locs hP hD hS => ?_)
        have hP : va_P (dC, dI) vwCl (wsC h k (σ.1, σ.2.1, σ.2.2.1, σ.2.2.2.1, σ.2.2.2.2.1, σ.2.2.2.2.2.1, σ.2.2.2.2.2.2.1, a2, σ.2.2.2.2.2.2.2.2.1, σ.2.2.2.2.2.2.2.2.2)) H := hP
        have hD : va_D (AX 5 h s.heap.size) (wsC h k (σ.1, σ.2.1, σ.2.2.1, σ.2.2.2.1, σ.2.2.2.2.1, σ.2.2.2.2.2.1, σ.2.2.2.2.2.2.1, a2, σ.2.2.2.2.2.2.2.2.1, σ.2.2.2.2.2.2.2.2.2)) := hD
        refine lv_goto (tgt := 69) hx hb dX1_placeWordAtSlot_53 (by decide) ?_
        exact retC_v hx hb hr hlocks (by exact (if_neg c1).trans ((if_neg c2).trans (if_pos c3))) hP hD hS dX1_placeWordAtSlot_69
      · skip
        rcases Classical.em (a1 = 7) with c4 | c4
        · refine lv_tableIn (tgt := 56) hx hb dX1_placeWordAtSlot_1 (by rw [c4]; decide) (by rw [c4]; decide) (by rw [c4]; rfl) (by decide) ?_
          refine lv_aload_n hx hb dX1_placeWordAtSlot_56 rfl (lv_at hl 0 rfl) ?_
          refine lv_iload_n hx hb dX1_placeWordAtSlot_57 rfl (lv_at hl 2 rfl) ?_
          refine va_put (D := (dC, dI)) (ci := 1) (v := .int a2) (ty := .int) (C := RX1) (T := TX1) (N := 6) hx hb hts (fun _ h9 => List.mem_cons_of_mem _ (List.mem_append_right _ h9)) tyX1 tyX1_ok nmX1 hown hK hP hD hS 4 rfl rfl 4 (by decide) (hts (.fieldLink RX1 22 "LowPowerCpu$Multiplier" "extra" "I") (by decide +kernel)) (fun _ h9 => h9) rfl (by decide +kernel) rfl rfl (Nat.le_of_ble_eq_true rfl) dX1_placeWordAtSlot_58 (fun H locs hP hD hS => ?_)
          have hP : va_P (dC, dI) vwCl (wsC h k (σ.1, σ.2.1, σ.2.2.1, σ.2.2.2.1, σ.2.2.2.2.1, σ.2.2.2.2.2.1, σ.2.2.2.2.2.2.1, σ.2.2.2.2.2.2.2.1, a2, σ.2.2.2.2.2.2.2.2.2)) H := hP
          have hD : va_D (AX 5 h s.heap.size) (wsC h k (σ.1, σ.2.1, σ.2.2.1, σ.2.2.2.1, σ.2.2.2.2.1, σ.2.2.2.2.2.1, σ.2.2.2.2.2.2.1, σ.2.2.2.2.2.2.2.1, a2, σ.2.2.2.2.2.2.2.2.2)) := hD
          refine lv_goto (tgt := 69) hx hb dX1_placeWordAtSlot_61 (by decide) ?_
          exact retC_v hx hb hr hlocks (by exact (if_neg c1).trans ((if_neg c2).trans ((if_neg c3).trans (if_pos c4)))) hP hD hS dX1_placeWordAtSlot_69
        · skip
          have nc1 := i32ne (n := 4) (by decide) c1
          have nc2 := i32ne (n := 5) (by decide) c2
          have nc3 := i32ne (n := 6) (by decide) c3
          have nc4 := i32ne (n := 7) (by decide) c4
          refine lv_tableOut (tgt := 64) hx hb dX1_placeWordAtSlot_1 (by omega) (by decide) ?_
          refine lv_aload_n hx hb dX1_placeWordAtSlot_64 rfl (lv_at hl 0 rfl) ?_
          refine lv_iload_n hx hb dX1_placeWordAtSlot_65 rfl (lv_at hl 2 rfl) ?_
          refine va_put (D := (dC, dI)) (ci := 1) (v := .int a2) (ty := .int) (C := RX1) (T := TX1) (N := 6) hx hb hts (fun _ h9 => List.mem_cons_of_mem _ (List.mem_append_right _ h9)) tyX1 tyX1_ok nmX1 hown hK hP hD hS 4 rfl rfl 0 (by decide) (hts (.fieldLink RX1 7 "LowPowerCpu$Multiplier" "one" "I") (by decide +kernel)) (fun _ h9 => h9) rfl (by decide +kernel) rfl rfl (Nat.le_of_ble_eq_true rfl) dX1_placeWordAtSlot_66 (fun H locs hP hD hS => ?_)
          have hP : va_P (dC, dI) vwCl (wsC h k (σ.1, σ.2.1, σ.2.2.1, σ.2.2.2.1, a2, σ.2.2.2.2.2.1, σ.2.2.2.2.2.2.1, σ.2.2.2.2.2.2.2.1, σ.2.2.2.2.2.2.2.2.1, σ.2.2.2.2.2.2.2.2.2)) H := hP
          have hD : va_D (AX 5 h s.heap.size) (wsC h k (σ.1, σ.2.1, σ.2.2.1, σ.2.2.2.1, a2, σ.2.2.2.2.2.1, σ.2.2.2.2.2.2.1, σ.2.2.2.2.2.2.2.1, σ.2.2.2.2.2.2.2.2.1, σ.2.2.2.2.2.2.2.2.2)) := hD
          exact retC_v hx hb hr hlocks (by exact (if_neg c1).trans ((if_neg c2).trans ((if_neg c3).trans (if_neg c4)))) hP hD hS dX1_placeWordAtSlot_69

set_option maxHeartbeats 4000000 in
set_option maxRecDepth 100000 in
theorem c_X1_multiply (l : Launch) (dC : Nat → ClassId) (dI : Nat → Nat → Nat) (h : Nat → Nat) (k : Nat → ClassId) (g : Nat → Nat) (sz : Nat) (σ : StC) : Met l yX1_multiply wsX1_multiply ({ frames := 0, cells := 0, slots := 0, locals := 0 }) (PcC (dC, dI) h k g [.ref (h 4)] sz σ) (va_Qv (fun u => u = f_X1_multiply σ) (BC (dC, dI) h k (AX 5 h sz)) (AX 5 h sz)) 0 0 (AX 5 h sz) := by
  refine Met.ofW (cc := cX1_multiply) (maxL := 9) (ret := none) (by decide) rfl ?_
  intro p e s m args below meth c s₁ B hml hv
  obtain ⟨rfl, rfl, hP, hct, hD⟩ := hv
  have hx := B.exec
  have hb := B.bytes
  have hr := B.returns
  have hts := atoms_spec (ws := wsX1_multiply) B.pre
  have hown : s.vm.findClass RX1 = some m.cls := findClass_of_methodNamed B.named
  have hlocks := B.notSynchronized
  have hK := hct.1
  have hN := hct.2.1
  have hS : va_S (AX 5 h s.heap.size) s.heap s.heap [] := va_S.rf
  have hl := lv_entry ([.ref (h 4)]) (n := 9) (Nat.le_of_ble_eq_true rfl)
  rw [lg_entry_eq]
  generalize (lg_sl ([.ref (h 4)]) ++ List.replicate (9 - (lg_sl ([.ref (h 4)])).length) Slot.unset).toArray = ls at hl ⊢
  have hl : lv_has ls 9 [(0, .ref (h 4))] := hl
  refine lv_aload_n hx hb dX1_multiply_0 rfl (lv_at hl 0 rfl) ?_
  refine va_get (D := (dC, dI)) (ci := 1) (v := .int σ.2.2.2.2.2.2.2.2.2) (C := RX1) (T := TX1) (N := 6) hx hb hts (fun _ h9 => List.mem_cons_of_mem _ (List.mem_append_right _ h9)) hown hK hP 4 rfl rfl 5 (by decide) (hts (.fieldLink RX1 25 "LowPowerCpu$Multiplier" "way" "I") (by decide +kernel)) (fun _ h9 => h9) rfl dX1_multiply_1 ?_
  refine lv_iconst (v := 1) hx hb dX1_multiply_4 (by decide) ?_
  refine lv_iand hx hb dX1_multiply_5 ?_
  refine wj (α := Int32) (D := (dC, dI)) (cl := vwCl) (A := AX 5 h s.heap.size) (H0 := s.heap) (if (σ.2.2.2.2.2.2.2.2.2 &&& (1 : Int32)) = 0 then 0 else 1) (fun v2 => wsC h k σ) (fun v2 => [(0, .ref (h 4))]) 9 (fun v2 ls => F0 m 14 ls [.int v2]) ?_ ?_
  · intro v2 ls H locs ev2 hl hP hD hS
    try dsimp only at hl hP hD ⊢
    refine lv_istore_n (lv' := [(1, .int v2), (0, .ref (h 4))]) hx hb dX1_multiply_14 rfl hl (by decide) rfl (fun ls hl => ?_)
    refine lv_aload_n hx hb dX1_multiply_15 rfl (lv_at hl 1 rfl) ?_
    refine va_get (D := (dC, dI)) (ci := 1) (v := .int σ.2.2.2.2.2.2.2.2.2) (C := RX1) (T := TX1) (N := 6) hx hb hts (fun _ h9 => List.mem_cons_of_mem _ (List.mem_append_right _ h9)) hown hK hP 4 rfl rfl 5 (by decide) (hts (.fieldLink RX1 25 "LowPowerCpu$Multiplier" "way" "I") (by decide +kernel)) (fun _ h9 => h9) rfl dX1_multiply_16 ?_
    refine lv_iconst (v := 2) hx hb dX1_multiply_19 (by decide) ?_
    refine lv_iand hx hb dX1_multiply_20 ?_
    refine wj (α := Int32) (D := (dC, dI)) (cl := vwCl) (A := AX 5 h s.heap.size) (H0 := s.heap) (if (σ.2.2.2.2.2.2.2.2.2 &&& (2 : Int32)) = 0 then 0 else 1) (fun v4 => wsC h k σ) (fun v4 => [(1, .int v2), (0, .ref (h 4))]) 9 (fun v4 ls => F0 m 29 ls [.int v4]) ?_ ?_
    · intro v4 ls H locs ev4 hl hP hD hS
      try dsimp only at hl hP hD ⊢
      refine lv_istore_n (lv' := [(2, .int v4), (1, .int v2), (0, .ref (h 4))]) hx hb dX1_multiply_29 rfl hl (by decide) rfl (fun ls hl => ?_)
      refine lv_iload_n hx hb dX1_multiply_30 rfl (lv_at hl 1 rfl) ?_
      refine wj (α := Int64) (D := (dC, dI)) (cl := vwCl) (A := AX 5 h s.heap.size) (H0 := s.heap) (if v2 = 0 then σ.2.2.2.2.1.toInt64 * σ.2.2.2.2.2.1.toInt64 else σ.2.2.2.2.1.toInt16.toInt32.toInt64 * σ.2.2.2.2.2.1.toInt16.toInt32.toInt64) (fun v6 => wsC h k σ) (fun v6 => [(2, .int v4), (1, .int v2), (0, .ref (h 4))]) 9 (fun v6 ls => F0 m 61 ls [.long v6]) ?_ ?_
      · intro v6 ls H locs ev6 hl hP hD hS
        try dsimp only at hl hP hD ⊢
        refine lv_lstore_n (lv' := [(3, .long v6), (2, .int v4), (1, .int v2), (0, .ref (h 4))]) hx hb dX1_multiply_61 rfl hl (by decide) rfl (fun ls hl => ?_)
        refine lv_iload_n hx hb dX1_multiply_62 rfl (lv_at hl 1 rfl) ?_
        refine wj (α := Int64) (D := (dC, dI)) (cl := vwCl) (A := AX 5 h s.heap.size) (H0 := s.heap) (if v4 = 0 then 0 else (σ.2.2.2.2.2.2.2.1.toInt64 <<< ((16 : Int32).toInt64 &&& 63)) ||| σ.2.2.2.2.2.2.1.toInt64) (fun v8 => wsC h k σ) (fun v8 => [(3, .long v6), (2, .int v4), (1, .int v2), (0, .ref (h 4))]) 9 (fun v8 ls => F0 m 84 ls [.long v8]) ?_ ?_
        · intro v8 ls H locs ev8 hl hP hD hS
          try dsimp only at hl hP hD ⊢
          refine lv_lstore (lv' := [(5, .long v8), (3, .long v6), (2, .int v4), (1, .int v2), (0, .ref (h 4))]) hx hb dX1_multiply_84 hl (by decide) rfl (fun ls hl => ?_)
          refine lv_lload hx hb dX1_multiply_86 (lv_at hl 0 rfl) ?_
          refine lv_lload_n hx hb dX1_multiply_88 rfl (lv_at hl 1 rfl) ?_
          refine lv_ladd hx hb dX1_multiply_89 ?_
          refine lv_topl (fun x9 ex9 => ?_)
          refine lv_lstore (lv' := [(7, .long x9), (5, .long v8), (3, .long v6), (2, .int v4), (1, .int v2), (0, .ref (h 4))]) hx hb dX1_multiply_90 hl (by decide) rfl (fun ls hl => ?_)
          refine lv_aload_n hx hb dX1_multiply_92 rfl (lv_at hl 5 rfl) ?_
          refine lv_lload hx hb dX1_multiply_93 (lv_at hl 0 rfl) ?_
          refine lv_bipush (v := 16) hx hb dX1_multiply_95 (by decide) ?_
          refine lv_lshr hx hb dX1_multiply_97 rfl ?_
          refine lv_l2i hx hb dX1_multiply_98 rfl ?_
          refine lv_ldc (v := 65535) hx hb hown (hts (.constant RX1 35 65535) (by decide +kernel)) dX1_multiply_99 ?_
          refine lv_iand hx hb dX1_multiply_101 ?_
          refine lv_topi (fun x10 ex10 => ?_)
          refine va_put (D := (dC, dI)) (ci := 1) (v := .int x10) (ty := .int) (C := RX1) (T := TX1) (N := 6) hx hb hts (fun _ h9 => List.mem_cons_of_mem _ (List.mem_append_right _ h9)) tyX1 tyX1_ok nmX1 hown hK hP hD hS 4 rfl rfl 3 (by decide) (hts (.fieldLink RX1 19 "LowPowerCpu$Multiplier" "high" "I") (by decide +kernel)) (fun _ h9 => h9) rfl (by decide +kernel) rfl rfl (Nat.le_of_ble_eq_true rfl) dX1_multiply_102 (fun H locs hP hD hS => ?_)
          have hP : va_P (dC, dI) vwCl (wsC h k (σ.1, σ.2.1, σ.2.2.1, σ.2.2.2.1, σ.2.2.2.2.1, σ.2.2.2.2.2.1, σ.2.2.2.2.2.2.1, x10, σ.2.2.2.2.2.2.2.2.1, σ.2.2.2.2.2.2.2.2.2)) H := hP
          have hD : va_D (AX 5 h s.heap.size) (wsC h k (σ.1, σ.2.1, σ.2.2.1, σ.2.2.2.1, σ.2.2.2.2.1, σ.2.2.2.2.2.1, σ.2.2.2.2.2.2.1, x10, σ.2.2.2.2.2.2.2.2.1, σ.2.2.2.2.2.2.2.2.2)) := hD
          refine lv_aload_n hx hb dX1_multiply_105 rfl (lv_at hl 5 rfl) ?_
          refine lv_lload hx hb dX1_multiply_106 (lv_at hl 0 rfl) ?_
          refine lv_l2i hx hb dX1_multiply_108 rfl ?_
          refine lv_ldc (v := 65535) hx hb hown (hts (.constant RX1 35 65535) (by decide +kernel)) dX1_multiply_109 ?_
          refine lv_iand hx hb dX1_multiply_111 ?_
          refine lv_topi (fun x11 ex11 => ?_)
          refine va_put (D := (dC, dI)) (ci := 1) (v := .int x11) (ty := .int) (C := RX1) (T := TX1) (N := 6) hx hb hts (fun _ h9 => List.mem_cons_of_mem _ (List.mem_append_right _ h9)) tyX1 tyX1_ok nmX1 hown hK hP hD hS 4 rfl rfl 2 (by decide) (hts (.fieldLink RX1 16 "LowPowerCpu$Multiplier" "low" "I") (by decide +kernel)) (fun _ h9 => h9) rfl (by decide +kernel) rfl rfl (Nat.le_of_ble_eq_true rfl) dX1_multiply_112 (fun H locs hP hD hS => ?_)
          have hP : va_P (dC, dI) vwCl (wsC h k (σ.1, σ.2.1, σ.2.2.1, σ.2.2.2.1, σ.2.2.2.2.1, σ.2.2.2.2.2.1, x11, x10, σ.2.2.2.2.2.2.2.2.1, σ.2.2.2.2.2.2.2.2.2)) H := hP
          have hD : va_D (AX 5 h s.heap.size) (wsC h k (σ.1, σ.2.1, σ.2.2.1, σ.2.2.2.1, σ.2.2.2.2.1, σ.2.2.2.2.2.1, x11, x10, σ.2.2.2.2.2.2.2.2.1, σ.2.2.2.2.2.2.2.2.2)) := hD
          refine lv_iload_n hx hb dX1_multiply_115 rfl (lv_at hl 4 rfl) ?_
          refine lv_if_eq (tgt := 142) hx hb dX1_multiply_116 (by decide) (fun c12 => ?_) (fun c12 => ?_)
          · refine lv_aload_n hx hb dX1_multiply_142 rfl (lv_at hl 5 rfl) ?_
            refine lv_lload hx hb dX1_multiply_143 (lv_at hl 0 rfl) ?_
            refine lv_ldc2 (v := 4294967295) hx hb hown (hts (.constantLong RX1 37 4294967295) (by decide +kernel)) dX1_multiply_145 ?_
            refine W.lcmp hx hb dX1_multiply_148 ?_
            refine wj (α := Int32) (D := (dC, dI)) (cl := vwCl) (A := AX 5 h s.heap.size) (H0 := s.heap) (if (lg_cmp x9 4294967295) ≤ 0 then 0 else 1) (fun v14 => wsC h k (σ.1, σ.2.1, σ.2.2.1, σ.2.2.2.1, σ.2.2.2.2.1, σ.2.2.2.2.2.1, x11, x10, σ.2.2.2.2.2.2.2.2.1, σ.2.2.2.2.2.2.2.2.2)) (fun v14 => [(7, .long x9), (5, .long v8), (3, .long v6), (2, .int v4), (1, .int v2), (0, .ref (h 4))]) 9 (fun v14 ls => F0 m 157 ls [.int v14, .ref (h 4)]) ?_ ?_
            · intro v14 ls H locs ev14 hl hP hD hS
              try dsimp only at hl hP hD ⊢
              refine va_put (D := (dC, dI)) (ci := 1) (v := .int v14) (ty := .int) (C := RX1) (T := TX1) (N := 6) hx hb hts (fun _ h9 => List.mem_cons_of_mem _ (List.mem_append_right _ h9)) tyX1 tyX1_ok nmX1 hown hK hP hD hS 4 rfl rfl 4 (by decide) (hts (.fieldLink RX1 22 "LowPowerCpu$Multiplier" "extra" "I") (by decide +kernel)) (fun _ h9 => h9) rfl (by decide +kernel) rfl rfl (Nat.le_of_ble_eq_true rfl) dX1_multiply_157 (fun H locs hP hD hS => ?_)
              have hP : va_P (dC, dI) vwCl (wsC h k (σ.1, σ.2.1, σ.2.2.1, σ.2.2.2.1, σ.2.2.2.2.1, σ.2.2.2.2.2.1, x11, x10, v14, σ.2.2.2.2.2.2.2.2.2)) H := hP
              have hD : va_D (AX 5 h s.heap.size) (wsC h k (σ.1, σ.2.1, σ.2.2.1, σ.2.2.2.1, σ.2.2.2.2.1, σ.2.2.2.2.2.1, x11, x10, v14, σ.2.2.2.2.2.2.2.2.2)) := hD
              exact retC_v hx hb hr hlocks (by subst ev14; subst ex11; subst ex10; subst ex9; subst ev8; subst ev6; subst ev4; subst ev2; exact if_pos c12) hP hD hS dX1_multiply_160
            · intro J
              refine lv_if_le (tgt := 156) hx hb dX1_multiply_149 (by decide) (fun c13 => ?_) (fun c13 => ?_)
              · refine lv_iconst (v := 0) hx hb dX1_multiply_156 (by decide) ?_
                exact J (0) ls _ _ (by exact (if_pos c13).symm) (lv_sub hl [0, 1, 2, 3, 4, 5] rfl) hP hD hS
              · refine lv_iconst (v := 1) hx hb dX1_multiply_152 (by decide) ?_
                refine lv_goto (tgt := 157) hx hb dX1_multiply_153 (by decide) ?_
                exact J (1) ls _ _ (by exact (if_neg c13).symm) (lv_sub hl [0, 1, 2, 3, 4, 5] rfl) hP hD hS
          · refine lv_aload_n hx hb dX1_multiply_119 rfl (lv_at hl 5 rfl) ?_
            refine lv_aload_n hx hb dX1_multiply_120 rfl (lv_at hl 5 rfl) ?_
            refine va_get (D := (dC, dI)) (ci := 1) (v := .int x10) (C := RX1) (T := TX1) (N := 6) hx hb hts (fun _ h9 => List.mem_cons_of_mem _ (List.mem_append_right _ h9)) hown hK hP 4 rfl rfl 3 (by decide) (hts (.fieldLink RX1 19 "LowPowerCpu$Multiplier" "high" "I") (by decide +kernel)) (fun _ h9 => h9) rfl dX1_multiply_121 ?_
            refine lv_ldc (v := 32768) hx hb hown (hts (.constant RX1 36 32768) (by decide +kernel)) dX1_multiply_124 ?_
            refine lv_iand hx hb dX1_multiply_126 ?_
            refine wj (α := Int32) (D := (dC, dI)) (cl := vwCl) (A := AX 5 h s.heap.size) (H0 := s.heap) (if (x10 &&& (32768 : Int32)) = 0 then 0 else 65535) (fun v16 => wsC h k (σ.1, σ.2.1, σ.2.2.1, σ.2.2.2.1, σ.2.2.2.2.1, σ.2.2.2.2.2.1, x11, x10, σ.2.2.2.2.2.2.2.2.1, σ.2.2.2.2.2.2.2.2.2)) (fun v16 => [(7, .long x9), (5, .long v8), (3, .long v6), (2, .int v4), (1, .int v2), (0, .ref (h 4))]) 9 (fun v16 ls => F0 m 136 ls [.int v16, .ref (h 4)]) ?_ ?_
            · intro v16 ls H locs ev16 hl hP hD hS
              try dsimp only at hl hP hD ⊢
              refine va_put (D := (dC, dI)) (ci := 1) (v := .int v16) (ty := .int) (C := RX1) (T := TX1) (N := 6) hx hb hts (fun _ h9 => List.mem_cons_of_mem _ (List.mem_append_right _ h9)) tyX1 tyX1_ok nmX1 hown hK hP hD hS 4 rfl rfl 4 (by decide) (hts (.fieldLink RX1 22 "LowPowerCpu$Multiplier" "extra" "I") (by decide +kernel)) (fun _ h9 => h9) rfl (by decide +kernel) rfl rfl (Nat.le_of_ble_eq_true rfl) dX1_multiply_136 (fun H locs hP hD hS => ?_)
              have hP : va_P (dC, dI) vwCl (wsC h k (σ.1, σ.2.1, σ.2.2.1, σ.2.2.2.1, σ.2.2.2.2.1, σ.2.2.2.2.2.1, x11, x10, v16, σ.2.2.2.2.2.2.2.2.2)) H := hP
              have hD : va_D (AX 5 h s.heap.size) (wsC h k (σ.1, σ.2.1, σ.2.2.1, σ.2.2.2.1, σ.2.2.2.2.1, σ.2.2.2.2.2.1, x11, x10, v16, σ.2.2.2.2.2.2.2.2.2)) := hD
              refine lv_goto (tgt := 160) hx hb dX1_multiply_139 (by decide) ?_
              exact retC_v hx hb hr hlocks (by subst ev16; subst ex11; subst ex10; subst ex9; subst ev8; subst ev6; subst ev4; subst ev2; exact if_neg c12) hP hD hS dX1_multiply_160
            · intro J
              refine lv_if_eq (tgt := 135) hx hb dX1_multiply_127 (by decide) (fun c15 => ?_) (fun c15 => ?_)
              · refine lv_iconst (v := 0) hx hb dX1_multiply_135 (by decide) ?_
                exact J (0) ls _ _ (by exact (if_pos c15).symm) (lv_sub hl [0, 1, 2, 3, 4, 5] rfl) hP hD hS
              · refine lv_ldc (v := 65535) hx hb hown (hts (.constant RX1 35 65535) (by decide +kernel)) dX1_multiply_130 ?_
                refine lv_goto (tgt := 136) hx hb dX1_multiply_132 (by decide) ?_
                exact J (65535) ls _ _ (by exact (if_neg c15).symm) (lv_sub hl [0, 1, 2, 3, 4, 5] rfl) hP hD hS
        · intro J
          refine lv_if_eq (tgt := 83) hx hb dX1_multiply_63 (by decide) (fun c7 => ?_) (fun c7 => ?_)
          · refine lv_lconst (v := 0) hx hb dX1_multiply_83 (by decide) ?_
            exact J (0) ls _ _ (by exact (if_pos c7).symm) (lv_sub hl [0, 1, 2, 3] rfl) hP hD hS
          · refine lv_aload_n hx hb dX1_multiply_66 rfl (lv_at hl 3 rfl) ?_
            refine va_get (D := (dC, dI)) (ci := 1) (v := .int σ.2.2.2.2.2.2.2.1) (C := RX1) (T := TX1) (N := 6) hx hb hts (fun _ h9 => List.mem_cons_of_mem _ (List.mem_append_right _ h9)) hown hK hP 4 rfl rfl 3 (by decide) (hts (.fieldLink RX1 19 "LowPowerCpu$Multiplier" "high" "I") (by decide +kernel)) (fun _ h9 => h9) rfl dX1_multiply_67 ?_
            refine lv_i2l hx hb dX1_multiply_70 rfl ?_
            refine lv_bipush (v := 16) hx hb dX1_multiply_71 (by decide) ?_
            refine lv_lshl hx hb dX1_multiply_73 rfl ?_
            refine lv_aload_n hx hb dX1_multiply_74 rfl (lv_at hl 3 rfl) ?_
            refine va_get (D := (dC, dI)) (ci := 1) (v := .int σ.2.2.2.2.2.2.1) (C := RX1) (T := TX1) (N := 6) hx hb hts (fun _ h9 => List.mem_cons_of_mem _ (List.mem_append_right _ h9)) hown hK hP 4 rfl rfl 2 (by decide) (hts (.fieldLink RX1 16 "LowPowerCpu$Multiplier" "low" "I") (by decide +kernel)) (fun _ h9 => h9) rfl dX1_multiply_75 ?_
            refine lv_i2l hx hb dX1_multiply_78 rfl ?_
            refine lv_lor hx hb dX1_multiply_79 ?_
            refine lv_goto (tgt := 84) hx hb dX1_multiply_80 (by decide) ?_
            exact J ((σ.2.2.2.2.2.2.2.1.toInt64 <<< ((16 : Int32).toInt64 &&& 63)) ||| σ.2.2.2.2.2.2.1.toInt64) ls _ _ (by exact (if_neg c7).symm) (lv_sub hl [0, 1, 2, 3] rfl) hP hD hS
      · intro J
        refine lv_if_eq (tgt := 50) hx hb dX1_multiply_31 (by decide) (fun c5 => ?_) (fun c5 => ?_)
        · refine lv_aload_n hx hb dX1_multiply_50 rfl (lv_at hl 2 rfl) ?_
          refine va_get (D := (dC, dI)) (ci := 1) (v := .int σ.2.2.2.2.1) (C := RX1) (T := TX1) (N := 6) hx hb hts (fun _ h9 => List.mem_cons_of_mem _ (List.mem_append_right _ h9)) hown hK hP 4 rfl rfl 0 (by decide) (hts (.fieldLink RX1 7 "LowPowerCpu$Multiplier" "one" "I") (by decide +kernel)) (fun _ h9 => h9) rfl dX1_multiply_51 ?_
          refine lv_i2l hx hb dX1_multiply_54 rfl ?_
          refine lv_aload_n hx hb dX1_multiply_55 rfl (lv_at hl 2 rfl) ?_
          refine va_get (D := (dC, dI)) (ci := 1) (v := .int σ.2.2.2.2.2.1) (C := RX1) (T := TX1) (N := 6) hx hb hts (fun _ h9 => List.mem_cons_of_mem _ (List.mem_append_right _ h9)) hown hK hP 4 rfl rfl 1 (by decide) (hts (.fieldLink RX1 13 "LowPowerCpu$Multiplier" "two" "I") (by decide +kernel)) (fun _ h9 => h9) rfl dX1_multiply_56 ?_
          refine lv_i2l hx hb dX1_multiply_59 rfl ?_
          refine lv_lmul hx hb dX1_multiply_60 ?_
          exact J (σ.2.2.2.2.1.toInt64 * σ.2.2.2.2.2.1.toInt64) ls _ _ (by exact (if_pos c5).symm) (lv_sub hl [0, 1, 2] rfl) hP hD hS
        · refine lv_aload_n hx hb dX1_multiply_34 rfl (lv_at hl 2 rfl) ?_
          refine va_get (D := (dC, dI)) (ci := 1) (v := .int σ.2.2.2.2.1) (C := RX1) (T := TX1) (N := 6) hx hb hts (fun _ h9 => List.mem_cons_of_mem _ (List.mem_append_right _ h9)) hown hK hP 4 rfl rfl 0 (by decide) (hts (.fieldLink RX1 7 "LowPowerCpu$Multiplier" "one" "I") (by decide +kernel)) (fun _ h9 => h9) rfl dX1_multiply_35 ?_
          refine lv_i2s hx hb dX1_multiply_38 rfl ?_
          refine lv_i2l hx hb dX1_multiply_39 rfl ?_
          refine lv_aload_n hx hb dX1_multiply_40 rfl (lv_at hl 2 rfl) ?_
          refine va_get (D := (dC, dI)) (ci := 1) (v := .int σ.2.2.2.2.2.1) (C := RX1) (T := TX1) (N := 6) hx hb hts (fun _ h9 => List.mem_cons_of_mem _ (List.mem_append_right _ h9)) hown hK hP 4 rfl rfl 1 (by decide) (hts (.fieldLink RX1 13 "LowPowerCpu$Multiplier" "two" "I") (by decide +kernel)) (fun _ h9 => h9) rfl dX1_multiply_41 ?_
          refine lv_i2s hx hb dX1_multiply_44 rfl ?_
          refine lv_i2l hx hb dX1_multiply_45 rfl ?_
          refine lv_lmul hx hb dX1_multiply_46 ?_
          refine lv_goto (tgt := 61) hx hb dX1_multiply_47 (by decide) ?_
          exact J (σ.2.2.2.2.1.toInt16.toInt32.toInt64 * σ.2.2.2.2.2.1.toInt16.toInt32.toInt64) ls _ _ (by exact (if_neg c5).symm) (lv_sub hl [0, 1, 2] rfl) hP hD hS
    · intro J
      refine lv_if_eq (tgt := 28) hx hb dX1_multiply_21 (by decide) (fun c3 => ?_) (fun c3 => ?_)
      · refine lv_iconst (v := 0) hx hb dX1_multiply_28 (by decide) ?_
        exact J (0) ls _ _ (by exact (if_pos c3).symm) (lv_sub hl [0, 1] rfl) hP hD hS
      · refine lv_iconst (v := 1) hx hb dX1_multiply_24 (by decide) ?_
        refine lv_goto (tgt := 29) hx hb dX1_multiply_25 (by decide) ?_
        exact J (1) ls _ _ (by exact (if_neg c3).symm) (lv_sub hl [0, 1] rfl) hP hD hS
  · intro J
    refine lv_if_eq (tgt := 13) hx hb dX1_multiply_6 (by decide) (fun c1 => ?_) (fun c1 => ?_)
    · refine lv_iconst (v := 0) hx hb dX1_multiply_13 (by decide) ?_
      exact J (0) ls _ _ (by exact (if_pos c1).symm) (lv_sub hl [0] rfl) hP hD hS
    · refine lv_iconst (v := 1) hx hb dX1_multiply_9 (by decide) ?_
      refine lv_goto (tgt := 14) hx hb dX1_multiply_10 (by decide) ?_
      exact J (1) ls _ _ (by exact (if_neg c1).symm) (lv_sub hl [0] rfl) hP hD hS

set_option maxHeartbeats 4000000 in
set_option maxRecDepth 100000 in
theorem c_X1_write (l : Launch) (dC : Nat → ClassId) (dI : Nat → Nat → Nat) (h : Nat → Nat) (k : Nat → ClassId) (g : Nat → Nat) (sz : Nat) (σ : StC) (a1 : Int32) (a2 : Int32) : Met l yX1_write wsX1_write ({ frames := 1, cells := 0, slots := 0, locals := 28 }) (PcC (dC, dI) h k g [.ref (h 4), .int a1, .int a2] sz σ) (va_Qv (fun u => u = f_X1_write σ a1 a2) (BC (dC, dI) h k (AX 5 h sz)) (AX 5 h sz)) 0 0 (AX 5 h sz) := by
  refine Met.ofW (cc := cX1_write) (maxL := 3) (ret := none) (by decide) rfl ?_
  intro p e s m args below meth c s₁ B hml hv
  obtain ⟨rfl, rfl, hP, hct, hD⟩ := hv
  have hx := B.exec
  have hb := B.bytes
  have hr := B.returns
  have hts := atoms_spec (ws := wsX1_write) B.pre
  have hown : s.vm.findClass RX1 = some m.cls := findClass_of_methodNamed B.named
  have hlocks := B.notSynchronized
  have hK := hct.1
  have hN := hct.2.1
  have hS : va_S (AX 5 h s.heap.size) s.heap s.heap [] := va_S.rf
  have hl := lv_entry ([.ref (h 4), .int a1, .int a2]) (n := 3) (Nat.le_of_ble_eq_true rfl)
  rw [lg_entry_eq]
  generalize (lg_sl ([.ref (h 4), .int a1, .int a2]) ++ List.replicate (3 - (lg_sl ([.ref (h 4), .int a1, .int a2])).length) Slot.unset).toArray = ls at hl ⊢
  have hl : lv_has ls 3 [(0, .ref (h 4)), (1, .int a1), (2, .int a2)] := hl
  refine lv_iload_n hx hb dX1_write_0 rfl (lv_at hl 1 rfl) ?_
  refine lv_bipush (v := 7) hx hb dX1_write_1 (by decide) ?_
  refine lv_icmp_ne (tgt := 7) hx hb dX1_write_3 (by decide) (fun c1 => ?_) (fun c1 => ?_)
  · refine lv_aload_n hx hb dX1_write_7 rfl (lv_at hl 0 rfl) ?_
    refine lv_iload_n hx hb dX1_write_8 rfl (lv_at hl 1 rfl) ?_
    refine lv_iload_n hx hb dX1_write_9 rfl (lv_at hl 2 rfl) ?_
    refine callC_v (va_runV (As := [.int a1, .int a2]) (rest := []) ⟨hx, hb, hml, hown, hts⟩ (c_X1_placeWordAtSlot l dC dI h k g _ σ a1 a2) (cwV 2 hts gX1_write_X1_placeWordAtSlot rfl rfl rfl (by decide +kernel) ⟨Nat.le_of_ble_eq_true rfl, Nat.le_of_ble_eq_true rfl⟩) (preC_V (ci := 1) (q0 := 4) hct hP hD hS rfl rfl) rfl rfl hl.1 rfl (lv_room (Nat.le_of_ble_eq_true rfl)) dX1_write_10 ⟨Nat.le_of_ble_eq_true rfl, Nat.le_of_ble_eq_true rfl⟩) hS (fun σ2 H locs eσ2 hP hD hS => ?_)
    refine lv_iload_n hx hb dX1_write_13 rfl (lv_at hl 1 rfl) ?_
    refine lv_iconst (v := 4) hx hb dX1_write_14 (by decide) ?_
    refine lv_icmp_ge (tgt := 26) hx hb dX1_write_15 (by decide) (fun c3 => ?_) (fun c3 => ?_)
    · refine lv_iload_n hx hb dX1_write_26 rfl (lv_at hl 1 rfl) ?_
      refine lv_iconst (v := 4) hx hb dX1_write_27 (by decide) ?_
      refine lv_icmp_ne (tgt := 35) hx hb dX1_write_28 (by decide) (fun c4 => ?_) (fun c4 => ?_)
      · exact retC_v hx hb hr hlocks (by subst eσ2; exact (if_neg c1).trans ((if_pos c3).trans (if_neg c4))) hP hD hS dX1_write_35
      · refine lv_aload_n hx hb dX1_write_31 rfl (lv_at hl 0 rfl) ?_
        refine callC_v (va_runV (As := []) (rest := []) ⟨hx, hb, hml, hown, hts⟩ (c_X1_multiply l dC dI h k g _ σ2 ) (cwV 0 hts gX1_write_X1_multiply rfl rfl rfl (by decide +kernel) ⟨Nat.le_of_ble_eq_true rfl, Nat.le_of_ble_eq_true rfl⟩) (preC_V (ci := 1) (q0 := 4) hct hP hD hS rfl rfl) rfl rfl hl.1 rfl (lv_room (Nat.le_of_ble_eq_true rfl)) dX1_write_32 ⟨Nat.le_of_ble_eq_true rfl, Nat.le_of_ble_eq_true rfl⟩) hS (fun σ5 H locs eσ5 hP hD hS => ?_)
        exact retC_v hx hb hr hlocks (by subst eσ5; subst eσ2; exact (if_neg c1).trans ((if_pos c3).trans (if_pos c4))) hP hD hS dX1_write_35
    · refine lv_aload_n hx hb dX1_write_18 rfl (lv_at hl 0 rfl) ?_
      refine lv_iload_n hx hb dX1_write_19 rfl (lv_at hl 1 rfl) ?_
      refine va_put (D := (dC, dI)) (ci := 1) (v := .int a1) (ty := .int) (C := RX1) (T := TX1) (N := 6) hx hb hts (fun _ h9 => List.mem_cons_of_mem _ (List.mem_append_right _ h9)) tyX1 tyX1_ok nmX1 hown hK hP hD hS 4 rfl rfl 5 (by decide) (hts (.fieldLink RX1 25 "LowPowerCpu$Multiplier" "way" "I") (by decide +kernel)) (fun _ h9 => h9) rfl (by decide +kernel) rfl rfl (Nat.le_of_ble_eq_true rfl) dX1_write_20 (fun H locs hP hD hS => ?_)
      have hP : va_P (dC, dI) vwCl (wsC h k (σ2.1, σ2.2.1, σ2.2.2.1, σ2.2.2.2.1, σ2.2.2.2.2.1, σ2.2.2.2.2.2.1, σ2.2.2.2.2.2.2.1, σ2.2.2.2.2.2.2.2.1, σ2.2.2.2.2.2.2.2.2.1, a1)) H := hP
      have hD : va_D (AX 5 h s.heap.size) (wsC h k (σ2.1, σ2.2.1, σ2.2.2.1, σ2.2.2.2.1, σ2.2.2.2.2.1, σ2.2.2.2.2.2.1, σ2.2.2.2.2.2.2.1, σ2.2.2.2.2.2.2.2.1, σ2.2.2.2.2.2.2.2.2.1, a1)) := hD
      refine lv_goto (tgt := 35) hx hb dX1_write_23 (by decide) ?_
      exact retC_v hx hb hr hlocks (by subst eσ2; exact (if_neg c1).trans (if_neg c3)) hP hD hS dX1_write_35
  · exact retC_v hx hb hr hlocks (by exact if_pos c1) hP hD hS dX1_write_6

set_option maxHeartbeats 4000000 in
set_option maxRecDepth 100000 in
theorem c_X1_clear (l : Launch) (dC : Nat → ClassId) (dI : Nat → Nat → Nat) (h : Nat → Nat) (k : Nat → ClassId) (g : Nat → Nat) (sz : Nat) (σ : StC) : Met l yX1_clear wsX1_clear ({ frames := 0, cells := 0, slots := 0, locals := 0 }) (PcC (dC, dI) h k g [.ref (h 4)] sz σ) (va_Qv (fun u => u = f_X1_clear σ) (BC (dC, dI) h k (AX 5 h sz)) (AX 5 h sz)) 0 0 (AX 5 h sz) := by
  refine Met.ofW (cc := cX1_clear) (maxL := 1) (ret := none) (by decide) rfl ?_
  intro p e s m args below meth c s₁ B hml hv
  obtain ⟨rfl, rfl, hP, hct, hD⟩ := hv
  have hx := B.exec
  have hb := B.bytes
  have hr := B.returns
  have hts := atoms_spec (ws := wsX1_clear) B.pre
  have hown : s.vm.findClass RX1 = some m.cls := findClass_of_methodNamed B.named
  have hlocks := B.notSynchronized
  have hK := hct.1
  have hN := hct.2.1
  have hS : va_S (AX 5 h s.heap.size) s.heap s.heap [] := va_S.rf
  have hl := lv_entry ([.ref (h 4)]) (n := 1) (Nat.le_of_ble_eq_true rfl)
  rw [lg_entry_eq]
  generalize (lg_sl ([.ref (h 4)]) ++ List.replicate (1 - (lg_sl ([.ref (h 4)])).length) Slot.unset).toArray = ls at hl ⊢
  have hl : lv_has ls 1 [(0, .ref (h 4))] := hl
  refine lv_aload_n hx hb dX1_clear_0 rfl (lv_at hl 0 rfl) ?_
  refine lv_iconst (v := 0) hx hb dX1_clear_1 (by decide) ?_
  refine va_put (D := (dC, dI)) (ci := 1) (v := .int 0) (ty := .int) (C := RX1) (T := TX1) (N := 6) hx hb hts (fun _ h9 => List.mem_cons_of_mem _ (List.mem_append_right _ h9)) tyX1 tyX1_ok nmX1 hown hK hP hD hS 4 rfl rfl 0 (by decide) (hts (.fieldLink RX1 7 "LowPowerCpu$Multiplier" "one" "I") (by decide +kernel)) (fun _ h9 => h9) rfl (by decide +kernel) rfl rfl (Nat.le_of_ble_eq_true rfl) dX1_clear_2 (fun H locs hP hD hS => ?_)
  have hP : va_P (dC, dI) vwCl (wsC h k (σ.1, σ.2.1, σ.2.2.1, σ.2.2.2.1, 0, σ.2.2.2.2.2.1, σ.2.2.2.2.2.2.1, σ.2.2.2.2.2.2.2.1, σ.2.2.2.2.2.2.2.2.1, σ.2.2.2.2.2.2.2.2.2)) H := hP
  have hD : va_D (AX 5 h s.heap.size) (wsC h k (σ.1, σ.2.1, σ.2.2.1, σ.2.2.2.1, 0, σ.2.2.2.2.2.1, σ.2.2.2.2.2.2.1, σ.2.2.2.2.2.2.2.1, σ.2.2.2.2.2.2.2.2.1, σ.2.2.2.2.2.2.2.2.2)) := hD
  refine lv_aload_n hx hb dX1_clear_5 rfl (lv_at hl 0 rfl) ?_
  refine lv_iconst (v := 0) hx hb dX1_clear_6 (by decide) ?_
  refine va_put (D := (dC, dI)) (ci := 1) (v := .int 0) (ty := .int) (C := RX1) (T := TX1) (N := 6) hx hb hts (fun _ h9 => List.mem_cons_of_mem _ (List.mem_append_right _ h9)) tyX1 tyX1_ok nmX1 hown hK hP hD hS 4 rfl rfl 1 (by decide) (hts (.fieldLink RX1 13 "LowPowerCpu$Multiplier" "two" "I") (by decide +kernel)) (fun _ h9 => h9) rfl (by decide +kernel) rfl rfl (Nat.le_of_ble_eq_true rfl) dX1_clear_7 (fun H locs hP hD hS => ?_)
  have hP : va_P (dC, dI) vwCl (wsC h k (σ.1, σ.2.1, σ.2.2.1, σ.2.2.2.1, 0, 0, σ.2.2.2.2.2.2.1, σ.2.2.2.2.2.2.2.1, σ.2.2.2.2.2.2.2.2.1, σ.2.2.2.2.2.2.2.2.2)) H := hP
  have hD : va_D (AX 5 h s.heap.size) (wsC h k (σ.1, σ.2.1, σ.2.2.1, σ.2.2.2.1, 0, 0, σ.2.2.2.2.2.2.1, σ.2.2.2.2.2.2.2.1, σ.2.2.2.2.2.2.2.2.1, σ.2.2.2.2.2.2.2.2.2)) := hD
  refine lv_aload_n hx hb dX1_clear_10 rfl (lv_at hl 0 rfl) ?_
  refine lv_iconst (v := 0) hx hb dX1_clear_11 (by decide) ?_
  refine va_put (D := (dC, dI)) (ci := 1) (v := .int 0) (ty := .int) (C := RX1) (T := TX1) (N := 6) hx hb hts (fun _ h9 => List.mem_cons_of_mem _ (List.mem_append_right _ h9)) tyX1 tyX1_ok nmX1 hown hK hP hD hS 4 rfl rfl 2 (by decide) (hts (.fieldLink RX1 16 "LowPowerCpu$Multiplier" "low" "I") (by decide +kernel)) (fun _ h9 => h9) rfl (by decide +kernel) rfl rfl (Nat.le_of_ble_eq_true rfl) dX1_clear_12 (fun H locs hP hD hS => ?_)
  have hP : va_P (dC, dI) vwCl (wsC h k (σ.1, σ.2.1, σ.2.2.1, σ.2.2.2.1, 0, 0, 0, σ.2.2.2.2.2.2.2.1, σ.2.2.2.2.2.2.2.2.1, σ.2.2.2.2.2.2.2.2.2)) H := hP
  have hD : va_D (AX 5 h s.heap.size) (wsC h k (σ.1, σ.2.1, σ.2.2.1, σ.2.2.2.1, 0, 0, 0, σ.2.2.2.2.2.2.2.1, σ.2.2.2.2.2.2.2.2.1, σ.2.2.2.2.2.2.2.2.2)) := hD
  refine lv_aload_n hx hb dX1_clear_15 rfl (lv_at hl 0 rfl) ?_
  refine lv_iconst (v := 0) hx hb dX1_clear_16 (by decide) ?_
  refine va_put (D := (dC, dI)) (ci := 1) (v := .int 0) (ty := .int) (C := RX1) (T := TX1) (N := 6) hx hb hts (fun _ h9 => List.mem_cons_of_mem _ (List.mem_append_right _ h9)) tyX1 tyX1_ok nmX1 hown hK hP hD hS 4 rfl rfl 3 (by decide) (hts (.fieldLink RX1 19 "LowPowerCpu$Multiplier" "high" "I") (by decide +kernel)) (fun _ h9 => h9) rfl (by decide +kernel) rfl rfl (Nat.le_of_ble_eq_true rfl) dX1_clear_17 (fun H locs hP hD hS => ?_)
  have hP : va_P (dC, dI) vwCl (wsC h k (σ.1, σ.2.1, σ.2.2.1, σ.2.2.2.1, 0, 0, 0, 0, σ.2.2.2.2.2.2.2.2.1, σ.2.2.2.2.2.2.2.2.2)) H := hP
  have hD : va_D (AX 5 h s.heap.size) (wsC h k (σ.1, σ.2.1, σ.2.2.1, σ.2.2.2.1, 0, 0, 0, 0, σ.2.2.2.2.2.2.2.2.1, σ.2.2.2.2.2.2.2.2.2)) := hD
  refine lv_aload_n hx hb dX1_clear_20 rfl (lv_at hl 0 rfl) ?_
  refine lv_iconst (v := 0) hx hb dX1_clear_21 (by decide) ?_
  refine va_put (D := (dC, dI)) (ci := 1) (v := .int 0) (ty := .int) (C := RX1) (T := TX1) (N := 6) hx hb hts (fun _ h9 => List.mem_cons_of_mem _ (List.mem_append_right _ h9)) tyX1 tyX1_ok nmX1 hown hK hP hD hS 4 rfl rfl 4 (by decide) (hts (.fieldLink RX1 22 "LowPowerCpu$Multiplier" "extra" "I") (by decide +kernel)) (fun _ h9 => h9) rfl (by decide +kernel) rfl rfl (Nat.le_of_ble_eq_true rfl) dX1_clear_22 (fun H locs hP hD hS => ?_)
  have hP : va_P (dC, dI) vwCl (wsC h k (σ.1, σ.2.1, σ.2.2.1, σ.2.2.2.1, 0, 0, 0, 0, 0, σ.2.2.2.2.2.2.2.2.2)) H := hP
  have hD : va_D (AX 5 h s.heap.size) (wsC h k (σ.1, σ.2.1, σ.2.2.1, σ.2.2.2.1, 0, 0, 0, 0, 0, σ.2.2.2.2.2.2.2.2.2)) := hD
  refine lv_aload_n hx hb dX1_clear_25 rfl (lv_at hl 0 rfl) ?_
  refine lv_iconst (v := 0) hx hb dX1_clear_26 (by decide) ?_
  refine va_put (D := (dC, dI)) (ci := 1) (v := .int 0) (ty := .int) (C := RX1) (T := TX1) (N := 6) hx hb hts (fun _ h9 => List.mem_cons_of_mem _ (List.mem_append_right _ h9)) tyX1 tyX1_ok nmX1 hown hK hP hD hS 4 rfl rfl 5 (by decide) (hts (.fieldLink RX1 25 "LowPowerCpu$Multiplier" "way" "I") (by decide +kernel)) (fun _ h9 => h9) rfl (by decide +kernel) rfl rfl (Nat.le_of_ble_eq_true rfl) dX1_clear_27 (fun H locs hP hD hS => ?_)
  have hP : va_P (dC, dI) vwCl (wsC h k (σ.1, σ.2.1, σ.2.2.1, σ.2.2.2.1, 0, 0, 0, 0, 0, 0)) H := hP
  have hD : va_D (AX 5 h s.heap.size) (wsC h k (σ.1, σ.2.1, σ.2.2.1, σ.2.2.2.1, 0, 0, 0, 0, 0, 0)) := hD
  exact retC_v hx hb hr hlocks (by exact rfl) hP hD hS dX1_clear_30
