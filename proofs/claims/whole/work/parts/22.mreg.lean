set_option maxHeartbeats 4000000 in
set_option maxRecDepth 100000 in
theorem c_X3_setRegister (l : Launch) (dC : Nat → ClassId) (dI : Nat → Nat → Nat) (h : Nat → Nat) (k : Nat → ClassId) (sz : Nat) (σ : StR) (a1 : Int32) (a2 : Int32) (ha1 : vp_in a1 16) : Met l yX3_setRegister wsX3_setRegister ({ frames := 0, cells := 0, slots := 0, locals := 0 }) (PcR (dC, dI) h k [.ref (h 0), .int a1, .int a2] sz σ) (va_Qv (fun u => u = f_X3_setRegister σ a1 a2) (BR (dC, dI) h k (AX 4 h sz)) (AX 4 h sz)) 0 0 (AX 4 h sz) := by
  refine Met.ofW (cc := cX3_setRegister) (maxL := 3) (ret := none) (by decide) rfl ?_
  intro p e s m args below meth c s₁ B hml hv
  obtain ⟨rfl, rfl, hP, hct, hD⟩ := hv
  have hx := B.exec
  have hb := B.bytes
  have hr := B.returns
  have hts := atoms_spec (ws := wsX3_setRegister) B.pre
  have hown : s.vm.findClass RX3 = some m.cls := findClass_of_methodNamed B.named
  have hlocks := B.notSynchronized
  have hK := hct.1
  have hS : va_S (AX 4 h s.heap.size) s.heap s.heap [] := va_S.rf
  have hl := lv_entry ([.ref (h 0), .int a1, .int a2]) (n := 3) (Nat.le_of_ble_eq_true rfl)
  rw [lg_entry_eq]
  generalize (lg_sl ([.ref (h 0), .int a1, .int a2]) ++ List.replicate (3 - (lg_sl ([.ref (h 0), .int a1, .int a2])).length) Slot.unset).toArray = ls at hl ⊢
  have hl : lv_has ls 3 [(0, .ref (h 0)), (1, .int a1), (2, .int a2)] := hl
  refine lv_iload_n hx hb dX3_setRegister_0 rfl (lv_at hl 1 rfl) ?_
  refine lv_iconst (v := 3) hx hb dX3_setRegister_1 (by decide) ?_
  refine lv_icmp_eq (tgt := 26) hx hb dX3_setRegister_2 (by decide) (fun c1 => ?_) (fun c1 => ?_)
  · exact retR_v hx hb hr hlocks (by exact if_pos c1) hP hD hS dX3_setRegister_26
  · refine lv_aload_n hx hb dX3_setRegister_5 rfl (lv_at hl 0 rfl) ?_
    refine va_get (D := (dC, dI)) (ci := 3) (v := .ref (h 2)) (C := RX3) (T := TX3) (N := 9) hx hb hts (fun _ h9 => List.mem_cons_of_mem _ (List.mem_append_right _ h9)) hown hK hP 0 rfl rfl 1 (by decide) (hts (.fieldLink RX3 14 "LowPowerCpuModel" "\x72" "[I") (by decide +kernel)) (fun _ h9 => h9) rfl dX3_setRegister_6 ?_
    refine lv_iload_n hx hb dX3_setRegister_9 rfl (lv_at hl 1 rfl) ?_
    refine lv_iload_n hx hb dX3_setRegister_10 rfl (lv_at hl 1 rfl) ?_
    refine wj (α := Int32) (D := (dC, dI)) (cl := vwCl) (A := AX 4 h s.heap.size) (H0 := s.heap) (if a1 = 0 then a2 &&& (65534 : Int32) else a2 &&& (65535 : Int32)) (fun v3 => wsR h k σ) (fun v3 => [(0, .ref (h 0)), (1, .int a1), (2, .int a2)]) 3 (fun v3 ls => F0 m 25 ls [.int v3, .int a1, .ref (h 2)]) ?_ ?_
    · intro v3 ls H locs ev3 hl hP hD hS
      try dsimp only at hl hP hD ⊢
      refine va_iast hx hb hK hP hD hS 2 0 rfl rfl ha1 dX3_setRegister_25 (fun H locs hP hD hS => ?_)
      have hP : va_P (dC, dI) vwCl (wsR h k (σ.1, upd σ.2.1 a1.toNatClampNeg v3, σ.2.2.1, σ.2.2.2.1, σ.2.2.2.2.1, σ.2.2.2.2.2.1, σ.2.2.2.2.2.2.1, σ.2.2.2.2.2.2.2.1, σ.2.2.2.2.2.2.2.2)) H := hP
      have hD : va_D (AX 4 h s.heap.size) (wsR h k (σ.1, upd σ.2.1 a1.toNatClampNeg v3, σ.2.2.1, σ.2.2.2.1, σ.2.2.2.2.1, σ.2.2.2.2.2.1, σ.2.2.2.2.2.2.1, σ.2.2.2.2.2.2.2.1, σ.2.2.2.2.2.2.2.2)) := hD
      exact retR_v hx hb hr hlocks (by subst ev3; exact if_neg c1) hP hD hS dX3_setRegister_26
    · intro J
      refine lv_if_ne (tgt := 21) hx hb dX3_setRegister_11 (by decide) (fun c2 => ?_) (fun c2 => ?_)
      · refine lv_iload_n hx hb dX3_setRegister_21 rfl (lv_at hl 2 rfl) ?_
        refine lv_ldc (v := 65535) hx hb hown (hts (.constant RX3 50 65535) (by decide +kernel)) dX3_setRegister_22 ?_
        refine lv_iand hx hb dX3_setRegister_24 ?_
        exact J (a2 &&& (65535 : Int32)) ls _ _ (by exact (if_neg c2).symm) (lv_sub hl [0, 1, 2] rfl) hP hD hS
      · refine lv_iload_n hx hb dX3_setRegister_14 rfl (lv_at hl 2 rfl) ?_
        refine lv_ldc (v := 65534) hx hb hown (hts (.constant RX3 34 65534) (by decide +kernel)) dX3_setRegister_15 ?_
        refine lv_iand hx hb dX3_setRegister_17 ?_
        refine lv_goto (tgt := 25) hx hb dX3_setRegister_18 (by decide) ?_
        exact J (a2 &&& (65534 : Int32)) ls _ _ (by exact (if_pos c2).symm) (lv_sub hl [0, 1, 2] rfl) hP hD hS

set_option maxHeartbeats 4000000 in
set_option maxRecDepth 100000 in
theorem c_X3_write (l : Launch) (dC : Nat → ClassId) (dI : Nat → Nat → Nat) (h : Nat → Nat) (k : Nat → ClassId) (sz : Nat) (σ : StR) (a1 : Int32) (a2 : Int32) (ha1 : vp_in a1 131072) : Met l yX3_write wsX3_write ({ frames := 3, cells := 0, slots := 0, locals := 74 }) (PcR (dC, dI) h k [.ref (h 0), .int a1, .int a2] sz σ) (va_Qv (fun u => u = f_X3_write σ a1 a2) (BR (dC, dI) h k (AX 4 h sz)) (AX 4 h sz)) 0 0 (AX 4 h sz) := by
  refine Met.ofW (cc := cX3_write) (maxL := 3) (ret := none) (by decide) rfl ?_
  intro p e s m args below meth c s₁ B hml hv
  obtain ⟨rfl, rfl, hP, hct, hD⟩ := hv
  have hx := B.exec
  have hb := B.bytes
  have hr := B.returns
  have hts := atoms_spec (ws := wsX3_write) B.pre
  have hown : s.vm.findClass RX3 = some m.cls := findClass_of_methodNamed B.named
  have hlocks := B.notSynchronized
  have hK := hct.1
  have hS : va_S (AX 4 h s.heap.size) s.heap s.heap [] := va_S.rf
  have hl := lv_entry ([.ref (h 0), .int a1, .int a2]) (n := 3) (Nat.le_of_ble_eq_true rfl)
  rw [lg_entry_eq]
  generalize (lg_sl ([.ref (h 0), .int a1, .int a2]) ++ List.replicate (3 - (lg_sl ([.ref (h 0), .int a1, .int a2])).length) Slot.unset).toArray = ls at hl ⊢
  have hl : lv_has ls 3 [(0, .ref (h 0)), (1, .int a1), (2, .int a2)] := hl
  refine lv_iload_n hx hb dX3_write_0 rfl (lv_at hl 1 rfl) ?_
  refine lv_bipush (v := 16) hx hb dX3_write_1 (by decide) ?_
  refine lv_icmp_ge (tgt := 15) hx hb dX3_write_3 (by decide) (fun c1 => ?_) (fun c1 => ?_)
  · refine lv_iload_n hx hb dX3_write_15 rfl (lv_at hl 1 rfl) ?_
    refine lv_ldc (v := 65536) hx hb hown (hts (.constant RX3 73 65536) (by decide +kernel)) dX3_write_16 ?_
    refine lv_icmp_lt (tgt := 40) hx hb dX3_write_18 (by decide) (fun c2 => ?_) (fun c2 => ?_)
    · refine lv_iload_n hx hb dX3_write_40 rfl (lv_at hl 1 rfl) ?_
      refine lv_ldc (v := 65536) hx hb hown (hts (.constant RX3 73 65536) (by decide +kernel)) dX3_write_41 ?_
      refine lv_icmp_lt (tgt := 55) hx hb dX3_write_43 (by decide) (fun _ => ?_) (fun c3 => absurd c2 c3)
      exact retR_v hx hb hr hlocks (by exact (if_pos c1).trans (if_pos c2)) hP hD hS dX3_write_55
    · refine lv_aload_n hx hb dX3_write_21 rfl (lv_at hl 0 rfl) ?_
      refine va_get (D := (dC, dI)) (ci := 3) (v := .int σ.2.2.2.2.2.2.2.2) (C := RX3) (T := TX3) (N := 9) hx hb hts (fun _ h9 => List.mem_cons_of_mem _ (List.mem_append_right _ h9)) hown hK hP 0 rfl rfl 8 (by decide) (hts (.fieldLink RX3 51 "LowPowerCpuModel" "bytes" "Z") (by decide +kernel)) (fun _ h9 => h9) rfl dX3_write_22 ?_
      refine lv_if_eq (tgt := 40) hx hb dX3_write_25 (by decide) (fun c4 => ?_) (fun c4 => ?_)
      · refine lv_iload_n hx hb dX3_write_40 rfl (lv_at hl 1 rfl) ?_
        refine lv_ldc (v := 65536) hx hb hown (hts (.constant RX3 73 65536) (by decide +kernel)) dX3_write_41 ?_
        refine lv_icmp_lt (tgt := 55) hx hb dX3_write_43 (by decide) (fun c5 => absurd c5 c2) (fun _ => ?_)
        refine lv_aload_n hx hb dX3_write_46 rfl (lv_at hl 0 rfl) ?_
        refine lv_iload_n hx hb dX3_write_47 rfl (lv_at hl 1 rfl) ?_
        refine lv_ldc (v := 65536) hx hb hown (hts (.constant RX3 73 65536) (by decide +kernel)) dX3_write_48 ?_
        refine lv_isub hx hb dX3_write_50 ?_
        refine lv_iload_n hx hb dX3_write_51 rfl (lv_at hl 2 rfl) ?_
        refine callR_v (va_runV (As := [.int (a1 - (65536 : Int32)), .int a2]) (rest := []) ⟨hx, hb, hml, hown, hts⟩ (c_X3_setWord l dC dI h k _ σ (a1 - (65536 : Int32)) a2 (wr_in2 ha1 c2)) (cwV 2 hts gX3_write_X3_setWord rfl rfl rfl (by decide +kernel) ⟨Nat.le_of_ble_eq_true rfl, Nat.le_of_ble_eq_true rfl⟩) (preR_V (ci := 3) (q0 := 0) hct hP hD hS rfl rfl) rfl rfl hl.1 rfl (lv_room (Nat.le_of_ble_eq_true rfl)) dX3_write_52 ⟨Nat.le_of_ble_eq_true rfl, Nat.le_of_ble_eq_true rfl⟩) hS (fun σ6 H locs eσ6 hP hD hS => ?_)
        exact retR_v hx hb hr hlocks (by subst eσ6; exact (if_pos c1).trans ((if_neg c2).trans (if_pos c4))) hP hD hS dX3_write_55
      · refine lv_aload_n hx hb dX3_write_28 rfl (lv_at hl 0 rfl) ?_
        refine lv_iload_n hx hb dX3_write_29 rfl (lv_at hl 1 rfl) ?_
        refine lv_ldc (v := 65536) hx hb hown (hts (.constant RX3 73 65536) (by decide +kernel)) dX3_write_30 ?_
        refine lv_isub hx hb dX3_write_32 ?_
        refine lv_iload_n hx hb dX3_write_33 rfl (lv_at hl 2 rfl) ?_
        refine callR_v (va_runV (As := [.int (a1 - (65536 : Int32)), .int a2]) (rest := []) ⟨hx, hb, hml, hown, hts⟩ (c_X3_setByte l dC dI h k _ σ (a1 - (65536 : Int32)) a2 (wr_in2 ha1 c2)) (cwV 2 hts gX3_write_X3_setByte rfl rfl rfl (by decide +kernel) ⟨Nat.le_of_ble_eq_true rfl, Nat.le_of_ble_eq_true rfl⟩) (preR_V (ci := 3) (q0 := 0) hct hP hD hS rfl rfl) rfl rfl hl.1 rfl (lv_room (Nat.le_of_ble_eq_true rfl)) dX3_write_34 ⟨Nat.le_of_ble_eq_true rfl, Nat.le_of_ble_eq_true rfl⟩) hS (fun σ7 H locs eσ7 hP hD hS => ?_)
        refine lv_goto (tgt := 55) hx hb dX3_write_37 (by decide) ?_
        exact retR_v hx hb hr hlocks (by subst eσ7; exact (if_pos c1).trans ((if_neg c2).trans (if_neg c4))) hP hD hS dX3_write_55
  · refine lv_aload_n hx hb dX3_write_6 rfl (lv_at hl 0 rfl) ?_
    refine lv_iload_n hx hb dX3_write_7 rfl (lv_at hl 1 rfl) ?_
    refine lv_iload_n hx hb dX3_write_8 rfl (lv_at hl 2 rfl) ?_
    refine callR_v (va_runV (As := [.int a1, .int a2]) (rest := []) ⟨hx, hb, hml, hown, hts⟩ (c_X3_setRegister l dC dI h k _ σ a1 a2 (wr_in1 ha1 c1)) (cwV 2 hts gX3_write_X3_setRegister rfl rfl rfl (by decide +kernel) ⟨Nat.le_of_ble_eq_true rfl, Nat.le_of_ble_eq_true rfl⟩) (preR_V (ci := 3) (q0 := 0) hct hP hD hS rfl rfl) rfl rfl hl.1 rfl (lv_room (Nat.le_of_ble_eq_true rfl)) dX3_write_9 ⟨Nat.le_of_ble_eq_true rfl, Nat.le_of_ble_eq_true rfl⟩) hS (fun σ8 H locs eσ8 hP hD hS => ?_)
    refine lv_goto (tgt := 55) hx hb dX3_write_12 (by decide) ?_
    exact retR_v hx hb hr hlocks (by subst eσ8; exact if_neg c1) hP hD hS dX3_write_55

set_option maxHeartbeats 4000000 in
set_option maxRecDepth 100000 in
theorem c_X3_spend (l : Launch) (dC : Nat → ClassId) (dI : Nat → Nat → Nat) (h : Nat → Nat) (k : Nat → ClassId) (sz : Nat) (σ : StR) (a1 : Int32) : Met l yX3_spend wsX3_spend ({ frames := 0, cells := 0, slots := 0, locals := 0 }) (PcR (dC, dI) h k [.ref (h 0), .int a1] sz σ) (va_Qv (fun u => u = f_X3_spend σ a1) (BR (dC, dI) h k (AX 4 h sz)) (AX 4 h sz)) 0 0 (AX 4 h sz) := by
  refine Met.ofW (cc := cX3_spend) (maxL := 2) (ret := none) (by decide) rfl ?_
  intro p e s m args below meth c s₁ B hml hv
  obtain ⟨rfl, rfl, hP, hct, hD⟩ := hv
  have hx := B.exec
  have hb := B.bytes
  have hr := B.returns
  have hts := atoms_spec (ws := wsX3_spend) B.pre
  have hown : s.vm.findClass RX3 = some m.cls := findClass_of_methodNamed B.named
  have hlocks := B.notSynchronized
  have hK := hct.1
  have hS : va_S (AX 4 h s.heap.size) s.heap s.heap [] := va_S.rf
  have hl := lv_entry ([.ref (h 0), .int a1]) (n := 2) (Nat.le_of_ble_eq_true rfl)
  rw [lg_entry_eq]
  generalize (lg_sl ([.ref (h 0), .int a1]) ++ List.replicate (2 - (lg_sl ([.ref (h 0), .int a1])).length) Slot.unset).toArray = ls at hl ⊢
  have hl : lv_has ls 2 [(0, .ref (h 0)), (1, .int a1)] := hl
  refine lv_aload_n hx hb dX3_spend_0 rfl (lv_at hl 0 rfl) ?_
  refine lv_aload_n hx hb dX3_spend_1 rfl (lv_at hl 0 rfl) ?_
  refine va_get (D := (dC, dI)) (ci := 3) (v := .int σ.2.2.2.2.2.1) (C := RX3) (T := TX3) (N := 9) hx hb hts (fun _ h9 => List.mem_cons_of_mem _ (List.mem_append_right _ h9)) hown hK hP 0 rfl rfl 5 (by decide) (hts (.fieldLink RX3 31 "LowPowerCpuModel" "cycles" "I") (by decide +kernel)) (fun _ h9 => h9) rfl dX3_spend_2 ?_
  refine lv_iload_n hx hb dX3_spend_5 rfl (lv_at hl 1 rfl) ?_
  refine lv_iadd hx hb dX3_spend_6 ?_
  refine lv_ldc (v := 1073741823) hx hb hown (hts (.constant RX3 106 1073741823) (by decide +kernel)) dX3_spend_7 ?_
  refine lv_iand hx hb dX3_spend_9 ?_
  refine lv_topi (fun x1 ex1 => ?_)
  refine va_put (D := (dC, dI)) (ci := 3) (v := .int x1) (ty := .int) (C := RX3) (T := TX3) (N := 9) hx hb hts (fun _ h9 => List.mem_cons_of_mem _ (List.mem_append_right _ h9)) tyX3 tyX3_ok nmX3 hown hK hP hD hS 0 rfl rfl 5 (by decide) (hts (.fieldLink RX3 31 "LowPowerCpuModel" "cycles" "I") (by decide +kernel)) (fun _ h9 => h9) rfl (by decide +kernel) rfl rfl (Nat.le_of_ble_eq_true rfl) dX3_spend_10 (fun H locs hP hD hS => ?_)
  have hP : va_P (dC, dI) vwCl (wsR h k (σ.1, σ.2.1, σ.2.2.1, σ.2.2.2.1, σ.2.2.2.2.1, x1, σ.2.2.2.2.2.2.1, σ.2.2.2.2.2.2.2.1, σ.2.2.2.2.2.2.2.2)) H := hP
  have hD : va_D (AX 4 h s.heap.size) (wsR h k (σ.1, σ.2.1, σ.2.2.1, σ.2.2.2.1, σ.2.2.2.2.1, x1, σ.2.2.2.2.2.2.1, σ.2.2.2.2.2.2.2.1, σ.2.2.2.2.2.2.2.2)) := hD
  exact retR_v hx hb hr hlocks (by subst ex1; exact rfl) hP hD hS dX3_spend_13

set_option maxHeartbeats 4000000 in
set_option maxRecDepth 100000 in
theorem c_X3_flag (l : Launch) (dC : Nat → ClassId) (dI : Nat → Nat → Nat) (h : Nat → Nat) (k : Nat → ClassId) (sz : Nat) (σ : StR) (a1 : Int32) : Met l yX3_flag wsX3_flag ({ frames := 0, cells := 0, slots := 0, locals := 0 }) (PcR (dC, dI) h k [.ref (h 0), .int a1] sz σ) (va_Qi (fun r u => (r, u) = (f_X3_flag σ a1, σ)) (BR (dC, dI) h k (AX 4 h sz)) (AX 4 h sz)) 0 0 (AX 4 h sz) := by
  refine Met.ofW (cc := cX3_flag) (maxL := 2) (ret := (some .int)) (by decide) rfl ?_
  intro p e s m args below meth c s₁ B hml hv
  obtain ⟨rfl, rfl, hP, hct, hD⟩ := hv
  have hx := B.exec
  have hb := B.bytes
  have hr := B.returns
  have hts := atoms_spec (ws := wsX3_flag) B.pre
  have hown : s.vm.findClass RX3 = some m.cls := findClass_of_methodNamed B.named
  have hlocks := B.notSynchronized
  have hK := hct.1
  have hS : va_S (AX 4 h s.heap.size) s.heap s.heap [] := va_S.rf
  have hl := lv_entry ([.ref (h 0), .int a1]) (n := 2) (Nat.le_of_ble_eq_true rfl)
  rw [lg_entry_eq]
  generalize (lg_sl ([.ref (h 0), .int a1]) ++ List.replicate (2 - (lg_sl ([.ref (h 0), .int a1])).length) Slot.unset).toArray = ls at hl ⊢
  have hl : lv_has ls 2 [(0, .ref (h 0)), (1, .int a1)] := hl
  refine lv_aload_n hx hb dX3_flag_0 rfl (lv_at hl 0 rfl) ?_
  refine va_get (D := (dC, dI)) (ci := 3) (v := .ref (h 2)) (C := RX3) (T := TX3) (N := 9) hx hb hts (fun _ h9 => List.mem_cons_of_mem _ (List.mem_append_right _ h9)) hown hK hP 0 rfl rfl 1 (by decide) (hts (.fieldLink RX3 14 "LowPowerCpuModel" "\x72" "[I") (by decide +kernel)) (fun _ h9 => h9) rfl dX3_flag_1 ?_
  refine lv_iconst (v := 2) hx hb dX3_flag_4 (by decide) ?_
  refine va_iald hx hb hK hP 2 0 rfl rfl (in_c (by decide)) dX3_flag_5 ?_
  refine lv_iload_n hx hb dX3_flag_6 rfl (lv_at hl 1 rfl) ?_
  refine lv_iand hx hb dX3_flag_7 ?_
  refine lv_if_eq (tgt := 15) hx hb dX3_flag_8 (by decide) (fun c1 => ?_) (fun c1 => ?_)
  · refine lv_iconst (v := 0) hx hb dX3_flag_15 (by decide) ?_
    exact retR_ip hx hb hr hlocks (by exact if_pos c1) hP hD hS dX3_flag_16
  · refine lv_iconst (v := 1) hx hb dX3_flag_11 (by decide) ?_
    refine lv_goto (tgt := 16) hx hb dX3_flag_12 (by decide) ?_
    exact retR_ip hx hb hr hlocks (by exact if_neg c1) hP hD hS dX3_flag_16

set_option maxHeartbeats 4000000 in
set_option maxRecDepth 100000 in
theorem c_X3_setFlag (l : Launch) (dC : Nat → ClassId) (dI : Nat → Nat → Nat) (h : Nat → Nat) (k : Nat → ClassId) (sz : Nat) (σ : StR) (a1 : Int32) (a2 : Int32) : Met l yX3_setFlag wsX3_setFlag ({ frames := 0, cells := 0, slots := 0, locals := 0 }) (PcR (dC, dI) h k [.ref (h 0), .int a1, .int a2] sz σ) (va_Qv (fun u => u = f_X3_setFlag σ a1 a2) (BR (dC, dI) h k (AX 4 h sz)) (AX 4 h sz)) 0 0 (AX 4 h sz) := by
  refine Met.ofW (cc := cX3_setFlag) (maxL := 3) (ret := none) (by decide) rfl ?_
  intro p e s m args below meth c s₁ B hml hv
  obtain ⟨rfl, rfl, hP, hct, hD⟩ := hv
  have hx := B.exec
  have hb := B.bytes
  have hr := B.returns
  have hts := atoms_spec (ws := wsX3_setFlag) B.pre
  have hown : s.vm.findClass RX3 = some m.cls := findClass_of_methodNamed B.named
  have hlocks := B.notSynchronized
  have hK := hct.1
  have hS : va_S (AX 4 h s.heap.size) s.heap s.heap [] := va_S.rf
  have hl := lv_entry ([.ref (h 0), .int a1, .int a2]) (n := 3) (Nat.le_of_ble_eq_true rfl)
  rw [lg_entry_eq]
  generalize (lg_sl ([.ref (h 0), .int a1, .int a2]) ++ List.replicate (3 - (lg_sl ([.ref (h 0), .int a1, .int a2])).length) Slot.unset).toArray = ls at hl ⊢
  have hl : lv_has ls 3 [(0, .ref (h 0)), (1, .int a1), (2, .int a2)] := hl
  refine lv_aload_n hx hb dX3_setFlag_0 rfl (lv_at hl 0 rfl) ?_
  refine va_get (D := (dC, dI)) (ci := 3) (v := .ref (h 2)) (C := RX3) (T := TX3) (N := 9) hx hb hts (fun _ h9 => List.mem_cons_of_mem _ (List.mem_append_right _ h9)) hown hK hP 0 rfl rfl 1 (by decide) (hts (.fieldLink RX3 14 "LowPowerCpuModel" "\x72" "[I") (by decide +kernel)) (fun _ h9 => h9) rfl dX3_setFlag_1 ?_
  refine lv_iconst (v := 2) hx hb dX3_setFlag_4 (by decide) ?_
  refine lv_iload_n hx hb dX3_setFlag_5 rfl (lv_at hl 2 rfl) ?_
  refine wj (α := Int32) (D := (dC, dI)) (cl := vwCl) (A := AX 4 h s.heap.size) (H0 := s.heap) (if a2 = 0 then (σ.2.1 (2 : Int32).toNatClampNeg) &&& (a1 ^^^ ((-1) : Int32)) else (σ.2.1 (2 : Int32).toNatClampNeg) ||| a1) (fun v2 => wsR h k σ) (fun v2 => [(0, .ref (h 0)), (1, .int a1), (2, .int a2)]) 3 (fun v2 ls => F0 m 30 ls [.int v2, .int 2, .ref (h 2)]) ?_ ?_
  · intro v2 ls H locs ev2 hl hP hD hS
    try dsimp only at hl hP hD ⊢
    refine va_iast hx hb hK hP hD hS 2 0 rfl rfl (in_c (by decide)) dX3_setFlag_30 (fun H locs hP hD hS => ?_)
    have hP : va_P (dC, dI) vwCl (wsR h k (σ.1, upd σ.2.1 ((2 : Int32).toNatClampNeg) v2, σ.2.2.1, σ.2.2.2.1, σ.2.2.2.2.1, σ.2.2.2.2.2.1, σ.2.2.2.2.2.2.1, σ.2.2.2.2.2.2.2.1, σ.2.2.2.2.2.2.2.2)) H := hP
    have hD : va_D (AX 4 h s.heap.size) (wsR h k (σ.1, upd σ.2.1 ((2 : Int32).toNatClampNeg) v2, σ.2.2.1, σ.2.2.2.1, σ.2.2.2.2.1, σ.2.2.2.2.2.1, σ.2.2.2.2.2.2.1, σ.2.2.2.2.2.2.2.1, σ.2.2.2.2.2.2.2.2)) := hD
    exact retR_v hx hb hr hlocks (by subst ev2; exact rfl) hP hD hS dX3_setFlag_31
  · intro J
    refine lv_if_eq (tgt := 20) hx hb dX3_setFlag_6 (by decide) (fun c1 => ?_) (fun c1 => ?_)
    · refine lv_aload_n hx hb dX3_setFlag_20 rfl (lv_at hl 0 rfl) ?_
      refine va_get (D := (dC, dI)) (ci := 3) (v := .ref (h 2)) (C := RX3) (T := TX3) (N := 9) hx hb hts (fun _ h9 => List.mem_cons_of_mem _ (List.mem_append_right _ h9)) hown hK hP 0 rfl rfl 1 (by decide) (hts (.fieldLink RX3 14 "LowPowerCpuModel" "\x72" "[I") (by decide +kernel)) (fun _ h9 => h9) rfl dX3_setFlag_21 ?_
      refine lv_iconst (v := 2) hx hb dX3_setFlag_24 (by decide) ?_
      refine va_iald hx hb hK hP 2 0 rfl rfl (in_c (by decide)) dX3_setFlag_25 ?_
      refine lv_iload_n hx hb dX3_setFlag_26 rfl (lv_at hl 1 rfl) ?_
      refine lv_iconst (v := (-1)) hx hb dX3_setFlag_27 (by decide) ?_
      refine lv_ixor hx hb dX3_setFlag_28 ?_
      refine lv_iand hx hb dX3_setFlag_29 ?_
      exact J ((σ.2.1 (2 : Int32).toNatClampNeg) &&& (a1 ^^^ ((-1) : Int32))) ls _ _ (by exact (if_pos c1).symm) (lv_sub hl [0, 1, 2] rfl) hP hD hS
    · refine lv_aload_n hx hb dX3_setFlag_9 rfl (lv_at hl 0 rfl) ?_
      refine va_get (D := (dC, dI)) (ci := 3) (v := .ref (h 2)) (C := RX3) (T := TX3) (N := 9) hx hb hts (fun _ h9 => List.mem_cons_of_mem _ (List.mem_append_right _ h9)) hown hK hP 0 rfl rfl 1 (by decide) (hts (.fieldLink RX3 14 "LowPowerCpuModel" "\x72" "[I") (by decide +kernel)) (fun _ h9 => h9) rfl dX3_setFlag_10 ?_
      refine lv_iconst (v := 2) hx hb dX3_setFlag_13 (by decide) ?_
      refine va_iald hx hb hK hP 2 0 rfl rfl (in_c (by decide)) dX3_setFlag_14 ?_
      refine lv_iload_n hx hb dX3_setFlag_15 rfl (lv_at hl 1 rfl) ?_
      refine lv_ior hx hb dX3_setFlag_16 ?_
      refine lv_goto (tgt := 30) hx hb dX3_setFlag_17 (by decide) ?_
      exact J ((σ.2.1 (2 : Int32).toNatClampNeg) ||| a1) ls _ _ (by exact (if_neg c1).symm) (lv_sub hl [0, 1, 2] rfl) hP hD hS

set_option maxHeartbeats 4000000 in
set_option maxRecDepth 100000 in
theorem c_X3_high (l : Launch) (dC : Nat → ClassId) (dI : Nat → Nat → Nat) (h : Nat → Nat) (k : Nat → ClassId) (sz : Nat) (σ : StR) : Met l yX3_high wsX3_high ({ frames := 0, cells := 0, slots := 0, locals := 0 }) (PcR (dC, dI) h k [.ref (h 0)] sz σ) (va_Qi (fun r u => (r, u) = (f_X3_high σ, σ)) (BR (dC, dI) h k (AX 4 h sz)) (AX 4 h sz)) 0 0 (AX 4 h sz) := by
  refine Met.ofW (cc := cX3_high) (maxL := 1) (ret := (some .int)) (by decide) rfl ?_
  intro p e s m args below meth c s₁ B hml hv
  obtain ⟨rfl, rfl, hP, hct, hD⟩ := hv
  have hx := B.exec
  have hb := B.bytes
  have hr := B.returns
  have hts := atoms_spec (ws := wsX3_high) B.pre
  have hown : s.vm.findClass RX3 = some m.cls := findClass_of_methodNamed B.named
  have hlocks := B.notSynchronized
  have hK := hct.1
  have hS : va_S (AX 4 h s.heap.size) s.heap s.heap [] := va_S.rf
  have hl := lv_entry ([.ref (h 0)]) (n := 1) (Nat.le_of_ble_eq_true rfl)
  rw [lg_entry_eq]
  generalize (lg_sl ([.ref (h 0)]) ++ List.replicate (1 - (lg_sl ([.ref (h 0)])).length) Slot.unset).toArray = ls at hl ⊢
  have hl : lv_has ls 1 [(0, .ref (h 0))] := hl
  refine lv_aload_n hx hb dX3_high_0 rfl (lv_at hl 0 rfl) ?_
  refine va_get (D := (dC, dI)) (ci := 3) (v := .int σ.2.2.2.2.2.2.2.2) (C := RX3) (T := TX3) (N := 9) hx hb hts (fun _ h9 => List.mem_cons_of_mem _ (List.mem_append_right _ h9)) hown hK hP 0 rfl rfl 8 (by decide) (hts (.fieldLink RX3 51 "LowPowerCpuModel" "bytes" "Z") (by decide +kernel)) (fun _ h9 => h9) rfl dX3_high_1 ?_
  refine lv_if_eq (tgt := 13) hx hb dX3_high_4 (by decide) (fun c1 => ?_) (fun c1 => ?_)
  · refine lv_ldc (v := 32768) hx hb hown (hts (.constant RX3 7 32768) (by decide +kernel)) dX3_high_13 ?_
    exact retR_ip hx hb hr hlocks (by exact if_pos c1) hP hD hS dX3_high_15
  · refine lv_sipush (v := 128) hx hb dX3_high_7 (by decide) ?_
    refine lv_goto (tgt := 15) hx hb dX3_high_10 (by decide) ?_
    exact retR_ip hx hb hr hlocks (by exact if_neg c1) hP hD hS dX3_high_15

set_option maxHeartbeats 4000000 in
set_option maxRecDepth 100000 in
theorem c_X3_all (l : Launch) (dC : Nat → ClassId) (dI : Nat → Nat → Nat) (h : Nat → Nat) (k : Nat → ClassId) (sz : Nat) (σ : StR) : Met l yX3_all wsX3_all ({ frames := 0, cells := 0, slots := 0, locals := 0 }) (PcR (dC, dI) h k [.ref (h 0)] sz σ) (va_Qi (fun r u => (r, u) = (f_X3_all σ, σ)) (BR (dC, dI) h k (AX 4 h sz)) (AX 4 h sz)) 0 0 (AX 4 h sz) := by
  refine Met.ofW (cc := cX3_all) (maxL := 1) (ret := (some .int)) (by decide) rfl ?_
  intro p e s m args below meth c s₁ B hml hv
  obtain ⟨rfl, rfl, hP, hct, hD⟩ := hv
  have hx := B.exec
  have hb := B.bytes
  have hr := B.returns
  have hts := atoms_spec (ws := wsX3_all) B.pre
  have hown : s.vm.findClass RX3 = some m.cls := findClass_of_methodNamed B.named
  have hlocks := B.notSynchronized
  have hK := hct.1
  have hS : va_S (AX 4 h s.heap.size) s.heap s.heap [] := va_S.rf
  have hl := lv_entry ([.ref (h 0)]) (n := 1) (Nat.le_of_ble_eq_true rfl)
  rw [lg_entry_eq]
  generalize (lg_sl ([.ref (h 0)]) ++ List.replicate (1 - (lg_sl ([.ref (h 0)])).length) Slot.unset).toArray = ls at hl ⊢
  have hl : lv_has ls 1 [(0, .ref (h 0))] := hl
  refine lv_aload_n hx hb dX3_all_0 rfl (lv_at hl 0 rfl) ?_
  refine va_get (D := (dC, dI)) (ci := 3) (v := .int σ.2.2.2.2.2.2.2.2) (C := RX3) (T := TX3) (N := 9) hx hb hts (fun _ h9 => List.mem_cons_of_mem _ (List.mem_append_right _ h9)) hown hK hP 0 rfl rfl 8 (by decide) (hts (.fieldLink RX3 51 "LowPowerCpuModel" "bytes" "Z") (by decide +kernel)) (fun _ h9 => h9) rfl dX3_all_1 ?_
  refine lv_if_eq (tgt := 13) hx hb dX3_all_4 (by decide) (fun c1 => ?_) (fun c1 => ?_)
  · refine lv_ldc (v := 65535) hx hb hown (hts (.constant RX3 50 65535) (by decide +kernel)) dX3_all_13 ?_
    exact retR_ip hx hb hr hlocks (by exact if_pos c1) hP hD hS dX3_all_15
  · refine lv_sipush (v := 255) hx hb dX3_all_7 (by decide) ?_
    refine lv_goto (tgt := 15) hx hb dX3_all_10 (by decide) ?_
    exact retR_ip hx hb hr hlocks (by exact if_neg c1) hP hD hS dX3_all_15

set_option maxHeartbeats 4000000 in
set_option maxRecDepth 100000 in
theorem c_X3_flags (l : Launch) (dC : Nat → ClassId) (dI : Nat → Nat → Nat) (h : Nat → Nat) (k : Nat → ClassId) (sz : Nat) (σ : StR) (a1 : Int32) (a2 : Int32) (a3 : Int32) : Met l yX3_flags wsX3_flags ({ frames := 1, cells := 0, slots := 0, locals := 22 }) (PcR (dC, dI) h k [.ref (h 0), .int a1, .int a2, .int a3] sz σ) (va_Qv (fun u => u = f_X3_flags σ a1 a2 a3) (BR (dC, dI) h k (AX 4 h sz)) (AX 4 h sz)) 0 0 (AX 4 h sz) := by
  refine Met.ofW (cc := cX3_flags) (maxL := 4) (ret := none) (by decide) rfl ?_
  intro p e s m args below meth c s₁ B hml hv
  obtain ⟨rfl, rfl, hP, hct, hD⟩ := hv
  have hx := B.exec
  have hb := B.bytes
  have hr := B.returns
  have hts := atoms_spec (ws := wsX3_flags) B.pre
  have hown : s.vm.findClass RX3 = some m.cls := findClass_of_methodNamed B.named
  have hlocks := B.notSynchronized
  have hK := hct.1
  have hS : va_S (AX 4 h s.heap.size) s.heap s.heap [] := va_S.rf
  have hl := lv_entry ([.ref (h 0), .int a1, .int a2, .int a3]) (n := 4) (Nat.le_of_ble_eq_true rfl)
  rw [lg_entry_eq]
  generalize (lg_sl ([.ref (h 0), .int a1, .int a2, .int a3]) ++ List.replicate (4 - (lg_sl ([.ref (h 0), .int a1, .int a2, .int a3])).length) Slot.unset).toArray = ls at hl ⊢
  have hl : lv_has ls 4 [(0, .ref (h 0)), (1, .int a1), (2, .int a2), (3, .int a3)] := hl
  refine lv_aload_n hx hb dX3_flags_0 rfl (lv_at hl 0 rfl) ?_
  refine lv_iconst (v := 1) hx hb dX3_flags_1 (by decide) ?_
  refine lv_iload_n hx hb dX3_flags_2 rfl (lv_at hl 2 rfl) ?_
  refine callR_v (va_runV (As := [.int 1, .int a2]) (rest := []) ⟨hx, hb, hml, hown, hts⟩ (c_X3_setFlag l dC dI h k _ σ 1 a2) (cwV 2 hts gX3_flags_X3_setFlag rfl rfl rfl (by decide +kernel) ⟨Nat.le_of_ble_eq_true rfl, Nat.le_of_ble_eq_true rfl⟩) (preR_V (ci := 3) (q0 := 0) hct hP hD hS rfl rfl) rfl rfl hl.1 rfl (lv_room (Nat.le_of_ble_eq_true rfl)) dX3_flags_3 ⟨Nat.le_of_ble_eq_true rfl, Nat.le_of_ble_eq_true rfl⟩) hS (fun σ1 H locs eσ1 hP hD hS => ?_)
  refine lv_aload_n hx hb dX3_flags_6 rfl (lv_at hl 0 rfl) ?_
  refine lv_iconst (v := 2) hx hb dX3_flags_7 (by decide) ?_
  refine lv_iload_n hx hb dX3_flags_8 rfl (lv_at hl 1 rfl) ?_
  refine wj (α := Int32) (D := (dC, dI)) (cl := vwCl) (A := AX 4 h s.heap.size) (H0 := s.heap) (if a1 = 0 then 1 else 0) (fun v3 => wsR h k σ1) (fun v3 => [(0, .ref (h 0)), (1, .int a1), (2, .int a2), (3, .int a3)]) 4 (fun v3 ls => F0 m 17 ls [.int v3, .int 2, .ref (h 0)]) ?_ ?_
  · intro v3 ls H locs ev3 hl hP hD hS
    try dsimp only at hl hP hD ⊢
    refine callR_v (va_runV (As := [.int 2, .int v3]) (rest := []) ⟨hx, hb, hml, hown, hts⟩ (c_X3_setFlag l dC dI h k _ σ1 2 v3) (cwV 2 hts gX3_flags_X3_setFlag rfl rfl rfl (by decide +kernel) ⟨Nat.le_of_ble_eq_true rfl, Nat.le_of_ble_eq_true rfl⟩) (preR_V (ci := 3) (q0 := 0) hct hP hD hS rfl rfl) rfl rfl hl.1 rfl (lv_room (Nat.le_of_ble_eq_true rfl)) dX3_flags_17 ⟨Nat.le_of_ble_eq_true rfl, Nat.le_of_ble_eq_true rfl⟩) hS (fun σ4 H locs eσ4 hP hD hS => ?_)
    refine lv_aload_n hx hb dX3_flags_20 rfl (lv_at hl 0 rfl) ?_
    refine lv_iconst (v := 4) hx hb dX3_flags_21 (by decide) ?_
    refine lv_iload_n hx hb dX3_flags_22 rfl (lv_at hl 1 rfl) ?_
    refine lv_aload_n hx hb dX3_flags_23 rfl (lv_at hl 0 rfl) ?_
    refine callR_ip (va_runV (As := []) (rest := [.int a1, .int 4, .ref (h 0)]) ⟨hx, hb, hml, hown, hts⟩ (c_X3_high l dC dI h k _ σ4 ) (cwV 0 hts gX3_flags_X3_high rfl rfl rfl (by decide +kernel) ⟨Nat.le_of_ble_eq_true rfl, Nat.le_of_ble_eq_true rfl⟩) (preR_V (ci := 3) (q0 := 0) hct hP hD hS rfl rfl) rfl rfl hl.1 rfl (lv_room (Nat.le_of_ble_eq_true rfl)) dX3_flags_24 ⟨Nat.le_of_ble_eq_true rfl, Nat.le_of_ble_eq_true rfl⟩) hS (fun x5 H locs ex5 hP hD hS => ?_)
    refine lv_iand hx hb dX3_flags_27 ?_
    refine wj (α := Int32) (D := (dC, dI)) (cl := vwCl) (A := AX 4 h s.heap.size) (H0 := s.heap) (if (a1 &&& x5) = 0 then 0 else 1) (fun v7 => wsR h k σ4) (fun v7 => [(0, .ref (h 0)), (1, .int a1), (2, .int a2), (3, .int a3)]) 4 (fun v7 ls => F0 m 36 ls [.int v7, .int 4, .ref (h 0)]) ?_ ?_
    · intro v7 ls H locs ev7 hl hP hD hS
      try dsimp only at hl hP hD ⊢
      refine callR_v (va_runV (As := [.int 4, .int v7]) (rest := []) ⟨hx, hb, hml, hown, hts⟩ (c_X3_setFlag l dC dI h k _ σ4 4 v7) (cwV 2 hts gX3_flags_X3_setFlag rfl rfl rfl (by decide +kernel) ⟨Nat.le_of_ble_eq_true rfl, Nat.le_of_ble_eq_true rfl⟩) (preR_V (ci := 3) (q0 := 0) hct hP hD hS rfl rfl) rfl rfl hl.1 rfl (lv_room (Nat.le_of_ble_eq_true rfl)) dX3_flags_36 ⟨Nat.le_of_ble_eq_true rfl, Nat.le_of_ble_eq_true rfl⟩) hS (fun σ8 H locs eσ8 hP hD hS => ?_)
      refine lv_aload_n hx hb dX3_flags_39 rfl (lv_at hl 0 rfl) ?_
      refine lv_sipush (v := 256) hx hb dX3_flags_40 (by decide) ?_
      refine lv_iload_n hx hb dX3_flags_43 rfl (lv_at hl 3 rfl) ?_
      refine callR_v (va_runV (As := [.int 256, .int a3]) (rest := []) ⟨hx, hb, hml, hown, hts⟩ (c_X3_setFlag l dC dI h k _ σ8 256 a3) (cwV 2 hts gX3_flags_X3_setFlag rfl rfl rfl (by decide +kernel) ⟨Nat.le_of_ble_eq_true rfl, Nat.le_of_ble_eq_true rfl⟩) (preR_V (ci := 3) (q0 := 0) hct hP hD hS rfl rfl) rfl rfl hl.1 rfl (lv_room (Nat.le_of_ble_eq_true rfl)) dX3_flags_44 ⟨Nat.le_of_ble_eq_true rfl, Nat.le_of_ble_eq_true rfl⟩) hS (fun σ9 H locs eσ9 hP hD hS => ?_)
      exact retR_v hx hb hr hlocks (by subst eσ9; subst eσ8; subst ev7; subst ex5; subst eσ4; subst ev3; subst eσ1; exact rfl) hP hD hS dX3_flags_47
    · intro J
      refine lv_if_eq (tgt := 35) hx hb dX3_flags_28 (by decide) (fun c6 => ?_) (fun c6 => ?_)
      · refine lv_iconst (v := 0) hx hb dX3_flags_35 (by decide) ?_
        exact J (0) ls _ _ (by exact (if_pos c6).symm) (lv_sub hl [0, 1, 2, 3] rfl) hP hD hS
      · refine lv_iconst (v := 1) hx hb dX3_flags_31 (by decide) ?_
        refine lv_goto (tgt := 36) hx hb dX3_flags_32 (by decide) ?_
        exact J (1) ls _ _ (by exact (if_neg c6).symm) (lv_sub hl [0, 1, 2, 3] rfl) hP hD hS
  · intro J
    refine lv_if_ne (tgt := 16) hx hb dX3_flags_9 (by decide) (fun c2 => ?_) (fun c2 => ?_)
    · refine lv_iconst (v := 0) hx hb dX3_flags_16 (by decide) ?_
      exact J (0) ls _ _ (by exact (if_neg c2).symm) (lv_sub hl [0, 1, 2, 3] rfl) hP hD hS
    · refine lv_iconst (v := 1) hx hb dX3_flags_12 (by decide) ?_
      refine lv_goto (tgt := 17) hx hb dX3_flags_13 (by decide) ?_
      exact J (1) ls _ _ (by exact (if_pos c2).symm) (lv_sub hl [0, 1, 2, 3] rfl) hP hD hS

set_option maxHeartbeats 4000000 in
set_option maxRecDepth 100000 in
theorem c_X3_sum (l : Launch) (dC : Nat → ClassId) (dI : Nat → Nat → Nat) (h : Nat → Nat) (k : Nat → ClassId) (sz : Nat) (σ : StR) (a1 : Int32) (a2 : Int32) (a3 : Int32) : Met l yX3_sum wsX3_sum ({ frames := 2, cells := 0, slots := 0, locals := 45 }) (PcR (dC, dI) h k [.ref (h 0), .int a1, .int a2, .int a3] sz σ) (va_Qi (fun r u => (r, u) = (f_X3_sum σ a1 a2 a3)) (BR (dC, dI) h k (AX 4 h sz)) (AX 4 h sz)) 0 0 (AX 4 h sz) := by
  refine Met.ofW (cc := cX3_sum) (maxL := 6) (ret := (some .int)) (by decide) rfl ?_
  intro p e s m args below meth c s₁ B hml hv
  obtain ⟨rfl, rfl, hP, hct, hD⟩ := hv
  have hx := B.exec
  have hb := B.bytes
  have hr := B.returns
  have hts := atoms_spec (ws := wsX3_sum) B.pre
  have hown : s.vm.findClass RX3 = some m.cls := findClass_of_methodNamed B.named
  have hlocks := B.notSynchronized
  have hK := hct.1
  have hS : va_S (AX 4 h s.heap.size) s.heap s.heap [] := va_S.rf
  have hl := lv_entry ([.ref (h 0), .int a1, .int a2, .int a3]) (n := 6) (Nat.le_of_ble_eq_true rfl)
  rw [lg_entry_eq]
  generalize (lg_sl ([.ref (h 0), .int a1, .int a2, .int a3]) ++ List.replicate (6 - (lg_sl ([.ref (h 0), .int a1, .int a2, .int a3])).length) Slot.unset).toArray = ls at hl ⊢
  have hl : lv_has ls 6 [(0, .ref (h 0)), (1, .int a1), (2, .int a2), (3, .int a3)] := hl
  refine lv_iload_n hx hb dX3_sum_0 rfl (lv_at hl 1 rfl) ?_
  refine lv_iload_n hx hb dX3_sum_1 rfl (lv_at hl 2 rfl) ?_
  refine lv_iadd hx hb dX3_sum_2 ?_
  refine lv_iload_n hx hb dX3_sum_3 rfl (lv_at hl 3 rfl) ?_
  refine lv_iadd hx hb dX3_sum_4 ?_
  refine lv_topi (fun x1 ex1 => ?_)
  refine lv_istore (lv' := [(4, .int x1), (0, .ref (h 0)), (1, .int a1), (2, .int a2), (3, .int a3)]) hx hb dX3_sum_5 hl (by decide) rfl (fun ls hl => ?_)
  refine lv_iload hx hb dX3_sum_7 (lv_at hl 0 rfl) ?_
  refine lv_aload_n hx hb dX3_sum_9 rfl (lv_at hl 1 rfl) ?_
  refine callR_ip (va_runV (As := []) (rest := [.int x1]) ⟨hx, hb, hml, hown, hts⟩ (c_X3_all l dC dI h k _ σ ) (cwV 0 hts gX3_sum_X3_all rfl rfl rfl (by decide +kernel) ⟨Nat.le_of_ble_eq_true rfl, Nat.le_of_ble_eq_true rfl⟩) (preR_V (ci := 3) (q0 := 0) hct hP hD hS rfl rfl) rfl rfl hl.1 rfl (lv_room (Nat.le_of_ble_eq_true rfl)) dX3_sum_10 ⟨Nat.le_of_ble_eq_true rfl, Nat.le_of_ble_eq_true rfl⟩) hS (fun x2 H locs ex2 hP hD hS => ?_)
  refine lv_iand hx hb dX3_sum_13 ?_
  refine lv_topi (fun x3 ex3 => ?_)
  refine lv_istore (lv' := [(5, .int x3), (4, .int x1), (0, .ref (h 0)), (1, .int a1), (2, .int a2), (3, .int a3)]) hx hb dX3_sum_14 hl (by decide) rfl (fun ls hl => ?_)
  refine lv_aload_n hx hb dX3_sum_16 rfl (lv_at hl 2 rfl) ?_
  refine lv_iload hx hb dX3_sum_17 (lv_at hl 0 rfl) ?_
  refine lv_iload hx hb dX3_sum_19 (lv_at hl 1 rfl) ?_
  refine lv_aload_n hx hb dX3_sum_21 rfl (lv_at hl 2 rfl) ?_
  refine callR_ip (va_runV (As := []) (rest := [.int x1, .int x3, .ref (h 0)]) ⟨hx, hb, hml, hown, hts⟩ (c_X3_all l dC dI h k _ σ ) (cwV 0 hts gX3_sum_X3_all rfl rfl rfl (by decide +kernel) ⟨Nat.le_of_ble_eq_true rfl, Nat.le_of_ble_eq_true rfl⟩) (preR_V (ci := 3) (q0 := 0) hct hP hD hS rfl rfl) rfl rfl hl.1 rfl (lv_room (Nat.le_of_ble_eq_true rfl)) dX3_sum_22 ⟨Nat.le_of_ble_eq_true rfl, Nat.le_of_ble_eq_true rfl⟩) hS (fun x4 H locs ex4 hP hD hS => ?_)
  refine wj (α := Int32) (D := (dC, dI)) (cl := vwCl) (A := AX 4 h s.heap.size) (H0 := s.heap) (if x1 ≤ x4 then 0 else 1) (fun v6 => wsR h k σ) (fun v6 => [(5, .int x3), (4, .int x1), (0, .ref (h 0)), (1, .int a1), (2, .int a2), (3, .int a3)]) 6 (fun v6 ls => F0 m 33 ls [.int v6, .int x3, .ref (h 0)]) ?_ ?_
  · intro v6 ls H locs ev6 hl hP hD hS
    try dsimp only at hl hP hD ⊢
    refine lv_iload_n hx hb dX3_sum_33 rfl (lv_at hl 3 rfl) ?_
    refine lv_iload_n hx hb dX3_sum_34 rfl (lv_at hl 4 rfl) ?_
    refine lv_ixor hx hb dX3_sum_35 ?_
    refine lv_aload_n hx hb dX3_sum_36 rfl (lv_at hl 2 rfl) ?_
    refine callR_ip (va_runV (As := []) (rest := [.int (a1 ^^^ a2), .int v6, .int x3, .ref (h 0)]) ⟨hx, hb, hml, hown, hts⟩ (c_X3_high l dC dI h k _ σ ) (cwV 0 hts gX3_sum_X3_high rfl rfl rfl (by decide +kernel) ⟨Nat.le_of_ble_eq_true rfl, Nat.le_of_ble_eq_true rfl⟩) (preR_V (ci := 3) (q0 := 0) hct hP hD hS rfl rfl) rfl rfl hl.1 rfl (lv_room (Nat.le_of_ble_eq_true rfl)) dX3_sum_37 ⟨Nat.le_of_ble_eq_true rfl, Nat.le_of_ble_eq_true rfl⟩) hS (fun x7 H locs ex7 hP hD hS => ?_)
    refine lv_iand hx hb dX3_sum_40 ?_
    refine wj (α := Int32) (D := (dC, dI)) (cl := vwCl) (A := AX 4 h s.heap.size) (H0 := s.heap) (if ((a1 ^^^ a2) &&& x7) = 0 then let x10 : Int32 := (f_X3_high σ); if ((a1 ^^^ x3) &&& x10) = 0 then 0 else 1 else 0) (fun v9 => wsR h k σ) (fun v9 => [(5, .int x3), (4, .int x1), (0, .ref (h 0)), (1, .int a1), (2, .int a2), (3, .int a3)]) 6 (fun v9 ls => F0 m 61 ls [.int v9, .int v6, .int x3, .ref (h 0)]) ?_ ?_
    · intro v9 ls H locs ev9 hl hP hD hS
      try dsimp only at hl hP hD ⊢
      refine callR_v (va_runV (As := [.int x3, .int v6, .int v9]) (rest := []) ⟨hx, hb, hml, hown, hts⟩ (c_X3_flags l dC dI h k _ σ x3 v6 v9) (cwV 3 hts gX3_sum_X3_flags rfl rfl rfl (by decide +kernel) ⟨Nat.le_of_ble_eq_true rfl, Nat.le_of_ble_eq_true rfl⟩) (preR_V (ci := 3) (q0 := 0) hct hP hD hS rfl rfl) rfl rfl hl.1 rfl (lv_room (Nat.le_of_ble_eq_true rfl)) dX3_sum_61 ⟨Nat.le_of_ble_eq_true rfl, Nat.le_of_ble_eq_true rfl⟩) hS (fun σ10 H locs eσ10 hP hD hS => ?_)
      refine lv_iload hx hb dX3_sum_64 (lv_at hl 0 rfl) ?_
      exact retR_i hx hb hr hlocks (by subst eσ10; subst ev9; subst ex7; subst ev6; subst ex4; subst ex3; subst ex2; subst ex1; exact rfl) hP hD hS dX3_sum_66
    · intro J
      refine lv_if_ne (tgt := 60) hx hb dX3_sum_41 (by decide) (fun c8 => ?_) (fun c8 => ?_)
      · refine lv_iconst (v := 0) hx hb dX3_sum_60 (by decide) ?_
        exact J (0) ls _ _ (by exact (if_neg c8).symm) (lv_sub hl [0, 1, 2, 3, 4, 5] rfl) hP hD hS
      · refine lv_iload_n hx hb dX3_sum_44 rfl (lv_at hl 3 rfl) ?_
        refine lv_iload hx hb dX3_sum_45 (lv_at hl 0 rfl) ?_
        refine lv_ixor hx hb dX3_sum_47 ?_
        refine lv_aload_n hx hb dX3_sum_48 rfl (lv_at hl 2 rfl) ?_
        refine callR_ip (va_runV (As := []) (rest := [.int (a1 ^^^ x3), .int v6, .int x3, .ref (h 0)]) ⟨hx, hb, hml, hown, hts⟩ (c_X3_high l dC dI h k _ σ ) (cwV 0 hts gX3_sum_X3_high rfl rfl rfl (by decide +kernel) ⟨Nat.le_of_ble_eq_true rfl, Nat.le_of_ble_eq_true rfl⟩) (preR_V (ci := 3) (q0 := 0) hct hP hD hS rfl rfl) rfl rfl hl.1 rfl (lv_room (Nat.le_of_ble_eq_true rfl)) dX3_sum_49 ⟨Nat.le_of_ble_eq_true rfl, Nat.le_of_ble_eq_true rfl⟩) hS (fun x11 H locs ex11 hP hD hS => ?_)
        refine lv_iand hx hb dX3_sum_52 ?_
        refine lv_if_eq (tgt := 60) hx hb dX3_sum_53 (by decide) (fun c12 => ?_) (fun c12 => ?_)
        · refine lv_iconst (v := 0) hx hb dX3_sum_60 (by decide) ?_
          exact J (0) ls _ _ (by subst ex11; exact ((if_pos c8).trans (if_pos c12)).symm) (lv_sub hl [0, 1, 2, 3, 4, 5] rfl) hP hD hS
        · refine lv_iconst (v := 1) hx hb dX3_sum_56 (by decide) ?_
          refine lv_goto (tgt := 61) hx hb dX3_sum_57 (by decide) ?_
          exact J (1) ls _ _ (by subst ex11; exact ((if_pos c8).trans (if_neg c12)).symm) (lv_sub hl [0, 1, 2, 3, 4, 5] rfl) hP hD hS
  · intro J
    refine lv_icmp_le (tgt := 32) hx hb dX3_sum_25 (by decide) (fun c5 => ?_) (fun c5 => ?_)
    · refine lv_iconst (v := 0) hx hb dX3_sum_32 (by decide) ?_
      exact J (0) ls _ _ (by exact (if_pos c5).symm) (lv_sub hl [0, 1, 2, 3, 4, 5] rfl) hP hD hS
    · refine lv_iconst (v := 1) hx hb dX3_sum_28 (by decide) ?_
      refine lv_goto (tgt := 33) hx hb dX3_sum_29 (by decide) ?_
      exact J (1) ls _ _ (by exact (if_neg c5).symm) (lv_sub hl [0, 1, 2, 3, 4, 5] rfl) hP hD hS

set_option maxHeartbeats 4000000 in
set_option maxRecDepth 100000 in
theorem c_X3_number (l : Launch) (dC : Nat → ClassId) (dI : Nat → Nat → Nat) (h : Nat → Nat) (k : Nat → ClassId) (sz : Nat) (σ : StR) (a1 : Int32) : Met l yX3_number wsX3_number ({ frames := 0, cells := 0, slots := 0, locals := 0 }) (PcR (dC, dI) h k [.ref (h 0), .int a1] sz σ) (va_Qv (fun u => u = f_X3_number σ a1) (BR (dC, dI) h k (AX 4 h sz)) (AX 4 h sz)) 0 0 (AX 4 h sz) := by
  refine Met.ofW (cc := cX3_number) (maxL := 2) (ret := none) (by decide) rfl ?_
  intro p e s m args below meth c s₁ B hml hv
  obtain ⟨rfl, rfl, hP, hct, hD⟩ := hv
  have hx := B.exec
  have hb := B.bytes
  have hr := B.returns
  have hts := atoms_spec (ws := wsX3_number) B.pre
  have hown : s.vm.findClass RX3 = some m.cls := findClass_of_methodNamed B.named
  have hlocks := B.notSynchronized
  have hK := hct.1
  have hS : va_S (AX 4 h s.heap.size) s.heap s.heap [] := va_S.rf
  have hl := lv_entry ([.ref (h 0), .int a1]) (n := 2) (Nat.le_of_ble_eq_true rfl)
  rw [lg_entry_eq]
  generalize (lg_sl ([.ref (h 0), .int a1]) ++ List.replicate (2 - (lg_sl ([.ref (h 0), .int a1])).length) Slot.unset).toArray = ls at hl ⊢
  have hl : lv_has ls 2 [(0, .ref (h 0)), (1, .int a1)] := hl
  refine lv_aload_n hx hb dX3_number_0 rfl (lv_at hl 0 rfl) ?_
  refine lv_aload_n hx hb dX3_number_1 rfl (lv_at hl 0 rfl) ?_
  refine va_get (D := (dC, dI)) (ci := 3) (v := .int σ.2.2.2.2.2.2.2.2) (C := RX3) (T := TX3) (N := 9) hx hb hts (fun _ h9 => List.mem_cons_of_mem _ (List.mem_append_right _ h9)) hown hK hP 0 rfl rfl 8 (by decide) (hts (.fieldLink RX3 51 "LowPowerCpuModel" "bytes" "Z") (by decide +kernel)) (fun _ h9 => h9) rfl dX3_number_2 ?_
  refine wj (α := Int32) (D := (dC, dI)) (cl := vwCl) (A := AX 4 h s.heap.size) (H0 := s.heap) (if σ.2.2.2.2.2.2.2.2 = 0 then a1 else a1 &&& (255 : Int32)) (fun v2 => wsR h k σ) (fun v2 => [(0, .ref (h 0)), (1, .int a1)]) 2 (fun v2 ls => F0 m 17 ls [.int v2, .ref (h 0)]) ?_ ?_
  · intro v2 ls H locs ev2 hl hP hD hS
    try dsimp only at hl hP hD ⊢
    refine va_put (D := (dC, dI)) (ci := 3) (v := .int v2) (ty := .int) (C := RX3) (T := TX3) (N := 9) hx hb hts (fun _ h9 => List.mem_cons_of_mem _ (List.mem_append_right _ h9)) tyX3 tyX3_ok nmX3 hown hK hP hD hS 0 rfl rfl 6 (by decide) (hts (.fieldLink RX3 80 "LowPowerCpuModel" "part" "I") (by decide +kernel)) (fun _ h9 => h9) rfl (by decide +kernel) rfl rfl (Nat.le_of_ble_eq_true rfl) dX3_number_17 (fun H locs hP hD hS => ?_)
    have hP : va_P (dC, dI) vwCl (wsR h k (σ.1, σ.2.1, σ.2.2.1, σ.2.2.2.1, σ.2.2.2.2.1, σ.2.2.2.2.2.1, v2, σ.2.2.2.2.2.2.2.1, σ.2.2.2.2.2.2.2.2)) H := hP
    have hD : va_D (AX 4 h s.heap.size) (wsR h k (σ.1, σ.2.1, σ.2.2.1, σ.2.2.2.1, σ.2.2.2.2.1, σ.2.2.2.2.2.1, v2, σ.2.2.2.2.2.2.2.1, σ.2.2.2.2.2.2.2.2)) := hD
    refine lv_aload_n hx hb dX3_number_20 rfl (lv_at hl 0 rfl) ?_
    refine lv_bipush (v := 16) hx hb dX3_number_21 (by decide) ?_
    refine va_put (D := (dC, dI)) (ci := 3) (v := .int 16) (ty := .int) (C := RX3) (T := TX3) (N := 9) hx hb hts (fun _ h9 => List.mem_cons_of_mem _ (List.mem_append_right _ h9)) tyX3 tyX3_ok nmX3 hown hK hP hD hS 0 rfl rfl 7 (by decide) (hts (.fieldLink RX3 83 "LowPowerCpuModel" "where" "I") (by decide +kernel)) (fun _ h9 => h9) rfl (by decide +kernel) rfl rfl (Nat.le_of_ble_eq_true rfl) dX3_number_23 (fun H locs hP hD hS => ?_)
    have hP : va_P (dC, dI) vwCl (wsR h k (σ.1, σ.2.1, σ.2.2.1, σ.2.2.2.1, σ.2.2.2.2.1, σ.2.2.2.2.2.1, v2, 16, σ.2.2.2.2.2.2.2.2)) H := hP
    have hD : va_D (AX 4 h s.heap.size) (wsR h k (σ.1, σ.2.1, σ.2.2.1, σ.2.2.2.1, σ.2.2.2.2.1, σ.2.2.2.2.2.1, v2, 16, σ.2.2.2.2.2.2.2.2)) := hD
    exact retR_v hx hb hr hlocks (by subst ev2; exact rfl) hP hD hS dX3_number_26
  · intro J
    refine lv_if_eq (tgt := 16) hx hb dX3_number_5 (by decide) (fun c1 => ?_) (fun c1 => ?_)
    · refine lv_iload_n hx hb dX3_number_16 rfl (lv_at hl 1 rfl) ?_
      exact J (a1) ls _ _ (by exact (if_pos c1).symm) (lv_sub hl [0, 1] rfl) hP hD hS
    · refine lv_iload_n hx hb dX3_number_8 rfl (lv_at hl 1 rfl) ?_
      refine lv_sipush (v := 255) hx hb dX3_number_9 (by decide) ?_
      refine lv_iand hx hb dX3_number_12 ?_
      refine lv_goto (tgt := 17) hx hb dX3_number_13 (by decide) ?_
      exact J (a1 &&& (255 : Int32)) ls _ _ (by exact (if_neg c1).symm) (lv_sub hl [0, 1] rfl) hP hD hS

set_option maxHeartbeats 4000000 in
set_option maxRecDepth 100000 in
theorem c_X3_register (l : Launch) (dC : Nat → ClassId) (dI : Nat → Nat → Nat) (h : Nat → Nat) (k : Nat → ClassId) (sz : Nat) (σ : StR) (a1 : Int32) (ha1 : vp_in a1 16) : Met l yX3_register wsX3_register ({ frames := 0, cells := 0, slots := 0, locals := 0 }) (PcR (dC, dI) h k [.ref (h 0), .int a1] sz σ) (va_Qv (fun u => u = f_X3_register σ a1) (BR (dC, dI) h k (AX 4 h sz)) (AX 4 h sz)) 0 0 (AX 4 h sz) := by
  refine Met.ofW (cc := cX3_register) (maxL := 2) (ret := none) (by decide) rfl ?_
  intro p e s m args below meth c s₁ B hml hv
  obtain ⟨rfl, rfl, hP, hct, hD⟩ := hv
  have hx := B.exec
  have hb := B.bytes
  have hr := B.returns
  have hts := atoms_spec (ws := wsX3_register) B.pre
  have hown : s.vm.findClass RX3 = some m.cls := findClass_of_methodNamed B.named
  have hlocks := B.notSynchronized
  have hK := hct.1
  have hS : va_S (AX 4 h s.heap.size) s.heap s.heap [] := va_S.rf
  have hl := lv_entry ([.ref (h 0), .int a1]) (n := 2) (Nat.le_of_ble_eq_true rfl)
  rw [lg_entry_eq]
  generalize (lg_sl ([.ref (h 0), .int a1]) ++ List.replicate (2 - (lg_sl ([.ref (h 0), .int a1])).length) Slot.unset).toArray = ls at hl ⊢
  have hl : lv_has ls 2 [(0, .ref (h 0)), (1, .int a1)] := hl
  refine lv_aload_n hx hb dX3_register_0 rfl (lv_at hl 0 rfl) ?_
  refine lv_aload_n hx hb dX3_register_1 rfl (lv_at hl 0 rfl) ?_
  refine va_get (D := (dC, dI)) (ci := 3) (v := .int σ.2.2.2.2.2.2.2.2) (C := RX3) (T := TX3) (N := 9) hx hb hts (fun _ h9 => List.mem_cons_of_mem _ (List.mem_append_right _ h9)) hown hK hP 0 rfl rfl 8 (by decide) (hts (.fieldLink RX3 51 "LowPowerCpuModel" "bytes" "Z") (by decide +kernel)) (fun _ h9 => h9) rfl dX3_register_2 ?_
  refine wj (α := Int32) (D := (dC, dI)) (cl := vwCl) (A := AX 4 h s.heap.size) (H0 := s.heap) (if σ.2.2.2.2.2.2.2.2 = 0 then σ.2.1 a1.toNatClampNeg else (σ.2.1 a1.toNatClampNeg) &&& (255 : Int32)) (fun v2 => wsR h k σ) (fun v2 => [(0, .ref (h 0)), (1, .int a1)]) 2 (fun v2 ls => F0 m 27 ls [.int v2, .ref (h 0)]) ?_ ?_
  · intro v2 ls H locs ev2 hl hP hD hS
    try dsimp only at hl hP hD ⊢
    refine va_put (D := (dC, dI)) (ci := 3) (v := .int v2) (ty := .int) (C := RX3) (T := TX3) (N := 9) hx hb hts (fun _ h9 => List.mem_cons_of_mem _ (List.mem_append_right _ h9)) tyX3 tyX3_ok nmX3 hown hK hP hD hS 0 rfl rfl 6 (by decide) (hts (.fieldLink RX3 80 "LowPowerCpuModel" "part" "I") (by decide +kernel)) (fun _ h9 => h9) rfl (by decide +kernel) rfl rfl (Nat.le_of_ble_eq_true rfl) dX3_register_27 (fun H locs hP hD hS => ?_)
    have hP : va_P (dC, dI) vwCl (wsR h k (σ.1, σ.2.1, σ.2.2.1, σ.2.2.2.1, σ.2.2.2.2.1, σ.2.2.2.2.2.1, v2, σ.2.2.2.2.2.2.2.1, σ.2.2.2.2.2.2.2.2)) H := hP
    have hD : va_D (AX 4 h s.heap.size) (wsR h k (σ.1, σ.2.1, σ.2.2.1, σ.2.2.2.1, σ.2.2.2.2.1, σ.2.2.2.2.2.1, v2, σ.2.2.2.2.2.2.2.1, σ.2.2.2.2.2.2.2.2)) := hD
    refine lv_aload_n hx hb dX3_register_30 rfl (lv_at hl 0 rfl) ?_
    refine lv_iload_n hx hb dX3_register_31 rfl (lv_at hl 1 rfl) ?_
    refine lv_iconst (v := 3) hx hb dX3_register_32 (by decide) ?_
    refine wj (α := Int32) (D := (dC, dI)) (cl := vwCl) (A := AX 4 h s.heap.size) (H0 := s.heap) (if a1 = 3 then 16 else a1) (fun v4 => wsR h k (σ.1, σ.2.1, σ.2.2.1, σ.2.2.2.1, σ.2.2.2.2.1, σ.2.2.2.2.2.1, v2, σ.2.2.2.2.2.2.2.1, σ.2.2.2.2.2.2.2.2)) (fun v4 => [(0, .ref (h 0)), (1, .int a1)]) 2 (fun v4 ls => F0 m 42 ls [.int v4, .ref (h 0)]) ?_ ?_
    · intro v4 ls H locs ev4 hl hP hD hS
      try dsimp only at hl hP hD ⊢
      refine va_put (D := (dC, dI)) (ci := 3) (v := .int v4) (ty := .int) (C := RX3) (T := TX3) (N := 9) hx hb hts (fun _ h9 => List.mem_cons_of_mem _ (List.mem_append_right _ h9)) tyX3 tyX3_ok nmX3 hown hK hP hD hS 0 rfl rfl 7 (by decide) (hts (.fieldLink RX3 83 "LowPowerCpuModel" "where" "I") (by decide +kernel)) (fun _ h9 => h9) rfl (by decide +kernel) rfl rfl (Nat.le_of_ble_eq_true rfl) dX3_register_42 (fun H locs hP hD hS => ?_)
      have hP : va_P (dC, dI) vwCl (wsR h k (σ.1, σ.2.1, σ.2.2.1, σ.2.2.2.1, σ.2.2.2.2.1, σ.2.2.2.2.2.1, v2, v4, σ.2.2.2.2.2.2.2.2)) H := hP
      have hD : va_D (AX 4 h s.heap.size) (wsR h k (σ.1, σ.2.1, σ.2.2.1, σ.2.2.2.1, σ.2.2.2.2.1, σ.2.2.2.2.2.1, v2, v4, σ.2.2.2.2.2.2.2.2)) := hD
      exact retR_v hx hb hr hlocks (by subst ev4; subst ev2; exact rfl) hP hD hS dX3_register_45
    · intro J
      refine lv_icmp_ne (tgt := 41) hx hb dX3_register_33 (by decide) (fun c3 => ?_) (fun c3 => ?_)
      · refine lv_iload_n hx hb dX3_register_41 rfl (lv_at hl 1 rfl) ?_
        exact J (a1) ls _ _ (by exact (if_neg c3).symm) (lv_sub hl [0, 1] rfl) hP hD hS
      · refine lv_bipush (v := 16) hx hb dX3_register_36 (by decide) ?_
        refine lv_goto (tgt := 42) hx hb dX3_register_38 (by decide) ?_
        exact J (16) ls _ _ (by exact (if_pos c3).symm) (lv_sub hl [0, 1] rfl) hP hD hS
  · intro J
    refine lv_if_eq (tgt := 21) hx hb dX3_register_5 (by decide) (fun c1 => ?_) (fun c1 => ?_)
    · refine lv_aload_n hx hb dX3_register_21 rfl (lv_at hl 0 rfl) ?_
      refine va_get (D := (dC, dI)) (ci := 3) (v := .ref (h 2)) (C := RX3) (T := TX3) (N := 9) hx hb hts (fun _ h9 => List.mem_cons_of_mem _ (List.mem_append_right _ h9)) hown hK hP 0 rfl rfl 1 (by decide) (hts (.fieldLink RX3 14 "LowPowerCpuModel" "\x72" "[I") (by decide +kernel)) (fun _ h9 => h9) rfl dX3_register_22 ?_
      refine lv_iload_n hx hb dX3_register_25 rfl (lv_at hl 1 rfl) ?_
      refine va_iald hx hb hK hP 2 0 rfl rfl ha1 dX3_register_26 ?_
      exact J (σ.2.1 a1.toNatClampNeg) ls _ _ (by exact (if_pos c1).symm) (lv_sub hl [0, 1] rfl) hP hD hS
    · refine lv_aload_n hx hb dX3_register_8 rfl (lv_at hl 0 rfl) ?_
      refine va_get (D := (dC, dI)) (ci := 3) (v := .ref (h 2)) (C := RX3) (T := TX3) (N := 9) hx hb hts (fun _ h9 => List.mem_cons_of_mem _ (List.mem_append_right _ h9)) hown hK hP 0 rfl rfl 1 (by decide) (hts (.fieldLink RX3 14 "LowPowerCpuModel" "\x72" "[I") (by decide +kernel)) (fun _ h9 => h9) rfl dX3_register_9 ?_
      refine lv_iload_n hx hb dX3_register_12 rfl (lv_at hl 1 rfl) ?_
      refine va_iald hx hb hK hP 2 0 rfl rfl ha1 dX3_register_13 ?_
      refine lv_sipush (v := 255) hx hb dX3_register_14 (by decide) ?_
      refine lv_iand hx hb dX3_register_17 ?_
      refine lv_goto (tgt := 27) hx hb dX3_register_18 (by decide) ?_
      exact J ((σ.2.1 a1.toNatClampNeg) &&& (255 : Int32)) ls _ _ (by exact (if_neg c1).symm) (lv_sub hl [0, 1] rfl) hP hD hS

set_option maxHeartbeats 4000000 in
set_option maxRecDepth 100000 in
theorem c_X3_memory (l : Launch) (dC : Nat → ClassId) (dI : Nat → Nat → Nat) (h : Nat → Nat) (k : Nat → ClassId) (sz : Nat) (σ : StR) (a1 : Int32) : Met l yX3_memory wsX3_memory ({ frames := 4, cells := 0, slots := 0, locals := 83 }) (PcR (dC, dI) h k [.ref (h 0), .int a1] sz σ) (va_Qv (fun u => u = f_X3_memory σ a1) (BR (dC, dI) h k (AX 4 h sz)) (AX 4 h sz)) 0 0 (AX 4 h sz) := by
  refine Met.ofW (cc := cX3_memory) (maxL := 2) (ret := none) (by decide) rfl ?_
  intro p e s m args below meth c s₁ B hml hv
  obtain ⟨rfl, rfl, hP, hct, hD⟩ := hv
  have hx := B.exec
  have hb := B.bytes
  have hr := B.returns
  have hts := atoms_spec (ws := wsX3_memory) B.pre
  have hown : s.vm.findClass RX3 = some m.cls := findClass_of_methodNamed B.named
  have hlocks := B.notSynchronized
  have hK := hct.1
  have hS : va_S (AX 4 h s.heap.size) s.heap s.heap [] := va_S.rf
  have hl := lv_entry ([.ref (h 0), .int a1]) (n := 2) (Nat.le_of_ble_eq_true rfl)
  rw [lg_entry_eq]
  generalize (lg_sl ([.ref (h 0), .int a1]) ++ List.replicate (2 - (lg_sl ([.ref (h 0), .int a1])).length) Slot.unset).toArray = ls at hl ⊢
  have hl : lv_has ls 2 [(0, .ref (h 0)), (1, .int a1)] := hl
  refine lv_aload_n hx hb dX3_memory_0 rfl (lv_at hl 0 rfl) ?_
  refine lv_aload_n hx hb dX3_memory_1 rfl (lv_at hl 0 rfl) ?_
  refine lv_iload_n hx hb dX3_memory_2 rfl (lv_at hl 1 rfl) ?_
  refine lv_ldc (v := 65535) hx hb hown (hts (.constant RX3 50 65535) (by decide +kernel)) dX3_memory_3 ?_
  refine lv_iand hx hb dX3_memory_5 ?_
  refine callR_ip (va_runV (As := [.int (a1 &&& (65535 : Int32))]) (rest := [.ref (h 0)]) ⟨hx, hb, hml, hown, hts⟩ (c_X3_valueAt l dC dI h k _ σ (a1 &&& (65535 : Int32)) (pk_andIn _ 16 (by decide) (by decide))) (cwV 1 hts gX3_memory_X3_valueAt rfl rfl rfl (by decide +kernel) ⟨Nat.le_of_ble_eq_true rfl, Nat.le_of_ble_eq_true rfl⟩) (preR_V (ci := 3) (q0 := 0) hct hP hD hS rfl rfl) rfl rfl hl.1 rfl (lv_room (Nat.le_of_ble_eq_true rfl)) dX3_memory_6 ⟨Nat.le_of_ble_eq_true rfl, Nat.le_of_ble_eq_true rfl⟩) hS (fun x1 H locs ex1 hP hD hS => ?_)
  refine va_put (D := (dC, dI)) (ci := 3) (v := .int x1) (ty := .int) (C := RX3) (T := TX3) (N := 9) hx hb hts (fun _ h9 => List.mem_cons_of_mem _ (List.mem_append_right _ h9)) tyX3 tyX3_ok nmX3 hown hK hP hD hS 0 rfl rfl 6 (by decide) (hts (.fieldLink RX3 80 "LowPowerCpuModel" "part" "I") (by decide +kernel)) (fun _ h9 => h9) rfl (by decide +kernel) rfl rfl (Nat.le_of_ble_eq_true rfl) dX3_memory_9 (fun H locs hP hD hS => ?_)
  have hP : va_P (dC, dI) vwCl (wsR h k (σ.1, σ.2.1, σ.2.2.1, σ.2.2.2.1, σ.2.2.2.2.1, σ.2.2.2.2.2.1, x1, σ.2.2.2.2.2.2.2.1, σ.2.2.2.2.2.2.2.2)) H := hP
  have hD : va_D (AX 4 h s.heap.size) (wsR h k (σ.1, σ.2.1, σ.2.2.1, σ.2.2.2.1, σ.2.2.2.2.1, σ.2.2.2.2.2.1, x1, σ.2.2.2.2.2.2.2.1, σ.2.2.2.2.2.2.2.2)) := hD
  refine lv_aload_n hx hb dX3_memory_12 rfl (lv_at hl 0 rfl) ?_
  refine lv_ldc (v := 65536) hx hb hown (hts (.constant RX3 73 65536) (by decide +kernel)) dX3_memory_13 ?_
  refine lv_iload_n hx hb dX3_memory_15 rfl (lv_at hl 1 rfl) ?_
  refine lv_ldc (v := 65535) hx hb hown (hts (.constant RX3 50 65535) (by decide +kernel)) dX3_memory_16 ?_
  refine lv_iand hx hb dX3_memory_18 ?_
  refine lv_iadd hx hb dX3_memory_19 ?_
  refine lv_topi (fun x2 ex2 => ?_)
  refine va_put (D := (dC, dI)) (ci := 3) (v := .int x2) (ty := .int) (C := RX3) (T := TX3) (N := 9) hx hb hts (fun _ h9 => List.mem_cons_of_mem _ (List.mem_append_right _ h9)) tyX3 tyX3_ok nmX3 hown hK hP hD hS 0 rfl rfl 7 (by decide) (hts (.fieldLink RX3 83 "LowPowerCpuModel" "where" "I") (by decide +kernel)) (fun _ h9 => h9) rfl (by decide +kernel) rfl rfl (Nat.le_of_ble_eq_true rfl) dX3_memory_20 (fun H locs hP hD hS => ?_)
  have hP : va_P (dC, dI) vwCl (wsR h k (σ.1, σ.2.1, σ.2.2.1, σ.2.2.2.1, σ.2.2.2.2.1, σ.2.2.2.2.2.1, x1, x2, σ.2.2.2.2.2.2.2.2)) H := hP
  have hD : va_D (AX 4 h s.heap.size) (wsR h k (σ.1, σ.2.1, σ.2.2.1, σ.2.2.2.1, σ.2.2.2.2.1, σ.2.2.2.2.2.1, x1, x2, σ.2.2.2.2.2.2.2.2)) := hD
  exact retR_v hx hb hr hlocks (by subst ex2; subst ex1; exact rfl) hP hD hS dX3_memory_23
