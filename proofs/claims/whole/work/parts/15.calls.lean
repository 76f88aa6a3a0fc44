set_option maxHeartbeats 4000000 in
set_option maxRecDepth 100000 in
theorem c_X2_poke (l : Launch) (dC : Nat → ClassId) (dI : Nat → Nat → Nat) (h : Nat → Nat) (k : Nat → ClassId) (g : Nat → Nat) (sz : Nat) (σ : StC) (a1 : Int32) (a2 : Int32) : Met l yX2_poke wsX2_poke ({ frames := 3, cells := 0, slots := 0, locals := 68 }) (PcC (dC, dI) h k g [.ref (h 0), .int a1, .int a2] sz σ) (va_Qi (fun r u => (r, u) = (f_X2_poke σ a1 a2)) (BC (dC, dI) h k (AX 5 h sz)) (AX 5 h sz)) 0 0 (AX 5 h sz) := by
  refine Met.ofW (cc := cX2_poke) (maxL := 3) (ret := (some .boolean)) (by decide) rfl ?_
  intro p e s m args below meth c s₁ B hml hv
  obtain ⟨rfl, rfl, hP, hct, hD⟩ := hv
  have hx := B.exec
  have hb := B.bytes
  have hr := B.returns
  have hts := atoms_spec (ws := wsX2_poke) B.pre
  have hown : s.vm.findClass RX2 = some m.cls := findClass_of_methodNamed B.named
  have hlocks := B.notSynchronized
  have hK := hct.1
  have hN := hct.2.1
  have hS : va_S (AX 5 h s.heap.size) s.heap s.heap [] := va_S.rf
  have hl := lv_entry ([.ref (h 0), .int a1, .int a2]) (n := 3) (Nat.le_of_ble_eq_true rfl)
  rw [lg_entry_eq]
  generalize (lg_sl ([.ref (h 0), .int a1, .int a2]) ++ List.replicate (3 - (lg_sl ([.ref (h 0), .int a1, .int a2])).length) Slot.unset).toArray = ls at hl ⊢
  have hl : lv_has ls 3 [(0, .ref (h 0)), (1, .int a1), (2, .int a2)] := hl
  refine lv_iload_n hx hb dX2_poke_0 rfl (lv_at hl 1 rfl) ?_
  refine lv_if_lt (tgt := 21) hx hb dX2_poke_1 (by decide) (fun c1 => ?_) (fun c1 => ?_)
  · refine lv_iconst (v := 0) hx hb dX2_poke_21 (by decide) ?_
    exact retC_z hx hb hr hlocks rfl (by exact if_pos c1) hP hD hS dX2_poke_22
  · refine lv_iload_n hx hb dX2_poke_4 rfl (lv_at hl 1 rfl) ?_
    refine lv_ldc (v := 65536) hx hb hown (hts (.constant RX2 48 65536) (by decide +kernel)) dX2_poke_5 ?_
    refine lv_icmp_ge (tgt := 21) hx hb dX2_poke_7 (by decide) (fun c2 => ?_) (fun c2 => ?_)
    · refine lv_iconst (v := 0) hx hb dX2_poke_21 (by decide) ?_
      exact retC_z hx hb hr hlocks rfl (by exact (if_neg c1).trans (if_pos c2)) hP hD hS dX2_poke_22
    · refine lv_iload_n hx hb dX2_poke_10 rfl (lv_at hl 2 rfl) ?_
      refine lv_if_lt (tgt := 21) hx hb dX2_poke_11 (by decide) (fun c3 => ?_) (fun c3 => ?_)
      · refine lv_iconst (v := 0) hx hb dX2_poke_21 (by decide) ?_
        exact retC_z hx hb hr hlocks rfl (by exact (if_neg c1).trans ((if_neg c2).trans (if_pos c3))) hP hD hS dX2_poke_22
      · refine lv_iload_n hx hb dX2_poke_14 rfl (lv_at hl 2 rfl) ?_
        refine lv_sipush (v := 255) hx hb dX2_poke_15 (by decide) ?_
        refine lv_icmp_le (tgt := 23) hx hb dX2_poke_18 (by decide) (fun c4 => ?_) (fun c4 => ?_)
        · refine lv_aload_n hx hb dX2_poke_23 rfl (lv_at hl 0 rfl) ?_
          refine va_get (D := (dC, dI)) (ci := 2) (v := .ref (h 1)) (C := RX2) (T := TX2) (N := 4) hx hb hts (fun _ h9 => List.mem_cons_of_mem _ (List.mem_append_left _ (List.mem_append_left _ (List.mem_append_right _ h9)))) hown hK hP 0 rfl rfl 0 (by decide) (hts (.fieldLink RX2 12 "LowPowerCpu" "memory" "LLowPowerCpu$Memory;") (by decide +kernel)) (fun _ h9 => h9) rfl dX2_poke_24 ?_
          refine lv_iload_n hx hb dX2_poke_27 rfl (lv_at hl 1 rfl) ?_
          refine lv_iload_n hx hb dX2_poke_28 rfl (lv_at hl 2 rfl) ?_
          refine callC_v (va_runVN (As := [.int a1, .int a2]) (rest := []) ⟨hx, hb, hml, hown, hts⟩ (c_X0_placeByte l dC dI h k g _ σ a1 a2) ⟨va_cnB 2 hts gX2_poke_X0_placeByte_n49 rfl rfl rfl (hN (.methodLinkNest RX2 49 yX0_placeByte RX2) (List.mem_of_getElem? (i := 5) rfl)) (hts (.initialized RX0) (by decide +kernel)) (by decide +kernel) ⟨Nat.le_of_ble_eq_true rfl, Nat.le_of_ble_eq_true rfl⟩, hts (.instanceMethod yX0_placeByte) (by decide +kernel), hts (.selects RX0 yX0_placeByte yX0_placeByte) (by decide +kernel)⟩ (preC_V (ci := 0) (q0 := 1) hct hP hD hS rfl rfl) rfl rfl hl.1 rfl (lv_room (Nat.le_of_ble_eq_true rfl)) dX2_poke_29 ⟨Nat.le_of_ble_eq_true rfl, Nat.le_of_ble_eq_true rfl⟩) hS (fun σ5 H locs eσ5 hP hD hS => ?_)
          refine lv_iconst (v := 1) hx hb dX2_poke_32 (by decide) ?_
          exact retC_z hx hb hr hlocks rfl (by subst eσ5; exact (if_neg c1).trans ((if_neg c2).trans ((if_neg c3).trans (if_pos c4)))) hP hD hS dX2_poke_33
        · refine lv_iconst (v := 0) hx hb dX2_poke_21 (by decide) ?_
          exact retC_z hx hb hr hlocks rfl (by exact (if_neg c1).trans ((if_neg c2).trans ((if_neg c3).trans (if_neg c4)))) hP hD hS dX2_poke_22

set_option maxHeartbeats 4000000 in
set_option maxRecDepth 100000 in
theorem c_X2_peek (l : Launch) (dC : Nat → ClassId) (dI : Nat → Nat → Nat) (h : Nat → Nat) (k : Nat → ClassId) (g : Nat → Nat) (sz : Nat) (σ : StC) (a1 : Int32) : Met l yX2_peek wsX2_peek ({ frames := 3, cells := 0, slots := 0, locals := 64 }) (PcC (dC, dI) h k g [.ref (h 0), .int a1] sz σ) (va_Qi (fun r u => (r, u) = (f_X2_peek σ a1, σ)) (BC (dC, dI) h k (AX 5 h sz)) (AX 5 h sz)) 0 0 (AX 5 h sz) := by
  refine Met.ofW (cc := cX2_peek) (maxL := 2) (ret := (some .int)) (by decide) rfl ?_
  intro p e s m args below meth c s₁ B hml hv
  obtain ⟨rfl, rfl, hP, hct, hD⟩ := hv
  have hx := B.exec
  have hb := B.bytes
  have hr := B.returns
  have hts := atoms_spec (ws := wsX2_peek) B.pre
  have hown : s.vm.findClass RX2 = some m.cls := findClass_of_methodNamed B.named
  have hlocks := B.notSynchronized
  have hK := hct.1
  have hN := hct.2.1
  have hS : va_S (AX 5 h s.heap.size) s.heap s.heap [] := va_S.rf
  have hl := lv_entry ([.ref (h 0), .int a1]) (n := 2) (Nat.le_of_ble_eq_true rfl)
  rw [lg_entry_eq]
  generalize (lg_sl ([.ref (h 0), .int a1]) ++ List.replicate (2 - (lg_sl ([.ref (h 0), .int a1])).length) Slot.unset).toArray = ls at hl ⊢
  have hl : lv_has ls 2 [(0, .ref (h 0)), (1, .int a1)] := hl
  refine lv_iload_n hx hb dX2_peek_0 rfl (lv_at hl 1 rfl) ?_
  refine lv_if_lt (tgt := 10) hx hb dX2_peek_1 (by decide) (fun c1 => ?_) (fun c1 => ?_)
  · refine lv_iconst (v := (-1)) hx hb dX2_peek_10 (by decide) ?_
    exact retC_ip hx hb hr hlocks (by exact if_pos c1) hP hD hS dX2_peek_11
  · refine lv_iload_n hx hb dX2_peek_4 rfl (lv_at hl 1 rfl) ?_
    refine lv_ldc (v := 65536) hx hb hown (hts (.constant RX2 48 65536) (by decide +kernel)) dX2_peek_5 ?_
    refine lv_icmp_lt (tgt := 12) hx hb dX2_peek_7 (by decide) (fun c2 => ?_) (fun c2 => ?_)
    · refine lv_aload_n hx hb dX2_peek_12 rfl (lv_at hl 0 rfl) ?_
      refine va_get (D := (dC, dI)) (ci := 2) (v := .ref (h 1)) (C := RX2) (T := TX2) (N := 4) hx hb hts (fun _ h9 => List.mem_cons_of_mem _ (List.mem_append_left _ (List.mem_append_left _ (List.mem_append_right _ h9)))) hown hK hP 0 rfl rfl 0 (by decide) (hts (.fieldLink RX2 12 "LowPowerCpu" "memory" "LLowPowerCpu$Memory;") (by decide +kernel)) (fun _ h9 => h9) rfl dX2_peek_13 ?_
      refine lv_iload_n hx hb dX2_peek_16 rfl (lv_at hl 1 rfl) ?_
      refine callC_ip (va_runVN (As := [.int a1]) (rest := []) ⟨hx, hb, hml, hown, hts⟩ (c_X0_byteAt l dC dI h k g _ σ a1) ⟨va_cnB 1 hts gX2_peek_X0_byteAt_n52 rfl rfl rfl (hN (.methodLinkNest RX2 52 yX0_byteAt RX2) (List.mem_of_getElem? (i := 7) rfl)) (hts (.initialized RX0) (by decide +kernel)) (by decide +kernel) ⟨Nat.le_of_ble_eq_true rfl, Nat.le_of_ble_eq_true rfl⟩, hts (.instanceMethod yX0_byteAt) (by decide +kernel), hts (.selects RX0 yX0_byteAt yX0_byteAt) (by decide +kernel)⟩ (preC_V (ci := 0) (q0 := 1) hct hP hD hS rfl rfl) rfl rfl hl.1 rfl (lv_room (Nat.le_of_ble_eq_true rfl)) dX2_peek_17 ⟨Nat.le_of_ble_eq_true rfl, Nat.le_of_ble_eq_true rfl⟩) hS (fun x3 H locs ex3 hP hD hS => ?_)
      exact retC_ip hx hb hr hlocks (by subst ex3; exact (if_neg c1).trans (if_pos c2)) hP hD hS dX2_peek_20
    · refine lv_iconst (v := (-1)) hx hb dX2_peek_10 (by decide) ?_
      exact retC_ip hx hb hr hlocks (by exact (if_neg c1).trans (if_neg c2)) hP hD hS dX2_peek_11

set_option maxHeartbeats 4000000 in
set_option maxRecDepth 100000 in
theorem c_X2_reg (l : Launch) (dC : Nat → ClassId) (dI : Nat → Nat → Nat) (h : Nat → Nat) (k : Nat → ClassId) (g : Nat → Nat) (sz : Nat) (σ : StC) (a1 : Int32) : Met l yX2_reg wsX2_reg ({ frames := 0, cells := 0, slots := 0, locals := 0 }) (PcC (dC, dI) h k g [.ref (h 0), .int a1] sz σ) (va_Qi (fun r u => (r, u) = (f_X2_reg σ a1, σ)) (BC (dC, dI) h k (AX 5 h sz)) (AX 5 h sz)) 0 0 (AX 5 h sz) := by
  refine Met.ofW (cc := cX2_reg) (maxL := 2) (ret := (some .int)) (by decide) rfl ?_
  intro p e s m args below meth c s₁ B hml hv
  obtain ⟨rfl, rfl, hP, hct, hD⟩ := hv
  have hx := B.exec
  have hb := B.bytes
  have hr := B.returns
  have hts := atoms_spec (ws := wsX2_reg) B.pre
  have hown : s.vm.findClass RX2 = some m.cls := findClass_of_methodNamed B.named
  have hlocks := B.notSynchronized
  have hK := hct.1
  have hN := hct.2.1
  have hS : va_S (AX 5 h s.heap.size) s.heap s.heap [] := va_S.rf
  have hl := lv_entry ([.ref (h 0), .int a1]) (n := 2) (Nat.le_of_ble_eq_true rfl)
  rw [lg_entry_eq]
  generalize (lg_sl ([.ref (h 0), .int a1]) ++ List.replicate (2 - (lg_sl ([.ref (h 0), .int a1])).length) Slot.unset).toArray = ls at hl ⊢
  have hl : lv_has ls 2 [(0, .ref (h 0)), (1, .int a1)] := hl
  refine lv_iload_n hx hb dX2_reg_0 rfl (lv_at hl 1 rfl) ?_
  refine lv_if_lt (tgt := 10) hx hb dX2_reg_1 (by decide) (fun c1 => ?_) (fun c1 => ?_)
  · refine lv_iconst (v := (-1)) hx hb dX2_reg_10 (by decide) ?_
    exact retC_ip hx hb hr hlocks (by exact if_pos c1) hP hD hS dX2_reg_11
  · refine lv_iload_n hx hb dX2_reg_4 rfl (lv_at hl 1 rfl) ?_
    refine lv_bipush (v := 16) hx hb dX2_reg_5 (by decide) ?_
    refine lv_icmp_lt (tgt := 12) hx hb dX2_reg_7 (by decide) (fun c2 => ?_) (fun c2 => ?_)
    · refine lv_aload_n hx hb dX2_reg_12 rfl (lv_at hl 0 rfl) ?_
      refine va_get (D := (dC, dI)) (ci := 2) (v := .ref (h 2)) (C := RX2) (T := TX2) (N := 4) hx hb hts (fun _ h9 => List.mem_cons_of_mem _ (List.mem_append_right _ h9)) hown hK hP 0 rfl rfl 1 (by decide) (hts (.fieldLink RX2 16 "LowPowerCpu" "registers" "[I") (by decide +kernel)) (fun _ h9 => h9) rfl dX2_reg_13 ?_
      refine lv_iload_n hx hb dX2_reg_16 rfl (lv_at hl 1 rfl) ?_
      refine va_iald hx hb hK hP 2 0 rfl rfl (in_rng (N := 16) rfl c1 (Int32.not_le.mpr c2)) dX2_reg_17 ?_
      exact retC_ip hx hb hr hlocks (by exact (if_neg c1).trans (if_pos c2)) hP hD hS dX2_reg_18
    · refine lv_iconst (v := (-1)) hx hb dX2_reg_10 (by decide) ?_
      exact retC_ip hx hb hr hlocks (by exact (if_neg c1).trans (if_neg c2)) hP hD hS dX2_reg_11

set_option maxHeartbeats 4000000 in
set_option maxRecDepth 100000 in
theorem c_X2_raise (l : Launch) (dC : Nat → ClassId) (dI : Nat → Nat → Nat) (h : Nat → Nat) (k : Nat → ClassId) (g : Nat → Nat) (sz : Nat) (σ : StC) (a1 : Int32) : Met l yX2_raise wsX2_raise ({ frames := 0, cells := 0, slots := 0, locals := 0 }) (PcC (dC, dI) h k g [.ref (h 0), .int a1] sz σ) (va_Qi (fun r u => (r, u) = (f_X2_raise σ a1)) (BC (dC, dI) h k (AX 5 h sz)) (AX 5 h sz)) 0 0 (AX 5 h sz) := by
  refine Met.ofW (cc := cX2_raise) (maxL := 2) (ret := (some .boolean)) (by decide) rfl ?_
  intro p e s m args below meth c s₁ B hml hv
  obtain ⟨rfl, rfl, hP, hct, hD⟩ := hv
  have hx := B.exec
  have hb := B.bytes
  have hr := B.returns
  have hts := atoms_spec (ws := wsX2_raise) B.pre
  have hown : s.vm.findClass RX2 = some m.cls := findClass_of_methodNamed B.named
  have hlocks := B.notSynchronized
  have hK := hct.1
  have hN := hct.2.1
  have hS : va_S (AX 5 h s.heap.size) s.heap s.heap [] := va_S.rf
  have hl := lv_entry ([.ref (h 0), .int a1]) (n := 2) (Nat.le_of_ble_eq_true rfl)
  rw [lg_entry_eq]
  generalize (lg_sl ([.ref (h 0), .int a1]) ++ List.replicate (2 - (lg_sl ([.ref (h 0), .int a1])).length) Slot.unset).toArray = ls at hl ⊢
  have hl : lv_has ls 2 [(0, .ref (h 0)), (1, .int a1)] := hl
  refine lv_iload_n hx hb dX2_raise_0 rfl (lv_at hl 1 rfl) ?_
  refine lv_if_lt (tgt := 10) hx hb dX2_raise_1 (by decide) (fun c1 => ?_) (fun c1 => ?_)
  · refine lv_iconst (v := 0) hx hb dX2_raise_10 (by decide) ?_
    exact retC_z hx hb hr hlocks rfl (by exact if_pos c1) hP hD hS dX2_raise_11
  · refine lv_iload_n hx hb dX2_raise_4 rfl (lv_at hl 1 rfl) ?_
    refine lv_bipush (v := 14) hx hb dX2_raise_5 (by decide) ?_
    refine lv_icmp_lt (tgt := 12) hx hb dX2_raise_7 (by decide) (fun c2 => ?_) (fun c2 => ?_)
    · refine lv_aload_n hx hb dX2_raise_12 rfl (lv_at hl 0 rfl) ?_
      refine lv_dup hx hb dX2_raise_13 rfl ?_
      refine va_get (D := (dC, dI)) (ci := 2) (v := .int σ.2.1) (C := RX2) (T := TX2) (N := 4) hx hb hts (fun _ h9 => List.mem_cons_of_mem _ (List.mem_append_right _ h9)) hown hK hP 0 rfl rfl 2 (by decide) (hts (.fieldLink RX2 23 "LowPowerCpu" "pendingLines" "I") (by decide +kernel)) (fun _ h9 => h9) rfl dX2_raise_14 ?_
      refine lv_iconst (v := 1) hx hb dX2_raise_17 (by decide) ?_
      refine lv_iload_n hx hb dX2_raise_18 rfl (lv_at hl 1 rfl) ?_
      refine lv_ishl hx hb dX2_raise_19 ?_
      refine lv_ior hx hb dX2_raise_20 ?_
      refine lv_topi (fun x3 ex3 => ?_)
      refine va_put (D := (dC, dI)) (ci := 2) (v := .int x3) (ty := .int) (C := RX2) (T := TX2) (N := 4) hx hb hts (fun _ h9 => List.mem_cons_of_mem _ (List.mem_append_right _ h9)) tyX2 tyX2_ok nmX2 hown hK hP hD hS 0 rfl rfl 2 (by decide) (hts (.fieldLink RX2 23 "LowPowerCpu" "pendingLines" "I") (by decide +kernel)) (fun _ h9 => h9) rfl (by decide +kernel) rfl rfl (Nat.le_of_ble_eq_true rfl) dX2_raise_21 (fun H locs hP hD hS => ?_)
      have hP : va_P (dC, dI) vwCl (wsC h k (σ.1, x3, σ.2.2.1, σ.2.2.2.1, σ.2.2.2.2.1, σ.2.2.2.2.2.1, σ.2.2.2.2.2.2.1, σ.2.2.2.2.2.2.2.1, σ.2.2.2.2.2.2.2.2.1, σ.2.2.2.2.2.2.2.2.2)) H := hP
      have hD : va_D (AX 5 h s.heap.size) (wsC h k (σ.1, x3, σ.2.2.1, σ.2.2.2.1, σ.2.2.2.2.1, σ.2.2.2.2.2.1, σ.2.2.2.2.2.2.1, σ.2.2.2.2.2.2.2.1, σ.2.2.2.2.2.2.2.2.1, σ.2.2.2.2.2.2.2.2.2)) := hD
      refine lv_iconst (v := 1) hx hb dX2_raise_24 (by decide) ?_
      exact retC_z hx hb hr hlocks rfl (by subst ex3; exact (if_neg c1).trans (if_pos c2)) hP hD hS dX2_raise_25
    · refine lv_iconst (v := 0) hx hb dX2_raise_10 (by decide) ?_
      exact retC_z hx hb hr hlocks rfl (by exact (if_neg c1).trans (if_neg c2)) hP hD hS dX2_raise_11

set_option maxHeartbeats 4000000 in
set_option maxRecDepth 100000 in
theorem c_X2_cyclesOf (l : Launch) (dC : Nat → ClassId) (dI : Nat → Nat → Nat) (h : Nat → Nat) (k : Nat → ClassId) (g : Nat → Nat) (sz : Nat) (σ : StC) : Met l yX2_cyclesOf wsX2_cyclesOf ({ frames := 0, cells := 0, slots := 0, locals := 0 }) (PcC (dC, dI) h k g [.ref (h 0)] sz σ) (va_Qi (fun r u => (r, u) = (f_X2_cyclesOf σ, σ)) (BC (dC, dI) h k (AX 5 h sz)) (AX 5 h sz)) 0 0 (AX 5 h sz) := by
  refine Met.ofW (cc := cX2_cyclesOf) (maxL := 1) (ret := (some .int)) (by decide) rfl ?_
  intro p e s m args below meth c s₁ B hml hv
  obtain ⟨rfl, rfl, hP, hct, hD⟩ := hv
  have hx := B.exec
  have hb := B.bytes
  have hr := B.returns
  have hts := atoms_spec (ws := wsX2_cyclesOf) B.pre
  have hown : s.vm.findClass RX2 = some m.cls := findClass_of_methodNamed B.named
  have hlocks := B.notSynchronized
  have hK := hct.1
  have hN := hct.2.1
  have hS : va_S (AX 5 h s.heap.size) s.heap s.heap [] := va_S.rf
  have hl := lv_entry ([.ref (h 0)]) (n := 1) (Nat.le_of_ble_eq_true rfl)
  rw [lg_entry_eq]
  generalize (lg_sl ([.ref (h 0)]) ++ List.replicate (1 - (lg_sl ([.ref (h 0)])).length) Slot.unset).toArray = ls at hl ⊢
  have hl : lv_has ls 1 [(0, .ref (h 0))] := hl
  refine lv_aload_n hx hb dX2_cyclesOf_0 rfl (lv_at hl 0 rfl) ?_
  refine va_get (D := (dC, dI)) (ci := 2) (v := .int σ.2.2.1) (C := RX2) (T := TX2) (N := 4) hx hb hts (fun _ h9 => List.mem_cons_of_mem _ (List.mem_append_right _ h9)) hown hK hP 0 rfl rfl 3 (by decide) (hts (.fieldLink RX2 27 "LowPowerCpu" "cycles" "I") (by decide +kernel)) (fun _ h9 => h9) rfl dX2_cyclesOf_1 ?_
  exact retC_ip hx hb hr hlocks (by exact rfl) hP hD hS dX2_cyclesOf_4

set_option maxHeartbeats 4000000 in
set_option maxRecDepth 100000 in
theorem c_X2_pending (l : Launch) (dC : Nat → ClassId) (dI : Nat → Nat → Nat) (h : Nat → Nat) (k : Nat → ClassId) (g : Nat → Nat) (sz : Nat) (σ : StC) : Met l yX2_pending wsX2_pending ({ frames := 0, cells := 0, slots := 0, locals := 0 }) (PcC (dC, dI) h k g [.ref (h 0)] sz σ) (va_Qi (fun r u => (r, u) = (f_X2_pending σ, σ)) (BC (dC, dI) h k (AX 5 h sz)) (AX 5 h sz)) 0 0 (AX 5 h sz) := by
  refine Met.ofW (cc := cX2_pending) (maxL := 1) (ret := (some .int)) (by decide) rfl ?_
  intro p e s m args below meth c s₁ B hml hv
  obtain ⟨rfl, rfl, hP, hct, hD⟩ := hv
  have hx := B.exec
  have hb := B.bytes
  have hr := B.returns
  have hts := atoms_spec (ws := wsX2_pending) B.pre
  have hown : s.vm.findClass RX2 = some m.cls := findClass_of_methodNamed B.named
  have hlocks := B.notSynchronized
  have hK := hct.1
  have hN := hct.2.1
  have hS : va_S (AX 5 h s.heap.size) s.heap s.heap [] := va_S.rf
  have hl := lv_entry ([.ref (h 0)]) (n := 1) (Nat.le_of_ble_eq_true rfl)
  rw [lg_entry_eq]
  generalize (lg_sl ([.ref (h 0)]) ++ List.replicate (1 - (lg_sl ([.ref (h 0)])).length) Slot.unset).toArray = ls at hl ⊢
  have hl : lv_has ls 1 [(0, .ref (h 0))] := hl
  refine lv_aload_n hx hb dX2_pending_0 rfl (lv_at hl 0 rfl) ?_
  refine va_get (D := (dC, dI)) (ci := 2) (v := .int σ.2.1) (C := RX2) (T := TX2) (N := 4) hx hb hts (fun _ h9 => List.mem_cons_of_mem _ (List.mem_append_right _ h9)) hown hK hP 0 rfl rfl 2 (by decide) (hts (.fieldLink RX2 23 "LowPowerCpu" "pendingLines" "I") (by decide +kernel)) (fun _ h9 => h9) rfl dX2_pending_1 ?_
  exact retC_ip hx hb hr hlocks (by exact rfl) hP hD hS dX2_pending_4

set_option maxHeartbeats 4000000 in
set_option maxRecDepth 100000 in
theorem c_X2_mode (l : Launch) (dC : Nat → ClassId) (dI : Nat → Nat → Nat) (h : Nat → Nat) (k : Nat → ClassId) (g : Nat → Nat) (sz : Nat) (σ : StC) : Met l yX2_mode wsX2_mode ({ frames := 0, cells := 0, slots := 0, locals := 0 }) (PcC (dC, dI) h k g [.ref (h 0)] sz σ) (va_Qi (fun r u => (r, u) = (f_X2_mode σ, σ)) (BC (dC, dI) h k (AX 5 h sz)) (AX 5 h sz)) 0 0 (AX 5 h sz) := by
  refine Met.ofW (cc := cX2_mode) (maxL := 1) (ret := (some .int)) (by decide) rfl ?_
  intro p e s m args below meth c s₁ B hml hv
  obtain ⟨rfl, rfl, hP, hct, hD⟩ := hv
  have hx := B.exec
  have hb := B.bytes
  have hr := B.returns
  have hts := atoms_spec (ws := wsX2_mode) B.pre
  have hown : s.vm.findClass RX2 = some m.cls := findClass_of_methodNamed B.named
  have hlocks := B.notSynchronized
  have hK := hct.1
  have hN := hct.2.1
  have hS : va_S (AX 5 h s.heap.size) s.heap s.heap [] := va_S.rf
  have hl := lv_entry ([.ref (h 0)]) (n := 1) (Nat.le_of_ble_eq_true rfl)
  rw [lg_entry_eq]
  generalize (lg_sl ([.ref (h 0)]) ++ List.replicate (1 - (lg_sl ([.ref (h 0)])).length) Slot.unset).toArray = ls at hl ⊢
  have hl : lv_has ls 1 [(0, .ref (h 0))] := hl
  refine lv_aload_n hx hb dX2_mode_0 rfl (lv_at hl 0 rfl) ?_
  refine va_get (D := (dC, dI)) (ci := 2) (v := .ref (h 1)) (C := RX2) (T := TX2) (N := 4) hx hb hts (fun _ h9 => List.mem_cons_of_mem _ (List.mem_append_left _ (List.mem_append_left _ (List.mem_append_right _ h9)))) hown hK hP 0 rfl rfl 0 (by decide) (hts (.fieldLink RX2 12 "LowPowerCpu" "memory" "LLowPowerCpu$Memory;") (by decide +kernel)) (fun _ h9 => h9) rfl dX2_mode_1 ?_
  refine va_getN (D := (dC, dI)) (ci := 0) (v := .ref (h 4)) (C := RX0) (T := TX0) (N := 2) hx hb hts (fun _ h9 => List.mem_cons_of_mem _ (List.mem_append_left _ (List.mem_append_right _ h9))) hown hK hP 1 rfl rfl 1 (by decide) (va_Nw.use rfl (hN (.fieldLinkNest RX2 30 "LowPowerCpu$Memory" "multiplier" "LLowPowerCpu$Multiplier;" RX2) (List.mem_of_getElem? (i := 12) rfl))) (fun _ h9 => h9) rfl dX2_mode_4 ?_
  refine va_getN (D := (dC, dI)) (ci := 1) (v := .int σ.2.2.2.2.2.2.2.2.2) (C := RX1) (T := TX1) (N := 6) hx hb hts (fun _ h9 => List.mem_cons_of_mem _ (List.mem_append_right _ h9)) hown hK hP 4 rfl rfl 5 (by decide) (va_Nw.use rfl (hN (.fieldLinkNest RX2 82 "LowPowerCpu$Multiplier" "way" "I" RX2) (List.mem_of_getElem? (i := 11) rfl))) (fun _ h9 => h9) rfl dX2_mode_7 ?_
  exact retC_ip hx hb hr hlocks (by exact rfl) hP hD hS dX2_mode_10

set_option maxHeartbeats 4000000 in
set_option maxRecDepth 100000 in
theorem c_X2_init_ (l : Launch) (dC : Nat → ClassId) (dI : Nat → Nat → Nat) (h : Nat → Nat) (k : Nat → ClassId) (g : Nat → Nat) (sz : Nat) (σ : StC) : Met l yX2_init_ wsX2_init_ ({ frames := 2, cells := 0, slots := 0, locals := 42 }) (PcC (dC, dI) h k g [.ref (h 0)] sz σ) (va_Qv (fun u => u = f_X2_init_ σ) (BC (dC, dI) h k (AX 5 h sz)) (AX 5 h sz)) 0 0 (AX 5 h sz) := by
  refine Met.ofW (cc := cX2_init_) (maxL := 2) (ret := none) (by decide) rfl ?_
  intro p e s m args below meth c s₁ B hml hv
  obtain ⟨rfl, rfl, hP, hct, hD⟩ := hv
  have hx := B.exec
  have hb := B.bytes
  have hr := B.returns
  have hts := atoms_spec (ws := wsX2_init_) B.pre
  have hown : s.vm.findClass RX2 = some m.cls := findClass_of_methodNamed B.named
  have hlocks := B.notSynchronized
  have hK := hct.1
  have hN := hct.2.1
  have hS : va_S (AX 5 h s.heap.size) s.heap s.heap [] := va_S.rf
  have hl := lv_entry ([.ref (h 0)]) (n := 2) (Nat.le_of_ble_eq_true rfl)
  rw [lg_entry_eq]
  generalize (lg_sl ([.ref (h 0)]) ++ List.replicate (2 - (lg_sl ([.ref (h 0)])).length) Slot.unset).toArray = ls at hl ⊢
  have hl : lv_has ls 2 [(0, .ref (h 0))] := hl
  refine lv_iconst (v := 0) hx hb dX2_init__0 (by decide) ?_
  refine lv_istore_n (lv' := [(1, .int 0), (0, .ref (h 0))]) hx hb dX2_init__1 rfl hl (by decide) rfl (fun ls hl => ?_)
  refine lv_iload_n hx hb dX2_init__2 rfl (lv_at hl 0 rfl) ?_
  refine lv_bipush (v := 16) hx hb dX2_init__3 (by decide) ?_
  refine lv_icmp_ge (tgt := 21) hx hb dX2_init__5 (by decide) (fun c1 => absurd c1 (by decide)) (fun _ => ?_)
  refine lv_aload_n hx hb dX2_init__8 rfl (lv_at hl 1 rfl) ?_
  refine va_get (D := (dC, dI)) (ci := 2) (v := .ref (h 2)) (C := RX2) (T := TX2) (N := 4) hx hb hts (fun _ h9 => List.mem_cons_of_mem _ (List.mem_append_left _ (List.mem_append_left _ (List.mem_append_right _ h9)))) hown hK hP 0 rfl rfl 1 (by decide) (hts (.fieldLink RX2 16 "LowPowerCpu" "registers" "[I") (by decide +kernel)) (fun _ h9 => h9) rfl dX2_init__9 ?_
  refine lv_iload_n hx hb dX2_init__12 rfl (lv_at hl 0 rfl) ?_
  refine lv_iconst (v := 0) hx hb dX2_init__13 (by decide) ?_
  refine va_iast hx hb hK hP hD hS 2 0 rfl rfl (in_c (by decide)) dX2_init__14 (fun H locs hP hD hS => ?_)
  have hP : va_P (dC, dI) vwCl (wsC h k (upd σ.1 ((0 : Int32).toNatClampNeg) 0, σ.2.1, σ.2.2.1, σ.2.2.2.1, σ.2.2.2.2.1, σ.2.2.2.2.2.1, σ.2.2.2.2.2.2.1, σ.2.2.2.2.2.2.2.1, σ.2.2.2.2.2.2.2.2.1, σ.2.2.2.2.2.2.2.2.2)) H := hP
  have hD : va_D (AX 5 h s.heap.size) (wsC h k (upd σ.1 ((0 : Int32).toNatClampNeg) 0, σ.2.1, σ.2.2.1, σ.2.2.2.1, σ.2.2.2.2.1, σ.2.2.2.2.2.1, σ.2.2.2.2.2.2.1, σ.2.2.2.2.2.2.2.1, σ.2.2.2.2.2.2.2.2.1, σ.2.2.2.2.2.2.2.2.2)) := hD
  -- iinc
  refine lv_iinc (v := 1) (lv' := [(1, .int 1), (0, .ref (h 0))]) hx hb dX2_init__15 hl (k := 0) rfl (by decide) (by decide) rfl (fun ls hl => ?_)
  refine lv_goto (tgt := 2) hx hb dX2_init__18 (by decide) ?_
  refine lv_iload_n hx hb dX2_init__2 rfl (lv_at hl 0 rfl) ?_
  refine lv_bipush (v := 16) hx hb dX2_init__3 (by decide) ?_
  refine lv_icmp_ge (tgt := 21) hx hb dX2_init__5 (by decide) (fun c2 => absurd c2 (by decide)) (fun _ => ?_)
  refine lv_aload_n hx hb dX2_init__8 rfl (lv_at hl 1 rfl) ?_
  refine va_get (D := (dC, dI)) (ci := 2) (v := .ref (h 2)) (C := RX2) (T := TX2) (N := 4) hx hb hts (fun _ h9 => List.mem_cons_of_mem _ (List.mem_append_left _ (List.mem_append_left _ (List.mem_append_right _ h9)))) hown hK hP 0 rfl rfl 1 (by decide) (hts (.fieldLink RX2 16 "LowPowerCpu" "registers" "[I") (by decide +kernel)) (fun _ h9 => h9) rfl dX2_init__9 ?_
  refine lv_iload_n hx hb dX2_init__12 rfl (lv_at hl 0 rfl) ?_
  refine lv_iconst (v := 0) hx hb dX2_init__13 (by decide) ?_
  refine va_iast hx hb hK hP hD hS 2 0 rfl rfl (in_c (by decide)) dX2_init__14 (fun H locs hP hD hS => ?_)
  have hP : va_P (dC, dI) vwCl (wsC h k (upd (upd σ.1 ((0 : Int32).toNatClampNeg) 0) ((1 : Int32).toNatClampNeg) 0, σ.2.1, σ.2.2.1, σ.2.2.2.1, σ.2.2.2.2.1, σ.2.2.2.2.2.1, σ.2.2.2.2.2.2.1, σ.2.2.2.2.2.2.2.1, σ.2.2.2.2.2.2.2.2.1, σ.2.2.2.2.2.2.2.2.2)) H := hP
  have hD : va_D (AX 5 h s.heap.size) (wsC h k (upd (upd σ.1 ((0 : Int32).toNatClampNeg) 0) ((1 : Int32).toNatClampNeg) 0, σ.2.1, σ.2.2.1, σ.2.2.2.1, σ.2.2.2.2.1, σ.2.2.2.2.2.1, σ.2.2.2.2.2.2.1, σ.2.2.2.2.2.2.2.1, σ.2.2.2.2.2.2.2.2.1, σ.2.2.2.2.2.2.2.2.2)) := hD
  -- iinc
  refine lv_iinc (v := 2) (lv' := [(1, .int 2), (0, .ref (h 0))]) hx hb dX2_init__15 hl (k := 0) rfl (by decide) (by decide) rfl (fun ls hl => ?_)
  refine lv_goto (tgt := 2) hx hb dX2_init__18 (by decide) ?_
  refine lv_iload_n hx hb dX2_init__2 rfl (lv_at hl 0 rfl) ?_
  refine lv_bipush (v := 16) hx hb dX2_init__3 (by decide) ?_
  refine lv_icmp_ge (tgt := 21) hx hb dX2_init__5 (by decide) (fun c3 => absurd c3 (by decide)) (fun _ => ?_)
  refine lv_aload_n hx hb dX2_init__8 rfl (lv_at hl 1 rfl) ?_
  refine va_get (D := (dC, dI)) (ci := 2) (v := .ref (h 2)) (C := RX2) (T := TX2) (N := 4) hx hb hts (fun _ h9 => List.mem_cons_of_mem _ (List.mem_append_left _ (List.mem_append_left _ (List.mem_append_right _ h9)))) hown hK hP 0 rfl rfl 1 (by decide) (hts (.fieldLink RX2 16 "LowPowerCpu" "registers" "[I") (by decide +kernel)) (fun _ h9 => h9) rfl dX2_init__9 ?_
  refine lv_iload_n hx hb dX2_init__12 rfl (lv_at hl 0 rfl) ?_
  refine lv_iconst (v := 0) hx hb dX2_init__13 (by decide) ?_
  refine va_iast hx hb hK hP hD hS 2 0 rfl rfl (in_c (by decide)) dX2_init__14 (fun H locs hP hD hS => ?_)
  have hP : va_P (dC, dI) vwCl (wsC h k (upd (upd (upd σ.1 ((0 : Int32).toNatClampNeg) 0) ((1 : Int32).toNatClampNeg) 0) ((2 : Int32).toNatClampNeg) 0, σ.2.1, σ.2.2.1, σ.2.2.2.1, σ.2.2.2.2.1, σ.2.2.2.2.2.1, σ.2.2.2.2.2.2.1, σ.2.2.2.2.2.2.2.1, σ.2.2.2.2.2.2.2.2.1, σ.2.2.2.2.2.2.2.2.2)) H := hP
  have hD : va_D (AX 5 h s.heap.size) (wsC h k (upd (upd (upd σ.1 ((0 : Int32).toNatClampNeg) 0) ((1 : Int32).toNatClampNeg) 0) ((2 : Int32).toNatClampNeg) 0, σ.2.1, σ.2.2.1, σ.2.2.2.1, σ.2.2.2.2.1, σ.2.2.2.2.2.1, σ.2.2.2.2.2.2.1, σ.2.2.2.2.2.2.2.1, σ.2.2.2.2.2.2.2.2.1, σ.2.2.2.2.2.2.2.2.2)) := hD
  -- iinc
  refine lv_iinc (v := 3) (lv' := [(1, .int 3), (0, .ref (h 0))]) hx hb dX2_init__15 hl (k := 0) rfl (by decide) (by decide) rfl (fun ls hl => ?_)
  refine lv_goto (tgt := 2) hx hb dX2_init__18 (by decide) ?_
  refine lv_iload_n hx hb dX2_init__2 rfl (lv_at hl 0 rfl) ?_
  refine lv_bipush (v := 16) hx hb dX2_init__3 (by decide) ?_
  refine lv_icmp_ge (tgt := 21) hx hb dX2_init__5 (by decide) (fun c4 => absurd c4 (by decide)) (fun _ => ?_)
  refine lv_aload_n hx hb dX2_init__8 rfl (lv_at hl 1 rfl) ?_
  refine va_get (D := (dC, dI)) (ci := 2) (v := .ref (h 2)) (C := RX2) (T := TX2) (N := 4) hx hb hts (fun _ h9 => List.mem_cons_of_mem _ (List.mem_append_left _ (List.mem_append_left _ (List.mem_append_right _ h9)))) hown hK hP 0 rfl rfl 1 (by decide) (hts (.fieldLink RX2 16 "LowPowerCpu" "registers" "[I") (by decide +kernel)) (fun _ h9 => h9) rfl dX2_init__9 ?_
  refine lv_iload_n hx hb dX2_init__12 rfl (lv_at hl 0 rfl) ?_
  refine lv_iconst (v := 0) hx hb dX2_init__13 (by decide) ?_
  refine va_iast hx hb hK hP hD hS 2 0 rfl rfl (in_c (by decide)) dX2_init__14 (fun H locs hP hD hS => ?_)
  have hP : va_P (dC, dI) vwCl (wsC h k (upd (upd (upd (upd σ.1 ((0 : Int32).toNatClampNeg) 0) ((1 : Int32).toNatClampNeg) 0) ((2 : Int32).toNatClampNeg) 0) ((3 : Int32).toNatClampNeg) 0, σ.2.1, σ.2.2.1, σ.2.2.2.1, σ.2.2.2.2.1, σ.2.2.2.2.2.1, σ.2.2.2.2.2.2.1, σ.2.2.2.2.2.2.2.1, σ.2.2.2.2.2.2.2.2.1, σ.2.2.2.2.2.2.2.2.2)) H := hP
  have hD : va_D (AX 5 h s.heap.size) (wsC h k (upd (upd (upd (upd σ.1 ((0 : Int32).toNatClampNeg) 0) ((1 : Int32).toNatClampNeg) 0) ((2 : Int32).toNatClampNeg) 0) ((3 : Int32).toNatClampNeg) 0, σ.2.1, σ.2.2.1, σ.2.2.2.1, σ.2.2.2.2.1, σ.2.2.2.2.2.1, σ.2.2.2.2.2.2.1, σ.2.2.2.2.2.2.2.1, σ.2.2.2.2.2.2.2.2.1, σ.2.2.2.2.2.2.2.2.2)) := hD
  -- iinc
  refine lv_iinc (v := 4) (lv' := [(1, .int 4), (0, .ref (h 0))]) hx hb dX2_init__15 hl (k := 0) rfl (by decide) (by decide) rfl (fun ls hl => ?_)
  refine lv_goto (tgt := 2) hx hb dX2_init__18 (by decide) ?_
  refine lv_iload_n hx hb dX2_init__2 rfl (lv_at hl 0 rfl) ?_
  refine lv_bipush (v := 16) hx hb dX2_init__3 (by decide) ?_
  refine lv_icmp_ge (tgt := 21) hx hb dX2_init__5 (by decide) (fun c5 => absurd c5 (by decide)) (fun _ => ?_)
  refine lv_aload_n hx hb dX2_init__8 rfl (lv_at hl 1 rfl) ?_
  refine va_get (D := (dC, dI)) (ci := 2) (v := .ref (h 2)) (C := RX2) (T := TX2) (N := 4) hx hb hts (fun _ h9 => List.mem_cons_of_mem _ (List.mem_append_left _ (List.mem_append_left _ (List.mem_append_right _ h9)))) hown hK hP 0 rfl rfl 1 (by decide) (hts (.fieldLink RX2 16 "LowPowerCpu" "registers" "[I") (by decide +kernel)) (fun _ h9 => h9) rfl dX2_init__9 ?_
  refine lv_iload_n hx hb dX2_init__12 rfl (lv_at hl 0 rfl) ?_
  refine lv_iconst (v := 0) hx hb dX2_init__13 (by decide) ?_
  refine va_iast hx hb hK hP hD hS 2 0 rfl rfl (in_c (by decide)) dX2_init__14 (fun H locs hP hD hS => ?_)
  have hP : va_P (dC, dI) vwCl (wsC h k (upd (upd (upd (upd (upd σ.1 ((0 : Int32).toNatClampNeg) 0) ((1 : Int32).toNatClampNeg) 0) ((2 : Int32).toNatClampNeg) 0) ((3 : Int32).toNatClampNeg) 0) ((4 : Int32).toNatClampNeg) 0, σ.2.1, σ.2.2.1, σ.2.2.2.1, σ.2.2.2.2.1, σ.2.2.2.2.2.1, σ.2.2.2.2.2.2.1, σ.2.2.2.2.2.2.2.1, σ.2.2.2.2.2.2.2.2.1, σ.2.2.2.2.2.2.2.2.2)) H := hP
  have hD : va_D (AX 5 h s.heap.size) (wsC h k (upd (upd (upd (upd (upd σ.1 ((0 : Int32).toNatClampNeg) 0) ((1 : Int32).toNatClampNeg) 0) ((2 : Int32).toNatClampNeg) 0) ((3 : Int32).toNatClampNeg) 0) ((4 : Int32).toNatClampNeg) 0, σ.2.1, σ.2.2.1, σ.2.2.2.1, σ.2.2.2.2.1, σ.2.2.2.2.2.1, σ.2.2.2.2.2.2.1, σ.2.2.2.2.2.2.2.1, σ.2.2.2.2.2.2.2.2.1, σ.2.2.2.2.2.2.2.2.2)) := hD
  -- iinc
  refine lv_iinc (v := 5) (lv' := [(1, .int 5), (0, .ref (h 0))]) hx hb dX2_init__15 hl (k := 0) rfl (by decide) (by decide) rfl (fun ls hl => ?_)
  refine lv_goto (tgt := 2) hx hb dX2_init__18 (by decide) ?_
  refine lv_iload_n hx hb dX2_init__2 rfl (lv_at hl 0 rfl) ?_
  refine lv_bipush (v := 16) hx hb dX2_init__3 (by decide) ?_
  refine lv_icmp_ge (tgt := 21) hx hb dX2_init__5 (by decide) (fun c6 => absurd c6 (by decide)) (fun _ => ?_)
  refine lv_aload_n hx hb dX2_init__8 rfl (lv_at hl 1 rfl) ?_
  refine va_get (D := (dC, dI)) (ci := 2) (v := .ref (h 2)) (C := RX2) (T := TX2) (N := 4) hx hb hts (fun _ h9 => List.mem_cons_of_mem _ (List.mem_append_left _ (List.mem_append_left _ (List.mem_append_right _ h9)))) hown hK hP 0 rfl rfl 1 (by decide) (hts (.fieldLink RX2 16 "LowPowerCpu" "registers" "[I") (by decide +kernel)) (fun _ h9 => h9) rfl dX2_init__9 ?_
  refine lv_iload_n hx hb dX2_init__12 rfl (lv_at hl 0 rfl) ?_
  refine lv_iconst (v := 0) hx hb dX2_init__13 (by decide) ?_
  refine va_iast hx hb hK hP hD hS 2 0 rfl rfl (in_c (by decide)) dX2_init__14 (fun H locs hP hD hS => ?_)
  have hP : va_P (dC, dI) vwCl (wsC h k (upd (upd (upd (upd (upd (upd σ.1 ((0 : Int32).toNatClampNeg) 0) ((1 : Int32).toNatClampNeg) 0) ((2 : Int32).toNatClampNeg) 0) ((3 : Int32).toNatClampNeg) 0) ((4 : Int32).toNatClampNeg) 0) ((5 : Int32).toNatClampNeg) 0, σ.2.1, σ.2.2.1, σ.2.2.2.1, σ.2.2.2.2.1, σ.2.2.2.2.2.1, σ.2.2.2.2.2.2.1, σ.2.2.2.2.2.2.2.1, σ.2.2.2.2.2.2.2.2.1, σ.2.2.2.2.2.2.2.2.2)) H := hP
  have hD : va_D (AX 5 h s.heap.size) (wsC h k (upd (upd (upd (upd (upd (upd σ.1 ((0 : Int32).toNatClampNeg) 0) ((1 : Int32).toNatClampNeg) 0) ((2 : Int32).toNatClampNeg) 0) ((3 : Int32).toNatClampNeg) 0) ((4 : Int32).toNatClampNeg) 0) ((5 : Int32).toNatClampNeg) 0, σ.2.1, σ.2.2.1, σ.2.2.2.1, σ.2.2.2.2.1, σ.2.2.2.2.2.1, σ.2.2.2.2.2.2.1, σ.2.2.2.2.2.2.2.1, σ.2.2.2.2.2.2.2.2.1, σ.2.2.2.2.2.2.2.2.2)) := hD
  -- iinc
  refine lv_iinc (v := 6) (lv' := [(1, .int 6), (0, .ref (h 0))]) hx hb dX2_init__15 hl (k := 0) rfl (by decide) (by decide) rfl (fun ls hl => ?_)
  refine lv_goto (tgt := 2) hx hb dX2_init__18 (by decide) ?_
  refine lv_iload_n hx hb dX2_init__2 rfl (lv_at hl 0 rfl) ?_
  refine lv_bipush (v := 16) hx hb dX2_init__3 (by decide) ?_
  refine lv_icmp_ge (tgt := 21) hx hb dX2_init__5 (by decide) (fun c7 => absurd c7 (by decide)) (fun _ => ?_)
  refine lv_aload_n hx hb dX2_init__8 rfl (lv_at hl 1 rfl) ?_
  refine va_get (D := (dC, dI)) (ci := 2) (v := .ref (h 2)) (C := RX2) (T := TX2) (N := 4) hx hb hts (fun _ h9 => List.mem_cons_of_mem _ (List.mem_append_left _ (List.mem_append_left _ (List.mem_append_right _ h9)))) hown hK hP 0 rfl rfl 1 (by decide) (hts (.fieldLink RX2 16 "LowPowerCpu" "registers" "[I") (by decide +kernel)) (fun _ h9 => h9) rfl dX2_init__9 ?_
  refine lv_iload_n hx hb dX2_init__12 rfl (lv_at hl 0 rfl) ?_
  refine lv_iconst (v := 0) hx hb dX2_init__13 (by decide) ?_
  refine va_iast hx hb hK hP hD hS 2 0 rfl rfl (in_c (by decide)) dX2_init__14 (fun H locs hP hD hS => ?_)
  have hP : va_P (dC, dI) vwCl (wsC h k (upd (upd (upd (upd (upd (upd (upd σ.1 ((0 : Int32).toNatClampNeg) 0) ((1 : Int32).toNatClampNeg) 0) ((2 : Int32).toNatClampNeg) 0) ((3 : Int32).toNatClampNeg) 0) ((4 : Int32).toNatClampNeg) 0) ((5 : Int32).toNatClampNeg) 0) ((6 : Int32).toNatClampNeg) 0, σ.2.1, σ.2.2.1, σ.2.2.2.1, σ.2.2.2.2.1, σ.2.2.2.2.2.1, σ.2.2.2.2.2.2.1, σ.2.2.2.2.2.2.2.1, σ.2.2.2.2.2.2.2.2.1, σ.2.2.2.2.2.2.2.2.2)) H := hP
  have hD : va_D (AX 5 h s.heap.size) (wsC h k (upd (upd (upd (upd (upd (upd (upd σ.1 ((0 : Int32).toNatClampNeg) 0) ((1 : Int32).toNatClampNeg) 0) ((2 : Int32).toNatClampNeg) 0) ((3 : Int32).toNatClampNeg) 0) ((4 : Int32).toNatClampNeg) 0) ((5 : Int32).toNatClampNeg) 0) ((6 : Int32).toNatClampNeg) 0, σ.2.1, σ.2.2.1, σ.2.2.2.1, σ.2.2.2.2.1, σ.2.2.2.2.2.1, σ.2.2.2.2.2.2.1, σ.2.2.2.2.2.2.2.1, σ.2.2.2.2.2.2.2.2.1, σ.2.2.2.2.2.2.2.2.2)) := hD
  -- iinc
  refine lv_iinc (v := 7) (lv' := [(1, .int 7), (0, .ref (h 0))]) hx hb dX2_init__15 hl (k := 0) rfl (by decide) (by decide) rfl (fun ls hl => ?_)
  refine lv_goto (tgt := 2) hx hb dX2_init__18 (by decide) ?_
  refine lv_iload_n hx hb dX2_init__2 rfl (lv_at hl 0 rfl) ?_
  refine lv_bipush (v := 16) hx hb dX2_init__3 (by decide) ?_
  refine lv_icmp_ge (tgt := 21) hx hb dX2_init__5 (by decide) (fun c8 => absurd c8 (by decide)) (fun _ => ?_)
  refine lv_aload_n hx hb dX2_init__8 rfl (lv_at hl 1 rfl) ?_
  refine va_get (D := (dC, dI)) (ci := 2) (v := .ref (h 2)) (C := RX2) (T := TX2) (N := 4) hx hb hts (fun _ h9 => List.mem_cons_of_mem _ (List.mem_append_left _ (List.mem_append_left _ (List.mem_append_right _ h9)))) hown hK hP 0 rfl rfl 1 (by decide) (hts (.fieldLink RX2 16 "LowPowerCpu" "registers" "[I") (by decide +kernel)) (fun _ h9 => h9) rfl dX2_init__9 ?_
  refine lv_iload_n hx hb dX2_init__12 rfl (lv_at hl 0 rfl) ?_
  refine lv_iconst (v := 0) hx hb dX2_init__13 (by decide) ?_
  refine va_iast hx hb hK hP hD hS 2 0 rfl rfl (in_c (by decide)) dX2_init__14 (fun H locs hP hD hS => ?_)
  have hP : va_P (dC, dI) vwCl (wsC h k (upd (upd (upd (upd (upd (upd (upd (upd σ.1 ((0 : Int32).toNatClampNeg) 0) ((1 : Int32).toNatClampNeg) 0) ((2 : Int32).toNatClampNeg) 0) ((3 : Int32).toNatClampNeg) 0) ((4 : Int32).toNatClampNeg) 0) ((5 : Int32).toNatClampNeg) 0) ((6 : Int32).toNatClampNeg) 0) ((7 : Int32).toNatClampNeg) 0, σ.2.1, σ.2.2.1, σ.2.2.2.1, σ.2.2.2.2.1, σ.2.2.2.2.2.1, σ.2.2.2.2.2.2.1, σ.2.2.2.2.2.2.2.1, σ.2.2.2.2.2.2.2.2.1, σ.2.2.2.2.2.2.2.2.2)) H := hP
  have hD : va_D (AX 5 h s.heap.size) (wsC h k (upd (upd (upd (upd (upd (upd (upd (upd σ.1 ((0 : Int32).toNatClampNeg) 0) ((1 : Int32).toNatClampNeg) 0) ((2 : Int32).toNatClampNeg) 0) ((3 : Int32).toNatClampNeg) 0) ((4 : Int32).toNatClampNeg) 0) ((5 : Int32).toNatClampNeg) 0) ((6 : Int32).toNatClampNeg) 0) ((7 : Int32).toNatClampNeg) 0, σ.2.1, σ.2.2.1, σ.2.2.2.1, σ.2.2.2.2.1, σ.2.2.2.2.2.1, σ.2.2.2.2.2.2.1, σ.2.2.2.2.2.2.2.1, σ.2.2.2.2.2.2.2.2.1, σ.2.2.2.2.2.2.2.2.2)) := hD
  -- iinc
  refine lv_iinc (v := 8) (lv' := [(1, .int 8), (0, .ref (h 0))]) hx hb dX2_init__15 hl (k := 0) rfl (by decide) (by decide) rfl (fun ls hl => ?_)
  refine lv_goto (tgt := 2) hx hb dX2_init__18 (by decide) ?_
  refine lv_iload_n hx hb dX2_init__2 rfl (lv_at hl 0 rfl) ?_
  refine lv_bipush (v := 16) hx hb dX2_init__3 (by decide) ?_
  refine lv_icmp_ge (tgt := 21) hx hb dX2_init__5 (by decide) (fun c9 => absurd c9 (by decide)) (fun _ => ?_)
  refine lv_aload_n hx hb dX2_init__8 rfl (lv_at hl 1 rfl) ?_
  refine va_get (D := (dC, dI)) (ci := 2) (v := .ref (h 2)) (C := RX2) (T := TX2) (N := 4) hx hb hts (fun _ h9 => List.mem_cons_of_mem _ (List.mem_append_left _ (List.mem_append_left _ (List.mem_append_right _ h9)))) hown hK hP 0 rfl rfl 1 (by decide) (hts (.fieldLink RX2 16 "LowPowerCpu" "registers" "[I") (by decide +kernel)) (fun _ h9 => h9) rfl dX2_init__9 ?_
  refine lv_iload_n hx hb dX2_init__12 rfl (lv_at hl 0 rfl) ?_
  refine lv_iconst (v := 0) hx hb dX2_init__13 (by decide) ?_
  refine va_iast hx hb hK hP hD hS 2 0 rfl rfl (in_c (by decide)) dX2_init__14 (fun H locs hP hD hS => ?_)
  have hP : va_P (dC, dI) vwCl (wsC h k (upd (upd (upd (upd (upd (upd (upd (upd (upd σ.1 ((0 : Int32).toNatClampNeg) 0) ((1 : Int32).toNatClampNeg) 0) ((2 : Int32).toNatClampNeg) 0) ((3 : Int32).toNatClampNeg) 0) ((4 : Int32).toNatClampNeg) 0) ((5 : Int32).toNatClampNeg) 0) ((6 : Int32).toNatClampNeg) 0) ((7 : Int32).toNatClampNeg) 0) ((8 : Int32).toNatClampNeg) 0, σ.2.1, σ.2.2.1, σ.2.2.2.1, σ.2.2.2.2.1, σ.2.2.2.2.2.1, σ.2.2.2.2.2.2.1, σ.2.2.2.2.2.2.2.1, σ.2.2.2.2.2.2.2.2.1, σ.2.2.2.2.2.2.2.2.2)) H := hP
  have hD : va_D (AX 5 h s.heap.size) (wsC h k (upd (upd (upd (upd (upd (upd (upd (upd (upd σ.1 ((0 : Int32).toNatClampNeg) 0) ((1 : Int32).toNatClampNeg) 0) ((2 : Int32).toNatClampNeg) 0) ((3 : Int32).toNatClampNeg) 0) ((4 : Int32).toNatClampNeg) 0) ((5 : Int32).toNatClampNeg) 0) ((6 : Int32).toNatClampNeg) 0) ((7 : Int32).toNatClampNeg) 0) ((8 : Int32).toNatClampNeg) 0, σ.2.1, σ.2.2.1, σ.2.2.2.1, σ.2.2.2.2.1, σ.2.2.2.2.2.1, σ.2.2.2.2.2.2.1, σ.2.2.2.2.2.2.2.1, σ.2.2.2.2.2.2.2.2.1, σ.2.2.2.2.2.2.2.2.2)) := hD
  -- iinc
  refine lv_iinc (v := 9) (lv' := [(1, .int 9), (0, .ref (h 0))]) hx hb dX2_init__15 hl (k := 0) rfl (by decide) (by decide) rfl (fun ls hl => ?_)
  refine lv_goto (tgt := 2) hx hb dX2_init__18 (by decide) ?_
  refine lv_iload_n hx hb dX2_init__2 rfl (lv_at hl 0 rfl) ?_
  refine lv_bipush (v := 16) hx hb dX2_init__3 (by decide) ?_
  refine lv_icmp_ge (tgt := 21) hx hb dX2_init__5 (by decide) (fun c10 => absurd c10 (by decide)) (fun _ => ?_)
  refine lv_aload_n hx hb dX2_init__8 rfl (lv_at hl 1 rfl) ?_
  refine va_get (D := (dC, dI)) (ci := 2) (v := .ref (h 2)) (C := RX2) (T := TX2) (N := 4) hx hb hts (fun _ h9 => List.mem_cons_of_mem _ (List.mem_append_left _ (List.mem_append_left _ (List.mem_append_right _ h9)))) hown hK hP 0 rfl rfl 1 (by decide) (hts (.fieldLink RX2 16 "LowPowerCpu" "registers" "[I") (by decide +kernel)) (fun _ h9 => h9) rfl dX2_init__9 ?_
  refine lv_iload_n hx hb dX2_init__12 rfl (lv_at hl 0 rfl) ?_
  refine lv_iconst (v := 0) hx hb dX2_init__13 (by decide) ?_
  refine va_iast hx hb hK hP hD hS 2 0 rfl rfl (in_c (by decide)) dX2_init__14 (fun H locs hP hD hS => ?_)
  have hP : va_P (dC, dI) vwCl (wsC h k (upd (upd (upd (upd (upd (upd (upd (upd (upd (upd σ.1 ((0 : Int32).toNatClampNeg) 0) ((1 : Int32).toNatClampNeg) 0) ((2 : Int32).toNatClampNeg) 0) ((3 : Int32).toNatClampNeg) 0) ((4 : Int32).toNatClampNeg) 0) ((5 : Int32).toNatClampNeg) 0) ((6 : Int32).toNatClampNeg) 0) ((7 : Int32).toNatClampNeg) 0) ((8 : Int32).toNatClampNeg) 0) ((9 : Int32).toNatClampNeg) 0, σ.2.1, σ.2.2.1, σ.2.2.2.1, σ.2.2.2.2.1, σ.2.2.2.2.2.1, σ.2.2.2.2.2.2.1, σ.2.2.2.2.2.2.2.1, σ.2.2.2.2.2.2.2.2.1, σ.2.2.2.2.2.2.2.2.2)) H := hP
  have hD : va_D (AX 5 h s.heap.size) (wsC h k (upd (upd (upd (upd (upd (upd (upd (upd (upd (upd σ.1 ((0 : Int32).toNatClampNeg) 0) ((1 : Int32).toNatClampNeg) 0) ((2 : Int32).toNatClampNeg) 0) ((3 : Int32).toNatClampNeg) 0) ((4 : Int32).toNatClampNeg) 0) ((5 : Int32).toNatClampNeg) 0) ((6 : Int32).toNatClampNeg) 0) ((7 : Int32).toNatClampNeg) 0) ((8 : Int32).toNatClampNeg) 0) ((9 : Int32).toNatClampNeg) 0, σ.2.1, σ.2.2.1, σ.2.2.2.1, σ.2.2.2.2.1, σ.2.2.2.2.2.1, σ.2.2.2.2.2.2.1, σ.2.2.2.2.2.2.2.1, σ.2.2.2.2.2.2.2.2.1, σ.2.2.2.2.2.2.2.2.2)) := hD
  -- iinc
  refine lv_iinc (v := 10) (lv' := [(1, .int 10), (0, .ref (h 0))]) hx hb dX2_init__15 hl (k := 0) rfl (by decide) (by decide) rfl (fun ls hl => ?_)
  refine lv_goto (tgt := 2) hx hb dX2_init__18 (by decide) ?_
  refine lv_iload_n hx hb dX2_init__2 rfl (lv_at hl 0 rfl) ?_
  refine lv_bipush (v := 16) hx hb dX2_init__3 (by decide) ?_
  refine lv_icmp_ge (tgt := 21) hx hb dX2_init__5 (by decide) (fun c11 => absurd c11 (by decide)) (fun _ => ?_)
  refine lv_aload_n hx hb dX2_init__8 rfl (lv_at hl 1 rfl) ?_
  refine va_get (D := (dC, dI)) (ci := 2) (v := .ref (h 2)) (C := RX2) (T := TX2) (N := 4) hx hb hts (fun _ h9 => List.mem_cons_of_mem _ (List.mem_append_left _ (List.mem_append_left _ (List.mem_append_right _ h9)))) hown hK hP 0 rfl rfl 1 (by decide) (hts (.fieldLink RX2 16 "LowPowerCpu" "registers" "[I") (by decide +kernel)) (fun _ h9 => h9) rfl dX2_init__9 ?_
  refine lv_iload_n hx hb dX2_init__12 rfl (lv_at hl 0 rfl) ?_
  refine lv_iconst (v := 0) hx hb dX2_init__13 (by decide) ?_
  refine va_iast hx hb hK hP hD hS 2 0 rfl rfl (in_c (by decide)) dX2_init__14 (fun H locs hP hD hS => ?_)
  have hP : va_P (dC, dI) vwCl (wsC h k (upd (upd (upd (upd (upd (upd (upd (upd (upd (upd (upd σ.1 ((0 : Int32).toNatClampNeg) 0) ((1 : Int32).toNatClampNeg) 0) ((2 : Int32).toNatClampNeg) 0) ((3 : Int32).toNatClampNeg) 0) ((4 : Int32).toNatClampNeg) 0) ((5 : Int32).toNatClampNeg) 0) ((6 : Int32).toNatClampNeg) 0) ((7 : Int32).toNatClampNeg) 0) ((8 : Int32).toNatClampNeg) 0) ((9 : Int32).toNatClampNeg) 0) ((10 : Int32).toNatClampNeg) 0, σ.2.1, σ.2.2.1, σ.2.2.2.1, σ.2.2.2.2.1, σ.2.2.2.2.2.1, σ.2.2.2.2.2.2.1, σ.2.2.2.2.2.2.2.1, σ.2.2.2.2.2.2.2.2.1, σ.2.2.2.2.2.2.2.2.2)) H := hP
  have hD : va_D (AX 5 h s.heap.size) (wsC h k (upd (upd (upd (upd (upd (upd (upd (upd (upd (upd (upd σ.1 ((0 : Int32).toNatClampNeg) 0) ((1 : Int32).toNatClampNeg) 0) ((2 : Int32).toNatClampNeg) 0) ((3 : Int32).toNatClampNeg) 0) ((4 : Int32).toNatClampNeg) 0) ((5 : Int32).toNatClampNeg) 0) ((6 : Int32).toNatClampNeg) 0) ((7 : Int32).toNatClampNeg) 0) ((8 : Int32).toNatClampNeg) 0) ((9 : Int32).toNatClampNeg) 0) ((10 : Int32).toNatClampNeg) 0, σ.2.1, σ.2.2.1, σ.2.2.2.1, σ.2.2.2.2.1, σ.2.2.2.2.2.1, σ.2.2.2.2.2.2.1, σ.2.2.2.2.2.2.2.1, σ.2.2.2.2.2.2.2.2.1, σ.2.2.2.2.2.2.2.2.2)) := hD
  -- iinc
  refine lv_iinc (v := 11) (lv' := [(1, .int 11), (0, .ref (h 0))]) hx hb dX2_init__15 hl (k := 0) rfl (by decide) (by decide) rfl (fun ls hl => ?_)
  refine lv_goto (tgt := 2) hx hb dX2_init__18 (by decide) ?_
  refine lv_iload_n hx hb dX2_init__2 rfl (lv_at hl 0 rfl) ?_
  refine lv_bipush (v := 16) hx hb dX2_init__3 (by decide) ?_
  refine lv_icmp_ge (tgt := 21) hx hb dX2_init__5 (by decide) (fun c12 => absurd c12 (by decide)) (fun _ => ?_)
  refine lv_aload_n hx hb dX2_init__8 rfl (lv_at hl 1 rfl) ?_
  refine va_get (D := (dC, dI)) (ci := 2) (v := .ref (h 2)) (C := RX2) (T := TX2) (N := 4) hx hb hts (fun _ h9 => List.mem_cons_of_mem _ (List.mem_append_left _ (List.mem_append_left _ (List.mem_append_right _ h9)))) hown hK hP 0 rfl rfl 1 (by decide) (hts (.fieldLink RX2 16 "LowPowerCpu" "registers" "[I") (by decide +kernel)) (fun _ h9 => h9) rfl dX2_init__9 ?_
  refine lv_iload_n hx hb dX2_init__12 rfl (lv_at hl 0 rfl) ?_
  refine lv_iconst (v := 0) hx hb dX2_init__13 (by decide) ?_
  refine va_iast hx hb hK hP hD hS 2 0 rfl rfl (in_c (by decide)) dX2_init__14 (fun H locs hP hD hS => ?_)
  have hP : va_P (dC, dI) vwCl (wsC h k (upd (upd (upd (upd (upd (upd (upd (upd (upd (upd (upd (upd σ.1 ((0 : Int32).toNatClampNeg) 0) ((1 : Int32).toNatClampNeg) 0) ((2 : Int32).toNatClampNeg) 0) ((3 : Int32).toNatClampNeg) 0) ((4 : Int32).toNatClampNeg) 0) ((5 : Int32).toNatClampNeg) 0) ((6 : Int32).toNatClampNeg) 0) ((7 : Int32).toNatClampNeg) 0) ((8 : Int32).toNatClampNeg) 0) ((9 : Int32).toNatClampNeg) 0) ((10 : Int32).toNatClampNeg) 0) ((11 : Int32).toNatClampNeg) 0, σ.2.1, σ.2.2.1, σ.2.2.2.1, σ.2.2.2.2.1, σ.2.2.2.2.2.1, σ.2.2.2.2.2.2.1, σ.2.2.2.2.2.2.2.1, σ.2.2.2.2.2.2.2.2.1, σ.2.2.2.2.2.2.2.2.2)) H := hP
  have hD : va_D (AX 5 h s.heap.size) (wsC h k (upd (upd (upd (upd (upd (upd (upd (upd (upd (upd (upd (upd σ.1 ((0 : Int32).toNatClampNeg) 0) ((1 : Int32).toNatClampNeg) 0) ((2 : Int32).toNatClampNeg) 0) ((3 : Int32).toNatClampNeg) 0) ((4 : Int32).toNatClampNeg) 0) ((5 : Int32).toNatClampNeg) 0) ((6 : Int32).toNatClampNeg) 0) ((7 : Int32).toNatClampNeg) 0) ((8 : Int32).toNatClampNeg) 0) ((9 : Int32).toNatClampNeg) 0) ((10 : Int32).toNatClampNeg) 0) ((11 : Int32).toNatClampNeg) 0, σ.2.1, σ.2.2.1, σ.2.2.2.1, σ.2.2.2.2.1, σ.2.2.2.2.2.1, σ.2.2.2.2.2.2.1, σ.2.2.2.2.2.2.2.1, σ.2.2.2.2.2.2.2.2.1, σ.2.2.2.2.2.2.2.2.2)) := hD
  -- iinc
  refine lv_iinc (v := 12) (lv' := [(1, .int 12), (0, .ref (h 0))]) hx hb dX2_init__15 hl (k := 0) rfl (by decide) (by decide) rfl (fun ls hl => ?_)
  refine lv_goto (tgt := 2) hx hb dX2_init__18 (by decide) ?_
  refine lv_iload_n hx hb dX2_init__2 rfl (lv_at hl 0 rfl) ?_
  refine lv_bipush (v := 16) hx hb dX2_init__3 (by decide) ?_
  refine lv_icmp_ge (tgt := 21) hx hb dX2_init__5 (by decide) (fun c13 => absurd c13 (by decide)) (fun _ => ?_)
  refine lv_aload_n hx hb dX2_init__8 rfl (lv_at hl 1 rfl) ?_
  refine va_get (D := (dC, dI)) (ci := 2) (v := .ref (h 2)) (C := RX2) (T := TX2) (N := 4) hx hb hts (fun _ h9 => List.mem_cons_of_mem _ (List.mem_append_left _ (List.mem_append_left _ (List.mem_append_right _ h9)))) hown hK hP 0 rfl rfl 1 (by decide) (hts (.fieldLink RX2 16 "LowPowerCpu" "registers" "[I") (by decide +kernel)) (fun _ h9 => h9) rfl dX2_init__9 ?_
  refine lv_iload_n hx hb dX2_init__12 rfl (lv_at hl 0 rfl) ?_
  refine lv_iconst (v := 0) hx hb dX2_init__13 (by decide) ?_
  refine va_iast hx hb hK hP hD hS 2 0 rfl rfl (in_c (by decide)) dX2_init__14 (fun H locs hP hD hS => ?_)
  have hP : va_P (dC, dI) vwCl (wsC h k (upd (upd (upd (upd (upd (upd (upd (upd (upd (upd (upd (upd (upd σ.1 ((0 : Int32).toNatClampNeg) 0) ((1 : Int32).toNatClampNeg) 0) ((2 : Int32).toNatClampNeg) 0) ((3 : Int32).toNatClampNeg) 0) ((4 : Int32).toNatClampNeg) 0) ((5 : Int32).toNatClampNeg) 0) ((6 : Int32).toNatClampNeg) 0) ((7 : Int32).toNatClampNeg) 0) ((8 : Int32).toNatClampNeg) 0) ((9 : Int32).toNatClampNeg) 0) ((10 : Int32).toNatClampNeg) 0) ((11 : Int32).toNatClampNeg) 0) ((12 : Int32).toNatClampNeg) 0, σ.2.1, σ.2.2.1, σ.2.2.2.1, σ.2.2.2.2.1, σ.2.2.2.2.2.1, σ.2.2.2.2.2.2.1, σ.2.2.2.2.2.2.2.1, σ.2.2.2.2.2.2.2.2.1, σ.2.2.2.2.2.2.2.2.2)) H := hP
  have hD : va_D (AX 5 h s.heap.size) (wsC h k (upd (upd (upd (upd (upd (upd (upd (upd (upd (upd (upd (upd (upd σ.1 ((0 : Int32).toNatClampNeg) 0) ((1 : Int32).toNatClampNeg) 0) ((2 : Int32).toNatClampNeg) 0) ((3 : Int32).toNatClampNeg) 0) ((4 : Int32).toNatClampNeg) 0) ((5 : Int32).toNatClampNeg) 0) ((6 : Int32).toNatClampNeg) 0) ((7 : Int32).toNatClampNeg) 0) ((8 : Int32).toNatClampNeg) 0) ((9 : Int32).toNatClampNeg) 0) ((10 : Int32).toNatClampNeg) 0) ((11 : Int32).toNatClampNeg) 0) ((12 : Int32).toNatClampNeg) 0, σ.2.1, σ.2.2.1, σ.2.2.2.1, σ.2.2.2.2.1, σ.2.2.2.2.2.1, σ.2.2.2.2.2.2.1, σ.2.2.2.2.2.2.2.1, σ.2.2.2.2.2.2.2.2.1, σ.2.2.2.2.2.2.2.2.2)) := hD
  -- iinc
  refine lv_iinc (v := 13) (lv' := [(1, .int 13), (0, .ref (h 0))]) hx hb dX2_init__15 hl (k := 0) rfl (by decide) (by decide) rfl (fun ls hl => ?_)
  refine lv_goto (tgt := 2) hx hb dX2_init__18 (by decide) ?_
  refine lv_iload_n hx hb dX2_init__2 rfl (lv_at hl 0 rfl) ?_
  refine lv_bipush (v := 16) hx hb dX2_init__3 (by decide) ?_
  refine lv_icmp_ge (tgt := 21) hx hb dX2_init__5 (by decide) (fun c14 => absurd c14 (by decide)) (fun _ => ?_)
  refine lv_aload_n hx hb dX2_init__8 rfl (lv_at hl 1 rfl) ?_
  refine va_get (D := (dC, dI)) (ci := 2) (v := .ref (h 2)) (C := RX2) (T := TX2) (N := 4) hx hb hts (fun _ h9 => List.mem_cons_of_mem _ (List.mem_append_left _ (List.mem_append_left _ (List.mem_append_right _ h9)))) hown hK hP 0 rfl rfl 1 (by decide) (hts (.fieldLink RX2 16 "LowPowerCpu" "registers" "[I") (by decide +kernel)) (fun _ h9 => h9) rfl dX2_init__9 ?_
  refine lv_iload_n hx hb dX2_init__12 rfl (lv_at hl 0 rfl) ?_
  refine lv_iconst (v := 0) hx hb dX2_init__13 (by decide) ?_
  refine va_iast hx hb hK hP hD hS 2 0 rfl rfl (in_c (by decide)) dX2_init__14 (fun H locs hP hD hS => ?_)
  have hP : va_P (dC, dI) vwCl (wsC h k (upd (upd (upd (upd (upd (upd (upd (upd (upd (upd (upd (upd (upd (upd σ.1 ((0 : Int32).toNatClampNeg) 0) ((1 : Int32).toNatClampNeg) 0) ((2 : Int32).toNatClampNeg) 0) ((3 : Int32).toNatClampNeg) 0) ((4 : Int32).toNatClampNeg) 0) ((5 : Int32).toNatClampNeg) 0) ((6 : Int32).toNatClampNeg) 0) ((7 : Int32).toNatClampNeg) 0) ((8 : Int32).toNatClampNeg) 0) ((9 : Int32).toNatClampNeg) 0) ((10 : Int32).toNatClampNeg) 0) ((11 : Int32).toNatClampNeg) 0) ((12 : Int32).toNatClampNeg) 0) ((13 : Int32).toNatClampNeg) 0, σ.2.1, σ.2.2.1, σ.2.2.2.1, σ.2.2.2.2.1, σ.2.2.2.2.2.1, σ.2.2.2.2.2.2.1, σ.2.2.2.2.2.2.2.1, σ.2.2.2.2.2.2.2.2.1, σ.2.2.2.2.2.2.2.2.2)) H := hP
  have hD : va_D (AX 5 h s.heap.size) (wsC h k (upd (upd (upd (upd (upd (upd (upd (upd (upd (upd (upd (upd (upd (upd σ.1 ((0 : Int32).toNatClampNeg) 0) ((1 : Int32).toNatClampNeg) 0) ((2 : Int32).toNatClampNeg) 0) ((3 : Int32).toNatClampNeg) 0) ((4 : Int32).toNatClampNeg) 0) ((5 : Int32).toNatClampNeg) 0) ((6 : Int32).toNatClampNeg) 0) ((7 : Int32).toNatClampNeg) 0) ((8 : Int32).toNatClampNeg) 0) ((9 : Int32).toNatClampNeg) 0) ((10 : Int32).toNatClampNeg) 0) ((11 : Int32).toNatClampNeg) 0) ((12 : Int32).toNatClampNeg) 0) ((13 : Int32).toNatClampNeg) 0, σ.2.1, σ.2.2.1, σ.2.2.2.1, σ.2.2.2.2.1, σ.2.2.2.2.2.1, σ.2.2.2.2.2.2.1, σ.2.2.2.2.2.2.2.1, σ.2.2.2.2.2.2.2.2.1, σ.2.2.2.2.2.2.2.2.2)) := hD
  -- iinc
  refine lv_iinc (v := 14) (lv' := [(1, .int 14), (0, .ref (h 0))]) hx hb dX2_init__15 hl (k := 0) rfl (by decide) (by decide) rfl (fun ls hl => ?_)
  refine lv_goto (tgt := 2) hx hb dX2_init__18 (by decide) ?_
  refine lv_iload_n hx hb dX2_init__2 rfl (lv_at hl 0 rfl) ?_
  refine lv_bipush (v := 16) hx hb dX2_init__3 (by decide) ?_
  refine lv_icmp_ge (tgt := 21) hx hb dX2_init__5 (by decide) (fun c15 => absurd c15 (by decide)) (fun _ => ?_)
  refine lv_aload_n hx hb dX2_init__8 rfl (lv_at hl 1 rfl) ?_
  refine va_get (D := (dC, dI)) (ci := 2) (v := .ref (h 2)) (C := RX2) (T := TX2) (N := 4) hx hb hts (fun _ h9 => List.mem_cons_of_mem _ (List.mem_append_left _ (List.mem_append_left _ (List.mem_append_right _ h9)))) hown hK hP 0 rfl rfl 1 (by decide) (hts (.fieldLink RX2 16 "LowPowerCpu" "registers" "[I") (by decide +kernel)) (fun _ h9 => h9) rfl dX2_init__9 ?_
  refine lv_iload_n hx hb dX2_init__12 rfl (lv_at hl 0 rfl) ?_
  refine lv_iconst (v := 0) hx hb dX2_init__13 (by decide) ?_
  refine va_iast hx hb hK hP hD hS 2 0 rfl rfl (in_c (by decide)) dX2_init__14 (fun H locs hP hD hS => ?_)
  have hP : va_P (dC, dI) vwCl (wsC h k (upd (upd (upd (upd (upd (upd (upd (upd (upd (upd (upd (upd (upd (upd (upd σ.1 ((0 : Int32).toNatClampNeg) 0) ((1 : Int32).toNatClampNeg) 0) ((2 : Int32).toNatClampNeg) 0) ((3 : Int32).toNatClampNeg) 0) ((4 : Int32).toNatClampNeg) 0) ((5 : Int32).toNatClampNeg) 0) ((6 : Int32).toNatClampNeg) 0) ((7 : Int32).toNatClampNeg) 0) ((8 : Int32).toNatClampNeg) 0) ((9 : Int32).toNatClampNeg) 0) ((10 : Int32).toNatClampNeg) 0) ((11 : Int32).toNatClampNeg) 0) ((12 : Int32).toNatClampNeg) 0) ((13 : Int32).toNatClampNeg) 0) ((14 : Int32).toNatClampNeg) 0, σ.2.1, σ.2.2.1, σ.2.2.2.1, σ.2.2.2.2.1, σ.2.2.2.2.2.1, σ.2.2.2.2.2.2.1, σ.2.2.2.2.2.2.2.1, σ.2.2.2.2.2.2.2.2.1, σ.2.2.2.2.2.2.2.2.2)) H := hP
  have hD : va_D (AX 5 h s.heap.size) (wsC h k (upd (upd (upd (upd (upd (upd (upd (upd (upd (upd (upd (upd (upd (upd (upd σ.1 ((0 : Int32).toNatClampNeg) 0) ((1 : Int32).toNatClampNeg) 0) ((2 : Int32).toNatClampNeg) 0) ((3 : Int32).toNatClampNeg) 0) ((4 : Int32).toNatClampNeg) 0) ((5 : Int32).toNatClampNeg) 0) ((6 : Int32).toNatClampNeg) 0) ((7 : Int32).toNatClampNeg) 0) ((8 : Int32).toNatClampNeg) 0) ((9 : Int32).toNatClampNeg) 0) ((10 : Int32).toNatClampNeg) 0) ((11 : Int32).toNatClampNeg) 0) ((12 : Int32).toNatClampNeg) 0) ((13 : Int32).toNatClampNeg) 0) ((14 : Int32).toNatClampNeg) 0, σ.2.1, σ.2.2.1, σ.2.2.2.1, σ.2.2.2.2.1, σ.2.2.2.2.2.1, σ.2.2.2.2.2.2.1, σ.2.2.2.2.2.2.2.1, σ.2.2.2.2.2.2.2.2.1, σ.2.2.2.2.2.2.2.2.2)) := hD
  -- iinc
  refine lv_iinc (v := 15) (lv' := [(1, .int 15), (0, .ref (h 0))]) hx hb dX2_init__15 hl (k := 0) rfl (by decide) (by decide) rfl (fun ls hl => ?_)
  refine lv_goto (tgt := 2) hx hb dX2_init__18 (by decide) ?_
  refine lv_iload_n hx hb dX2_init__2 rfl (lv_at hl 0 rfl) ?_
  refine lv_bipush (v := 16) hx hb dX2_init__3 (by decide) ?_
  refine lv_icmp_ge (tgt := 21) hx hb dX2_init__5 (by decide) (fun c16 => absurd c16 (by decide)) (fun _ => ?_)
  refine lv_aload_n hx hb dX2_init__8 rfl (lv_at hl 1 rfl) ?_
  refine va_get (D := (dC, dI)) (ci := 2) (v := .ref (h 2)) (C := RX2) (T := TX2) (N := 4) hx hb hts (fun _ h9 => List.mem_cons_of_mem _ (List.mem_append_left _ (List.mem_append_left _ (List.mem_append_right _ h9)))) hown hK hP 0 rfl rfl 1 (by decide) (hts (.fieldLink RX2 16 "LowPowerCpu" "registers" "[I") (by decide +kernel)) (fun _ h9 => h9) rfl dX2_init__9 ?_
  refine lv_iload_n hx hb dX2_init__12 rfl (lv_at hl 0 rfl) ?_
  refine lv_iconst (v := 0) hx hb dX2_init__13 (by decide) ?_
  refine va_iast hx hb hK hP hD hS 2 0 rfl rfl (in_c (by decide)) dX2_init__14 (fun H locs hP hD hS => ?_)
  have hP : va_P (dC, dI) vwCl (wsC h k (upd (upd (upd (upd (upd (upd (upd (upd (upd (upd (upd (upd (upd (upd (upd (upd σ.1 ((0 : Int32).toNatClampNeg) 0) ((1 : Int32).toNatClampNeg) 0) ((2 : Int32).toNatClampNeg) 0) ((3 : Int32).toNatClampNeg) 0) ((4 : Int32).toNatClampNeg) 0) ((5 : Int32).toNatClampNeg) 0) ((6 : Int32).toNatClampNeg) 0) ((7 : Int32).toNatClampNeg) 0) ((8 : Int32).toNatClampNeg) 0) ((9 : Int32).toNatClampNeg) 0) ((10 : Int32).toNatClampNeg) 0) ((11 : Int32).toNatClampNeg) 0) ((12 : Int32).toNatClampNeg) 0) ((13 : Int32).toNatClampNeg) 0) ((14 : Int32).toNatClampNeg) 0) ((15 : Int32).toNatClampNeg) 0, σ.2.1, σ.2.2.1, σ.2.2.2.1, σ.2.2.2.2.1, σ.2.2.2.2.2.1, σ.2.2.2.2.2.2.1, σ.2.2.2.2.2.2.2.1, σ.2.2.2.2.2.2.2.2.1, σ.2.2.2.2.2.2.2.2.2)) H := hP
  have hD : va_D (AX 5 h s.heap.size) (wsC h k (upd (upd (upd (upd (upd (upd (upd (upd (upd (upd (upd (upd (upd (upd (upd (upd σ.1 ((0 : Int32).toNatClampNeg) 0) ((1 : Int32).toNatClampNeg) 0) ((2 : Int32).toNatClampNeg) 0) ((3 : Int32).toNatClampNeg) 0) ((4 : Int32).toNatClampNeg) 0) ((5 : Int32).toNatClampNeg) 0) ((6 : Int32).toNatClampNeg) 0) ((7 : Int32).toNatClampNeg) 0) ((8 : Int32).toNatClampNeg) 0) ((9 : Int32).toNatClampNeg) 0) ((10 : Int32).toNatClampNeg) 0) ((11 : Int32).toNatClampNeg) 0) ((12 : Int32).toNatClampNeg) 0) ((13 : Int32).toNatClampNeg) 0) ((14 : Int32).toNatClampNeg) 0) ((15 : Int32).toNatClampNeg) 0, σ.2.1, σ.2.2.1, σ.2.2.2.1, σ.2.2.2.2.1, σ.2.2.2.2.2.1, σ.2.2.2.2.2.2.1, σ.2.2.2.2.2.2.2.1, σ.2.2.2.2.2.2.2.2.1, σ.2.2.2.2.2.2.2.2.2)) := hD
  -- iinc
  refine lv_iinc (v := 16) (lv' := [(1, .int 16), (0, .ref (h 0))]) hx hb dX2_init__15 hl (k := 0) rfl (by decide) (by decide) rfl (fun ls hl => ?_)
  refine lv_goto (tgt := 2) hx hb dX2_init__18 (by decide) ?_
  refine lv_iload_n hx hb dX2_init__2 rfl (lv_at hl 0 rfl) ?_
  refine lv_bipush (v := 16) hx hb dX2_init__3 (by decide) ?_
  refine lv_icmp_ge (tgt := 21) hx hb dX2_init__5 (by decide) (fun _ => ?_) (fun c17 => absurd c17 (by decide))
  refine lv_aload_n hx hb dX2_init__21 rfl (lv_at hl 1 rfl) ?_
  refine lv_iconst (v := 0) hx hb dX2_init__22 (by decide) ?_
  refine va_put (D := (dC, dI)) (ci := 2) (v := .int 0) (ty := .int) (C := RX2) (T := TX2) (N := 4) hx hb hts (fun _ h9 => List.mem_cons_of_mem _ (List.mem_append_left _ (List.mem_append_left _ (List.mem_append_right _ h9)))) tyX2 tyX2_ok nmX2 hown hK hP hD hS 0 rfl rfl 2 (by decide) (hts (.fieldLink RX2 23 "LowPowerCpu" "pendingLines" "I") (by decide +kernel)) (fun _ h9 => h9) rfl (by decide +kernel) rfl rfl (Nat.le_of_ble_eq_true rfl) dX2_init__23 (fun H locs hP hD hS => ?_)
  have hP : va_P (dC, dI) vwCl (wsC h k (upd (upd (upd (upd (upd (upd (upd (upd (upd (upd (upd (upd (upd (upd (upd (upd σ.1 ((0 : Int32).toNatClampNeg) 0) ((1 : Int32).toNatClampNeg) 0) ((2 : Int32).toNatClampNeg) 0) ((3 : Int32).toNatClampNeg) 0) ((4 : Int32).toNatClampNeg) 0) ((5 : Int32).toNatClampNeg) 0) ((6 : Int32).toNatClampNeg) 0) ((7 : Int32).toNatClampNeg) 0) ((8 : Int32).toNatClampNeg) 0) ((9 : Int32).toNatClampNeg) 0) ((10 : Int32).toNatClampNeg) 0) ((11 : Int32).toNatClampNeg) 0) ((12 : Int32).toNatClampNeg) 0) ((13 : Int32).toNatClampNeg) 0) ((14 : Int32).toNatClampNeg) 0) ((15 : Int32).toNatClampNeg) 0, 0, σ.2.2.1, σ.2.2.2.1, σ.2.2.2.2.1, σ.2.2.2.2.2.1, σ.2.2.2.2.2.2.1, σ.2.2.2.2.2.2.2.1, σ.2.2.2.2.2.2.2.2.1, σ.2.2.2.2.2.2.2.2.2)) H := hP
  have hD : va_D (AX 5 h s.heap.size) (wsC h k (upd (upd (upd (upd (upd (upd (upd (upd (upd (upd (upd (upd (upd (upd (upd (upd σ.1 ((0 : Int32).toNatClampNeg) 0) ((1 : Int32).toNatClampNeg) 0) ((2 : Int32).toNatClampNeg) 0) ((3 : Int32).toNatClampNeg) 0) ((4 : Int32).toNatClampNeg) 0) ((5 : Int32).toNatClampNeg) 0) ((6 : Int32).toNatClampNeg) 0) ((7 : Int32).toNatClampNeg) 0) ((8 : Int32).toNatClampNeg) 0) ((9 : Int32).toNatClampNeg) 0) ((10 : Int32).toNatClampNeg) 0) ((11 : Int32).toNatClampNeg) 0) ((12 : Int32).toNatClampNeg) 0) ((13 : Int32).toNatClampNeg) 0) ((14 : Int32).toNatClampNeg) 0) ((15 : Int32).toNatClampNeg) 0, 0, σ.2.2.1, σ.2.2.2.1, σ.2.2.2.2.1, σ.2.2.2.2.2.1, σ.2.2.2.2.2.2.1, σ.2.2.2.2.2.2.2.1, σ.2.2.2.2.2.2.2.2.1, σ.2.2.2.2.2.2.2.2.2)) := hD
  refine lv_aload_n hx hb dX2_init__26 rfl (lv_at hl 1 rfl) ?_
  refine lv_iconst (v := 0) hx hb dX2_init__27 (by decide) ?_
  refine va_put (D := (dC, dI)) (ci := 2) (v := .int 0) (ty := .int) (C := RX2) (T := TX2) (N := 4) hx hb hts (fun _ h9 => List.mem_cons_of_mem _ (List.mem_append_left _ (List.mem_append_left _ (List.mem_append_right _ h9)))) tyX2 tyX2_ok nmX2 hown hK hP hD hS 0 rfl rfl 3 (by decide) (hts (.fieldLink RX2 27 "LowPowerCpu" "cycles" "I") (by decide +kernel)) (fun _ h9 => h9) rfl (by decide +kernel) rfl rfl (Nat.le_of_ble_eq_true rfl) dX2_init__28 (fun H locs hP hD hS => ?_)
  have hP : va_P (dC, dI) vwCl (wsC h k (upd (upd (upd (upd (upd (upd (upd (upd (upd (upd (upd (upd (upd (upd (upd (upd σ.1 ((0 : Int32).toNatClampNeg) 0) ((1 : Int32).toNatClampNeg) 0) ((2 : Int32).toNatClampNeg) 0) ((3 : Int32).toNatClampNeg) 0) ((4 : Int32).toNatClampNeg) 0) ((5 : Int32).toNatClampNeg) 0) ((6 : Int32).toNatClampNeg) 0) ((7 : Int32).toNatClampNeg) 0) ((8 : Int32).toNatClampNeg) 0) ((9 : Int32).toNatClampNeg) 0) ((10 : Int32).toNatClampNeg) 0) ((11 : Int32).toNatClampNeg) 0) ((12 : Int32).toNatClampNeg) 0) ((13 : Int32).toNatClampNeg) 0) ((14 : Int32).toNatClampNeg) 0) ((15 : Int32).toNatClampNeg) 0, 0, 0, σ.2.2.2.1, σ.2.2.2.2.1, σ.2.2.2.2.2.1, σ.2.2.2.2.2.2.1, σ.2.2.2.2.2.2.2.1, σ.2.2.2.2.2.2.2.2.1, σ.2.2.2.2.2.2.2.2.2)) H := hP
  have hD : va_D (AX 5 h s.heap.size) (wsC h k (upd (upd (upd (upd (upd (upd (upd (upd (upd (upd (upd (upd (upd (upd (upd (upd σ.1 ((0 : Int32).toNatClampNeg) 0) ((1 : Int32).toNatClampNeg) 0) ((2 : Int32).toNatClampNeg) 0) ((3 : Int32).toNatClampNeg) 0) ((4 : Int32).toNatClampNeg) 0) ((5 : Int32).toNatClampNeg) 0) ((6 : Int32).toNatClampNeg) 0) ((7 : Int32).toNatClampNeg) 0) ((8 : Int32).toNatClampNeg) 0) ((9 : Int32).toNatClampNeg) 0) ((10 : Int32).toNatClampNeg) 0) ((11 : Int32).toNatClampNeg) 0) ((12 : Int32).toNatClampNeg) 0) ((13 : Int32).toNatClampNeg) 0) ((14 : Int32).toNatClampNeg) 0) ((15 : Int32).toNatClampNeg) 0, 0, 0, σ.2.2.2.1, σ.2.2.2.2.1, σ.2.2.2.2.2.1, σ.2.2.2.2.2.2.1, σ.2.2.2.2.2.2.2.1, σ.2.2.2.2.2.2.2.2.1, σ.2.2.2.2.2.2.2.2.2)) := hD
  refine lv_aload_n hx hb dX2_init__31 rfl (lv_at hl 1 rfl) ?_
  refine va_get (D := (dC, dI)) (ci := 2) (v := .ref (h 1)) (C := RX2) (T := TX2) (N := 4) hx hb hts (fun _ h9 => List.mem_cons_of_mem _ (List.mem_append_left _ (List.mem_append_left _ (List.mem_append_right _ h9)))) hown hK hP 0 rfl rfl 0 (by decide) (hts (.fieldLink RX2 12 "LowPowerCpu" "memory" "LLowPowerCpu$Memory;") (by decide +kernel)) (fun _ h9 => h9) rfl dX2_init__32 ?_
  refine va_getN (D := (dC, dI)) (ci := 0) (v := .ref (h 4)) (C := RX0) (T := TX0) (N := 2) hx hb hts (fun _ h9 => List.mem_cons_of_mem _ (List.mem_append_left _ (List.mem_append_right _ h9))) hown hK hP 1 rfl rfl 1 (by decide) (va_Nw.use rfl (hN (.fieldLinkNest RX2 30 "LowPowerCpu$Memory" "multiplier" "LLowPowerCpu$Multiplier;" RX2) (List.mem_of_getElem? (i := 12) rfl))) (fun _ h9 => h9) rfl dX2_init__35 ?_
  refine callC_v (va_runVN (As := []) (rest := []) ⟨hx, hb, hml, hown, hts⟩ (c_X1_clear l dC dI h k g _ (upd (upd (upd (upd (upd (upd (upd (upd (upd (upd (upd (upd (upd (upd (upd (upd σ.1 ((0 : Int32).toNatClampNeg) 0) ((1 : Int32).toNatClampNeg) 0) ((2 : Int32).toNatClampNeg) 0) ((3 : Int32).toNatClampNeg) 0) ((4 : Int32).toNatClampNeg) 0) ((5 : Int32).toNatClampNeg) 0) ((6 : Int32).toNatClampNeg) 0) ((7 : Int32).toNatClampNeg) 0) ((8 : Int32).toNatClampNeg) 0) ((9 : Int32).toNatClampNeg) 0) ((10 : Int32).toNatClampNeg) 0) ((11 : Int32).toNatClampNeg) 0) ((12 : Int32).toNatClampNeg) 0) ((13 : Int32).toNatClampNeg) 0) ((14 : Int32).toNatClampNeg) 0) ((15 : Int32).toNatClampNeg) 0, 0, 0, σ.2.2.2.1, σ.2.2.2.2.1, σ.2.2.2.2.2.1, σ.2.2.2.2.2.2.1, σ.2.2.2.2.2.2.2.1, σ.2.2.2.2.2.2.2.2.1, σ.2.2.2.2.2.2.2.2.2) ) ⟨va_cnB 0 hts gX2_init__X1_clear_n34 rfl rfl rfl (hN (.methodLinkNest RX2 34 yX1_clear RX2) (List.mem_of_getElem? (i := 2) rfl)) (hts (.initialized RX1) (by decide +kernel)) (by decide +kernel) ⟨Nat.le_of_ble_eq_true rfl, Nat.le_of_ble_eq_true rfl⟩, hts (.instanceMethod yX1_clear) (by decide +kernel), hts (.selects RX1 yX1_clear yX1_clear) (by decide +kernel)⟩ (preC_V (ci := 1) (q0 := 4) hct hP hD hS rfl rfl) rfl rfl hl.1 rfl (lv_room (Nat.le_of_ble_eq_true rfl)) dX2_init__38 ⟨Nat.le_of_ble_eq_true rfl, Nat.le_of_ble_eq_true rfl⟩) hS (fun σ18 H locs eσ18 hP hD hS => ?_)
  refine lv_aload_n hx hb dX2_init__41 rfl (lv_at hl 1 rfl) ?_
  refine lv_iconst (v := 0) hx hb dX2_init__42 (by decide) ?_
  refine lv_aload_n hx hb dX2_init__43 rfl (lv_at hl 1 rfl) ?_
  refine va_get (D := (dC, dI)) (ci := 2) (v := .ref (h 1)) (C := RX2) (T := TX2) (N := 4) hx hb hts (fun _ h9 => List.mem_cons_of_mem _ (List.mem_append_left _ (List.mem_append_left _ (List.mem_append_right _ h9)))) hown hK hP 0 rfl rfl 0 (by decide) (hts (.fieldLink RX2 12 "LowPowerCpu" "memory" "LLowPowerCpu$Memory;") (by decide +kernel)) (fun _ h9 => h9) rfl dX2_init__44 ?_
  refine lv_ldc (v := 65534) hx hb hown (hts (.constant RX2 39 65534) (by decide +kernel)) dX2_init__47 ?_
  refine callC_ip (va_runVN (As := [.int 65534]) (rest := [.int 0, .ref (h 0)]) ⟨hx, hb, hml, hown, hts⟩ (c_X0_wordAt l dC dI h k g _ σ18 65534) ⟨va_cnB 1 hts gX2_init__X0_wordAt_n40 rfl rfl rfl (hN (.methodLinkNest RX2 40 yX0_wordAt RX2) (List.mem_of_getElem? (i := 3) rfl)) (hts (.initialized RX0) (by decide +kernel)) (by decide +kernel) ⟨Nat.le_of_ble_eq_true rfl, Nat.le_of_ble_eq_true rfl⟩, hts (.instanceMethod yX0_wordAt) (by decide +kernel), hts (.selects RX0 yX0_wordAt yX0_wordAt) (by decide +kernel)⟩ (preC_V (ci := 0) (q0 := 1) hct hP hD hS rfl rfl) rfl rfl hl.1 rfl (lv_room (Nat.le_of_ble_eq_true rfl)) dX2_init__49 ⟨Nat.le_of_ble_eq_true rfl, Nat.le_of_ble_eq_true rfl⟩) hS (fun x19 H locs ex19 hP hD hS => ?_)
  refine callC_v (va_runV (As := [.int 0, .int x19]) (rest := []) ⟨hx, hb, hml, hown, hts⟩ (c_X2_setRegister l dC dI h k g _ σ18 0 x19) (cwV 2 hts gX2_init__X2_setRegister rfl rfl rfl (by decide +kernel) ⟨Nat.le_of_ble_eq_true rfl, Nat.le_of_ble_eq_true rfl⟩) (preC_V (ci := 2) (q0 := 0) hct hP hD hS rfl rfl) rfl rfl hl.1 rfl (lv_room (Nat.le_of_ble_eq_true rfl)) dX2_init__52 ⟨Nat.le_of_ble_eq_true rfl, Nat.le_of_ble_eq_true rfl⟩) hS (fun σ20 H locs eσ20 hP hD hS => ?_)
  exact retC_v hx hb hr hlocks (by subst eσ20; subst ex19; subst eσ18; exact rfl) hP hD hS dX2_init__55
