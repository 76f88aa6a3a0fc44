set_option maxHeartbeats 4000000 in
set_option maxRecDepth 100000 in
theorem c_X2_push (l : Launch) (dC : Nat → ClassId) (dI : Nat → Nat → Nat) (h : Nat → Nat) (k : Nat → ClassId) (g : Nat → Nat) (sz : Nat) (σ : StC) (a1 : Int32) (a2 : Int32) : Met l yX2_push wsX2_push ({ frames := 4, cells := 0, slots := 0, locals := 90 }) (PcC (dC, dI) h k g [.ref (h 0), .int a1, .int a2] sz σ) (va_Qv (fun u => u = f_X2_push σ a1 a2) (BC (dC, dI) h k (AX 5 h sz)) (AX 5 h sz)) 0 0 (AX 5 h sz) := by
  refine Met.ofW (cc := cX2_push) (maxL := 3) (ret := none) (by decide) rfl ?_
  intro p e s m args below meth c s₁ B hml hv
  obtain ⟨rfl, rfl, hP, hct, hD⟩ := hv
  have hx := B.exec
  have hb := B.bytes
  have hr := B.returns
  have hts := atoms_spec (ws := wsX2_push) B.pre
  have hown : s.vm.findClass RX2 = some m.cls := findClass_of_methodNamed B.named
  have hlocks := B.notSynchronized
  have hK := hct.1
  have hN := hct.2.1
  have hS : va_S (AX 5 h s.heap.size) s.heap s.heap [] := va_S.rf
  have hl := lv_entry ([.ref (h 0), .int a1, .int a2]) (n := 3) (Nat.le_of_ble_eq_true rfl)
  rw [lg_entry_eq]
  generalize (lg_sl ([.ref (h 0), .int a1, .int a2]) ++ List.replicate (3 - (lg_sl ([.ref (h 0), .int a1, .int a2])).length) Slot.unset).toArray = ls at hl ⊢
  have hl : lv_has ls 3 [(0, .ref (h 0)), (1, .int a1), (2, .int a2)] := hl
  refine lv_aload_n hx hb dX2_push_0 rfl (lv_at hl 0 rfl) ?_
  refine lv_iconst (v := 1) hx hb dX2_push_1 (by decide) ?_
  refine lv_bipush (v := (-2)) hx hb dX2_push_2 (by decide) ?_
  refine callC_v (va_runV (As := [.int 1, .int (-2)]) (rest := []) ⟨hx, hb, hml, hown, hts⟩ (c_X2_addToRegister l dC dI h k g _ σ 1 (-2)) (cwV 2 hts gX2_push_X2_addToRegister rfl rfl rfl (by decide +kernel) ⟨Nat.le_of_ble_eq_true rfl, Nat.le_of_ble_eq_true rfl⟩) (preC_V (ci := 2) (q0 := 0) hct hP hD hS rfl rfl) rfl rfl hl.1 rfl (lv_room (Nat.le_of_ble_eq_true rfl)) dX2_push_4 ⟨Nat.le_of_ble_eq_true rfl, Nat.le_of_ble_eq_true rfl⟩) hS (fun σ1 H locs eσ1 hP hD hS => ?_)
  refine lv_iload_n hx hb dX2_push_7 rfl (lv_at hl 2 rfl) ?_
  refine lv_if_eq (tgt := 28) hx hb dX2_push_8 (by decide) (fun c2 => ?_) (fun c2 => ?_)
  · refine lv_aload_n hx hb dX2_push_28 rfl (lv_at hl 0 rfl) ?_
    refine va_get (D := (dC, dI)) (ci := 2) (v := .ref (h 1)) (C := RX2) (T := TX2) (N := 4) hx hb hts (fun _ h9 => List.mem_cons_of_mem _ (List.mem_append_left _ (List.mem_append_left _ (List.mem_append_right _ h9)))) hown hK hP 0 rfl rfl 0 (by decide) (hts (.fieldLink RX2 12 "LowPowerCpu" "memory" "LLowPowerCpu$Memory;") (by decide +kernel)) (fun _ h9 => h9) rfl dX2_push_29 ?_
    refine lv_aload_n hx hb dX2_push_32 rfl (lv_at hl 0 rfl) ?_
    refine va_get (D := (dC, dI)) (ci := 2) (v := .ref (h 2)) (C := RX2) (T := TX2) (N := 4) hx hb hts (fun _ h9 => List.mem_cons_of_mem _ (List.mem_append_left _ (List.mem_append_left _ (List.mem_append_right _ h9)))) hown hK hP 0 rfl rfl 1 (by decide) (hts (.fieldLink RX2 16 "LowPowerCpu" "registers" "[I") (by decide +kernel)) (fun _ h9 => h9) rfl dX2_push_33 ?_
    refine lv_iconst (v := 1) hx hb dX2_push_36 (by decide) ?_
    refine va_iald hx hb hK hP 2 0 rfl rfl (in_c (by decide)) dX2_push_37 ?_
    refine lv_iload_n hx hb dX2_push_38 rfl (lv_at hl 1 rfl) ?_
    refine callC_v (va_runVN (As := [.int (σ1.1 (1 : Int32).toNatClampNeg), .int a1]) (rest := []) ⟨hx, hb, hml, hown, hts⟩ (c_X0_writeWord l dC dI h k g _ σ1 (σ1.1 (1 : Int32).toNatClampNeg) a1) ⟨va_cnB 2 hts gX2_push_X0_writeWord_n156 rfl rfl rfl (hN (.methodLinkNest RX2 156 yX0_writeWord RX2) (List.mem_of_getElem? (i := 10) rfl)) (hts (.initialized RX0) (by decide +kernel)) (by decide +kernel) ⟨Nat.le_of_ble_eq_true rfl, Nat.le_of_ble_eq_true rfl⟩, hts (.instanceMethod yX0_writeWord) (by decide +kernel), hts (.selects RX0 yX0_writeWord yX0_writeWord) (by decide +kernel)⟩ (preC_V (ci := 0) (q0 := 1) hct hP hD hS rfl rfl) rfl rfl hl.1 rfl (lv_room (Nat.le_of_ble_eq_true rfl)) dX2_push_39 ⟨Nat.le_of_ble_eq_true rfl, Nat.le_of_ble_eq_true rfl⟩) hS (fun σ3 H locs eσ3 hP hD hS => ?_)
    exact retC_v hx hb hr hlocks (by subst eσ3; subst eσ1; exact if_pos c2) hP hD hS dX2_push_42
  · refine lv_aload_n hx hb dX2_push_11 rfl (lv_at hl 0 rfl) ?_
    refine va_get (D := (dC, dI)) (ci := 2) (v := .ref (h 1)) (C := RX2) (T := TX2) (N := 4) hx hb hts (fun _ h9 => List.mem_cons_of_mem _ (List.mem_append_left _ (List.mem_append_left _ (List.mem_append_right _ h9)))) hown hK hP 0 rfl rfl 0 (by decide) (hts (.fieldLink RX2 12 "LowPowerCpu" "memory" "LLowPowerCpu$Memory;") (by decide +kernel)) (fun _ h9 => h9) rfl dX2_push_12 ?_
    refine lv_aload_n hx hb dX2_push_15 rfl (lv_at hl 0 rfl) ?_
    refine va_get (D := (dC, dI)) (ci := 2) (v := .ref (h 2)) (C := RX2) (T := TX2) (N := 4) hx hb hts (fun _ h9 => List.mem_cons_of_mem _ (List.mem_append_left _ (List.mem_append_left _ (List.mem_append_right _ h9)))) hown hK hP 0 rfl rfl 1 (by decide) (hts (.fieldLink RX2 16 "LowPowerCpu" "registers" "[I") (by decide +kernel)) (fun _ h9 => h9) rfl dX2_push_16 ?_
    refine lv_iconst (v := 1) hx hb dX2_push_19 (by decide) ?_
    refine va_iald hx hb hK hP 2 0 rfl rfl (in_c (by decide)) dX2_push_20 ?_
    refine lv_iload_n hx hb dX2_push_21 rfl (lv_at hl 1 rfl) ?_
    refine callC_v (va_runVN (As := [.int (σ1.1 (1 : Int32).toNatClampNeg), .int a1]) (rest := []) ⟨hx, hb, hml, hown, hts⟩ (c_X0_writeByte l dC dI h k g _ σ1 (σ1.1 (1 : Int32).toNatClampNeg) a1) ⟨va_cnB 2 hts gX2_push_X0_writeByte_n153 rfl rfl rfl (hN (.methodLinkNest RX2 153 yX0_writeByte RX2) (List.mem_of_getElem? (i := 8) rfl)) (hts (.initialized RX0) (by decide +kernel)) (by decide +kernel) ⟨Nat.le_of_ble_eq_true rfl, Nat.le_of_ble_eq_true rfl⟩, hts (.instanceMethod yX0_writeByte) (by decide +kernel), hts (.selects RX0 yX0_writeByte yX0_writeByte) (by decide +kernel)⟩ (preC_V (ci := 0) (q0 := 1) hct hP hD hS rfl rfl) rfl rfl hl.1 rfl (lv_room (Nat.le_of_ble_eq_true rfl)) dX2_push_22 ⟨Nat.le_of_ble_eq_true rfl, Nat.le_of_ble_eq_true rfl⟩) hS (fun σ4 H locs eσ4 hP hD hS => ?_)
    refine lv_goto (tgt := 42) hx hb dX2_push_25 (by decide) ?_
    exact retC_v hx hb hr hlocks (by subst eσ4; subst eσ1; exact if_neg c2) hP hD hS dX2_push_42

set_option maxHeartbeats 4000000 in
set_option maxRecDepth 100000 in
theorem c_X2_pop (l : Launch) (dC : Nat → ClassId) (dI : Nat → Nat → Nat) (h : Nat → Nat) (k : Nat → ClassId) (g : Nat → Nat) (sz : Nat) (σ : StC) : Met l yX2_pop wsX2_pop ({ frames := 2, cells := 0, slots := 0, locals := 44 }) (PcC (dC, dI) h k g [.ref (h 0)] sz σ) (va_Qi (fun r u => (r, u) = (f_X2_pop σ)) (BC (dC, dI) h k (AX 5 h sz)) (AX 5 h sz)) 0 0 (AX 5 h sz) := by
  refine Met.ofW (cc := cX2_pop) (maxL := 2) (ret := (some .int)) (by decide) rfl ?_
  intro p e s m args below meth c s₁ B hml hv
  obtain ⟨rfl, rfl, hP, hct, hD⟩ := hv
  have hx := B.exec
  have hb := B.bytes
  have hr := B.returns
  have hts := atoms_spec (ws := wsX2_pop) B.pre
  have hown : s.vm.findClass RX2 = some m.cls := findClass_of_methodNamed B.named
  have hlocks := B.notSynchronized
  have hK := hct.1
  have hN := hct.2.1
  have hS : va_S (AX 5 h s.heap.size) s.heap s.heap [] := va_S.rf
  have hl := lv_entry ([.ref (h 0)]) (n := 2) (Nat.le_of_ble_eq_true rfl)
  rw [lg_entry_eq]
  generalize (lg_sl ([.ref (h 0)]) ++ List.replicate (2 - (lg_sl ([.ref (h 0)])).length) Slot.unset).toArray = ls at hl ⊢
  have hl : lv_has ls 2 [(0, .ref (h 0))] := hl
  refine lv_aload_n hx hb dX2_pop_0 rfl (lv_at hl 0 rfl) ?_
  refine va_get (D := (dC, dI)) (ci := 2) (v := .ref (h 1)) (C := RX2) (T := TX2) (N := 4) hx hb hts (fun _ h9 => List.mem_cons_of_mem _ (List.mem_append_left _ (List.mem_append_left _ (List.mem_append_right _ h9)))) hown hK hP 0 rfl rfl 0 (by decide) (hts (.fieldLink RX2 12 "LowPowerCpu" "memory" "LLowPowerCpu$Memory;") (by decide +kernel)) (fun _ h9 => h9) rfl dX2_pop_1 ?_
  refine lv_aload_n hx hb dX2_pop_4 rfl (lv_at hl 0 rfl) ?_
  refine va_get (D := (dC, dI)) (ci := 2) (v := .ref (h 2)) (C := RX2) (T := TX2) (N := 4) hx hb hts (fun _ h9 => List.mem_cons_of_mem _ (List.mem_append_left _ (List.mem_append_left _ (List.mem_append_right _ h9)))) hown hK hP 0 rfl rfl 1 (by decide) (hts (.fieldLink RX2 16 "LowPowerCpu" "registers" "[I") (by decide +kernel)) (fun _ h9 => h9) rfl dX2_pop_5 ?_
  refine lv_iconst (v := 1) hx hb dX2_pop_8 (by decide) ?_
  refine va_iald hx hb hK hP 2 0 rfl rfl (in_c (by decide)) dX2_pop_9 ?_
  refine callC_ip (va_runVN (As := [.int (σ.1 (1 : Int32).toNatClampNeg)]) (rest := []) ⟨hx, hb, hml, hown, hts⟩ (c_X0_wordAt l dC dI h k g _ σ (σ.1 (1 : Int32).toNatClampNeg)) ⟨va_cnB 1 hts gX2_pop_X0_wordAt_n40 rfl rfl rfl (hN (.methodLinkNest RX2 40 yX0_wordAt RX2) (List.mem_of_getElem? (i := 3) rfl)) (hts (.initialized RX0) (by decide +kernel)) (by decide +kernel) ⟨Nat.le_of_ble_eq_true rfl, Nat.le_of_ble_eq_true rfl⟩, hts (.instanceMethod yX0_wordAt) (by decide +kernel), hts (.selects RX0 yX0_wordAt yX0_wordAt) (by decide +kernel)⟩ (preC_V (ci := 0) (q0 := 1) hct hP hD hS rfl rfl) rfl rfl hl.1 rfl (lv_room (Nat.le_of_ble_eq_true rfl)) dX2_pop_10 ⟨Nat.le_of_ble_eq_true rfl, Nat.le_of_ble_eq_true rfl⟩) hS (fun x1 H locs ex1 hP hD hS => ?_)
  refine lv_istore_n (lv' := [(1, .int x1), (0, .ref (h 0))]) hx hb dX2_pop_13 rfl hl (by decide) rfl (fun ls hl => ?_)
  refine lv_aload_n hx hb dX2_pop_14 rfl (lv_at hl 1 rfl) ?_
  refine lv_iconst (v := 1) hx hb dX2_pop_15 (by decide) ?_
  refine lv_iconst (v := 2) hx hb dX2_pop_16 (by decide) ?_
  refine callC_v (va_runV (As := [.int 1, .int 2]) (rest := []) ⟨hx, hb, hml, hown, hts⟩ (c_X2_addToRegister l dC dI h k g _ σ 1 2) (cwV 2 hts gX2_pop_X2_addToRegister rfl rfl rfl (by decide +kernel) ⟨Nat.le_of_ble_eq_true rfl, Nat.le_of_ble_eq_true rfl⟩) (preC_V (ci := 2) (q0 := 0) hct hP hD hS rfl rfl) rfl rfl hl.1 rfl (lv_room (Nat.le_of_ble_eq_true rfl)) dX2_pop_17 ⟨Nat.le_of_ble_eq_true rfl, Nat.le_of_ble_eq_true rfl⟩) hS (fun σ2 H locs eσ2 hP hD hS => ?_)
  refine lv_iload_n hx hb dX2_pop_20 rfl (lv_at hl 0 rfl) ?_
  exact retC_i hx hb hr hlocks (by subst eσ2; subst ex1; exact rfl) hP hD hS dX2_pop_21

set_option maxHeartbeats 4000000 in
set_option maxRecDepth 100000 in
theorem c_X2_highestPendingLine (l : Launch) (dC : Nat → ClassId) (dI : Nat → Nat → Nat) (h : Nat → Nat) (k : Nat → ClassId) (g : Nat → Nat) (sz : Nat) (σ : StC) : Met l yX2_highestPendingLine wsX2_highestPendingLine ({ frames := 0, cells := 0, slots := 0, locals := 0 }) (PcC (dC, dI) h k g [.ref (h 0)] sz σ) (va_Qi (fun r u => (r, u) = (f_X2_highestPendingLine σ, σ)) (BC (dC, dI) h k (AX 5 h sz)) (AX 5 h sz)) 0 0 (AX 5 h sz) := by
  refine Met.ofW (cc := cX2_highestPendingLine) (maxL := 2) (ret := (some .int)) (by decide) rfl ?_
  intro p e s m args below meth c s₁ B hml hv
  obtain ⟨rfl, rfl, hP, hct, hD⟩ := hv
  have hx := B.exec
  have hb := B.bytes
  have hr := B.returns
  have hts := atoms_spec (ws := wsX2_highestPendingLine) B.pre
  have hown : s.vm.findClass RX2 = some m.cls := findClass_of_methodNamed B.named
  have hlocks := B.notSynchronized
  have hK := hct.1
  have hN := hct.2.1
  have hS : va_S (AX 5 h s.heap.size) s.heap s.heap [] := va_S.rf
  have hl := lv_entry ([.ref (h 0)]) (n := 2) (Nat.le_of_ble_eq_true rfl)
  rw [lg_entry_eq]
  generalize (lg_sl ([.ref (h 0)]) ++ List.replicate (2 - (lg_sl ([.ref (h 0)])).length) Slot.unset).toArray = ls at hl ⊢
  have hl : lv_has ls 2 [(0, .ref (h 0))] := hl
  refine lv_bipush (v := 13) hx hb dX2_highestPendingLine_0 (by decide) ?_
  refine lv_istore_n (lv' := [(1, .int 13), (0, .ref (h 0))]) hx hb dX2_highestPendingLine_2 rfl hl (by decide) rfl (fun ls hl => ?_)
  refine lv_iload_n hx hb dX2_highestPendingLine_3 rfl (lv_at hl 0 rfl) ?_
  refine lv_if_le (tgt := 24) hx hb dX2_highestPendingLine_4 (by decide) (fun c1 => absurd c1 (by decide)) (fun _ => ?_)
  refine lv_aload_n hx hb dX2_highestPendingLine_7 rfl (lv_at hl 1 rfl) ?_
  refine va_get (D := (dC, dI)) (ci := 2) (v := .int σ.2.1) (C := RX2) (T := TX2) (N := 4) hx hb hts (fun _ h9 => List.mem_cons_of_mem _ (List.mem_append_right _ h9)) hown hK hP 0 rfl rfl 2 (by decide) (hts (.fieldLink RX2 23 "LowPowerCpu" "pendingLines" "I") (by decide +kernel)) (fun _ h9 => h9) rfl dX2_highestPendingLine_8 ?_
  refine lv_iconst (v := 1) hx hb dX2_highestPendingLine_11 (by decide) ?_
  refine lv_iload_n hx hb dX2_highestPendingLine_12 rfl (lv_at hl 0 rfl) ?_
  refine lv_ishl hx hb dX2_highestPendingLine_13 ?_
  refine lv_topi (fun x2 ex2 => ?_)
  obtain rfl : x2 = 8192 := ex2.trans (by decide)
  refine lv_iand hx hb dX2_highestPendingLine_14 ?_
  refine wj (α := Int32) (D := (dC, dI)) (cl := vwCl) (A := AX 5 h s.heap.size) (H0 := s.heap) (if (σ.2.1 &&& (8192 : Int32)) = 0 then if (σ.2.1 &&& (4096 : Int32)) = 0 then if (σ.2.1 &&& (2048 : Int32)) = 0 then if (σ.2.1 &&& (1024 : Int32)) = 0 then if (σ.2.1 &&& (512 : Int32)) = 0 then if (σ.2.1 &&& (256 : Int32)) = 0 then if (σ.2.1 &&& (128 : Int32)) = 0 then if (σ.2.1 &&& (64 : Int32)) = 0 then if (σ.2.1 &&& (32 : Int32)) = 0 then if (σ.2.1 &&& (16 : Int32)) = 0 then if (σ.2.1 &&& (8 : Int32)) = 0 then if (σ.2.1 &&& (4 : Int32)) = 0 then if (σ.2.1 &&& (2 : Int32)) = 0 then 0 else 1 else 2 else 3 else 4 else 5 else 6 else 7 else 8 else 9 else 10 else 11 else 12 else 13) (fun v4 => wsC h k σ) (fun v4 => [(1, .int v4), (0, .ref (h 0))]) 2 (fun v4 ls => F0 m 24 ls []) ?_ ?_
  · intro v4 ls H locs ev4 hl hP hD hS
    try dsimp only at hl hP hD ⊢
    refine lv_iload_n hx hb dX2_highestPendingLine_24 rfl (lv_at hl 0 rfl) ?_
    exact retC_ip hx hb hr hlocks (by subst ev4; exact rfl) hP hD hS dX2_highestPendingLine_25
  · intro J
    refine lv_if_ne (tgt := 24) hx hb dX2_highestPendingLine_15 (by decide) (fun c3 => ?_) (fun c3 => ?_)
    · exact J (13) ls _ _ (by exact (if_neg c3).symm) (lv_sub hl [0, 1] rfl) hP hD hS
    · -- iinc
      refine lv_iinc (v := 12) (lv' := [(1, .int 12), (0, .ref (h 0))]) hx hb dX2_highestPendingLine_18 hl (k := 0) rfl (by decide) (by decide) rfl (fun ls hl => ?_)
      refine lv_goto (tgt := 3) hx hb dX2_highestPendingLine_21 (by decide) ?_
      refine lv_iload_n hx hb dX2_highestPendingLine_3 rfl (lv_at hl 0 rfl) ?_
      refine lv_if_le (tgt := 24) hx hb dX2_highestPendingLine_4 (by decide) (fun c5 => absurd c5 (by decide)) (fun _ => ?_)
      refine lv_aload_n hx hb dX2_highestPendingLine_7 rfl (lv_at hl 1 rfl) ?_
      refine va_get (D := (dC, dI)) (ci := 2) (v := .int σ.2.1) (C := RX2) (T := TX2) (N := 4) hx hb hts (fun _ h9 => List.mem_cons_of_mem _ (List.mem_append_right _ h9)) hown hK hP 0 rfl rfl 2 (by decide) (hts (.fieldLink RX2 23 "LowPowerCpu" "pendingLines" "I") (by decide +kernel)) (fun _ h9 => h9) rfl dX2_highestPendingLine_8 ?_
      refine lv_iconst (v := 1) hx hb dX2_highestPendingLine_11 (by decide) ?_
      refine lv_iload_n hx hb dX2_highestPendingLine_12 rfl (lv_at hl 0 rfl) ?_
      refine lv_ishl hx hb dX2_highestPendingLine_13 ?_
      refine lv_topi (fun x6 ex6 => ?_)
      obtain rfl : x6 = 4096 := ex6.trans (by decide)
      refine lv_iand hx hb dX2_highestPendingLine_14 ?_
      refine lv_if_ne (tgt := 24) hx hb dX2_highestPendingLine_15 (by decide) (fun c7 => ?_) (fun c7 => ?_)
      · exact J (12) ls _ _ (by exact ((if_pos c3).trans (if_neg c7)).symm) (lv_sub hl [0, 1] rfl) hP hD hS
      · -- iinc
        refine lv_iinc (v := 11) (lv' := [(1, .int 11), (0, .ref (h 0))]) hx hb dX2_highestPendingLine_18 hl (k := 0) rfl (by decide) (by decide) rfl (fun ls hl => ?_)
        refine lv_goto (tgt := 3) hx hb dX2_highestPendingLine_21 (by decide) ?_
        refine lv_iload_n hx hb dX2_highestPendingLine_3 rfl (lv_at hl 0 rfl) ?_
        refine lv_if_le (tgt := 24) hx hb dX2_highestPendingLine_4 (by decide) (fun c8 => absurd c8 (by decide)) (fun _ => ?_)
        refine lv_aload_n hx hb dX2_highestPendingLine_7 rfl (lv_at hl 1 rfl) ?_
        refine va_get (D := (dC, dI)) (ci := 2) (v := .int σ.2.1) (C := RX2) (T := TX2) (N := 4) hx hb hts (fun _ h9 => List.mem_cons_of_mem _ (List.mem_append_right _ h9)) hown hK hP 0 rfl rfl 2 (by decide) (hts (.fieldLink RX2 23 "LowPowerCpu" "pendingLines" "I") (by decide +kernel)) (fun _ h9 => h9) rfl dX2_highestPendingLine_8 ?_
        refine lv_iconst (v := 1) hx hb dX2_highestPendingLine_11 (by decide) ?_
        refine lv_iload_n hx hb dX2_highestPendingLine_12 rfl (lv_at hl 0 rfl) ?_
        refine lv_ishl hx hb dX2_highestPendingLine_13 ?_
        refine lv_topi (fun x9 ex9 => ?_)
        obtain rfl : x9 = 2048 := ex9.trans (by decide)
        refine lv_iand hx hb dX2_highestPendingLine_14 ?_
        refine lv_if_ne (tgt := 24) hx hb dX2_highestPendingLine_15 (by decide) (fun c10 => ?_) (fun c10 => ?_)
        · exact J (11) ls _ _ (by exact ((if_pos c3).trans ((if_pos c7).trans (if_neg c10))).symm) (lv_sub hl [0, 1] rfl) hP hD hS
        · -- iinc
          refine lv_iinc (v := 10) (lv' := [(1, .int 10), (0, .ref (h 0))]) hx hb dX2_highestPendingLine_18 hl (k := 0) rfl (by decide) (by decide) rfl (fun ls hl => ?_)
          refine lv_goto (tgt := 3) hx hb dX2_highestPendingLine_21 (by decide) ?_
          refine lv_iload_n hx hb dX2_highestPendingLine_3 rfl (lv_at hl 0 rfl) ?_
          refine lv_if_le (tgt := 24) hx hb dX2_highestPendingLine_4 (by decide) (fun c11 => absurd c11 (by decide)) (fun _ => ?_)
          refine lv_aload_n hx hb dX2_highestPendingLine_7 rfl (lv_at hl 1 rfl) ?_
          refine va_get (D := (dC, dI)) (ci := 2) (v := .int σ.2.1) (C := RX2) (T := TX2) (N := 4) hx hb hts (fun _ h9 => List.mem_cons_of_mem _ (List.mem_append_right _ h9)) hown hK hP 0 rfl rfl 2 (by decide) (hts (.fieldLink RX2 23 "LowPowerCpu" "pendingLines" "I") (by decide +kernel)) (fun _ h9 => h9) rfl dX2_highestPendingLine_8 ?_
          refine lv_iconst (v := 1) hx hb dX2_highestPendingLine_11 (by decide) ?_
          refine lv_iload_n hx hb dX2_highestPendingLine_12 rfl (lv_at hl 0 rfl) ?_
          refine lv_ishl hx hb dX2_highestPendingLine_13 ?_
          refine lv_topi (fun x12 ex12 => ?_)
          obtain rfl : x12 = 1024 := ex12.trans (by decide)
          refine lv_iand hx hb dX2_highestPendingLine_14 ?_
          refine lv_if_ne (tgt := 24) hx hb dX2_highestPendingLine_15 (by decide) (fun c13 => ?_) (fun c13 => ?_)
          · exact J (10) ls _ _ (by exact ((if_pos c3).trans ((if_pos c7).trans ((if_pos c10).trans (if_neg c13)))).symm) (lv_sub hl [0, 1] rfl) hP hD hS
          · -- iinc
            refine lv_iinc (v := 9) (lv' := [(1, .int 9), (0, .ref (h 0))]) hx hb dX2_highestPendingLine_18 hl (k := 0) rfl (by decide) (by decide) rfl (fun ls hl => ?_)
            refine lv_goto (tgt := 3) hx hb dX2_highestPendingLine_21 (by decide) ?_
            refine lv_iload_n hx hb dX2_highestPendingLine_3 rfl (lv_at hl 0 rfl) ?_
            refine lv_if_le (tgt := 24) hx hb dX2_highestPendingLine_4 (by decide) (fun c14 => absurd c14 (by decide)) (fun _ => ?_)
            refine lv_aload_n hx hb dX2_highestPendingLine_7 rfl (lv_at hl 1 rfl) ?_
            refine va_get (D := (dC, dI)) (ci := 2) (v := .int σ.2.1) (C := RX2) (T := TX2) (N := 4) hx hb hts (fun _ h9 => List.mem_cons_of_mem _ (List.mem_append_right _ h9)) hown hK hP 0 rfl rfl 2 (by decide) (hts (.fieldLink RX2 23 "LowPowerCpu" "pendingLines" "I") (by decide +kernel)) (fun _ h9 => h9) rfl dX2_highestPendingLine_8 ?_
            refine lv_iconst (v := 1) hx hb dX2_highestPendingLine_11 (by decide) ?_
            refine lv_iload_n hx hb dX2_highestPendingLine_12 rfl (lv_at hl 0 rfl) ?_
            refine lv_ishl hx hb dX2_highestPendingLine_13 ?_
            refine lv_topi (fun x15 ex15 => ?_)
            obtain rfl : x15 = 512 := ex15.trans (by decide)
            refine lv_iand hx hb dX2_highestPendingLine_14 ?_
            refine lv_if_ne (tgt := 24) hx hb dX2_highestPendingLine_15 (by decide) (fun c16 => ?_) (fun c16 => ?_)
            · exact J (9) ls _ _ (by exact ((if_pos c3).trans ((if_pos c7).trans ((if_pos c10).trans ((if_pos c13).trans (if_neg c16))))).symm) (lv_sub hl [0, 1] rfl) hP hD hS
            · -- iinc
              refine lv_iinc (v := 8) (lv' := [(1, .int 8), (0, .ref (h 0))]) hx hb dX2_highestPendingLine_18 hl (k := 0) rfl (by decide) (by decide) rfl (fun ls hl => ?_)
              refine lv_goto (tgt := 3) hx hb dX2_highestPendingLine_21 (by decide) ?_
              refine lv_iload_n hx hb dX2_highestPendingLine_3 rfl (lv_at hl 0 rfl) ?_
              refine lv_if_le (tgt := 24) hx hb dX2_highestPendingLine_4 (by decide) (fun c17 => absurd c17 (by decide)) (fun _ => ?_)
              refine lv_aload_n hx hb dX2_highestPendingLine_7 rfl (lv_at hl 1 rfl) ?_
              refine va_get (D := (dC, dI)) (ci := 2) (v := .int σ.2.1) (C := RX2) (T := TX2) (N := 4) hx hb hts (fun _ h9 => List.mem_cons_of_mem _ (List.mem_append_right _ h9)) hown hK hP 0 rfl rfl 2 (by decide) (hts (.fieldLink RX2 23 "LowPowerCpu" "pendingLines" "I") (by decide +kernel)) (fun _ h9 => h9) rfl dX2_highestPendingLine_8 ?_
              refine lv_iconst (v := 1) hx hb dX2_highestPendingLine_11 (by decide) ?_
              refine lv_iload_n hx hb dX2_highestPendingLine_12 rfl (lv_at hl 0 rfl) ?_
              refine lv_ishl hx hb dX2_highestPendingLine_13 ?_
              refine lv_topi (fun x18 ex18 => ?_)
              obtain rfl : x18 = 256 := ex18.trans (by decide)
              refine lv_iand hx hb dX2_highestPendingLine_14 ?_
              refine lv_if_ne (tgt := 24) hx hb dX2_highestPendingLine_15 (by decide) (fun c19 => ?_) (fun c19 => ?_)
              · exact J (8) ls _ _ (by exact ((if_pos c3).trans ((if_pos c7).trans ((if_pos c10).trans ((if_pos c13).trans ((if_pos c16).trans (if_neg c19)))))).symm) (lv_sub hl [0, 1] rfl) hP hD hS
              · -- iinc
                refine lv_iinc (v := 7) (lv' := [(1, .int 7), (0, .ref (h 0))]) hx hb dX2_highestPendingLine_18 hl (k := 0) rfl (by decide) (by decide) rfl (fun ls hl => ?_)
                refine lv_goto (tgt := 3) hx hb dX2_highestPendingLine_21 (by decide) ?_
                refine lv_iload_n hx hb dX2_highestPendingLine_3 rfl (lv_at hl 0 rfl) ?_
                refine lv_if_le (tgt := 24) hx hb dX2_highestPendingLine_4 (by decide) (fun c20 => absurd c20 (by decide)) (fun _ => ?_)
                refine lv_aload_n hx hb dX2_highestPendingLine_7 rfl (lv_at hl 1 rfl) ?_
                refine va_get (D := (dC, dI)) (ci := 2) (v := .int σ.2.1) (C := RX2) (T := TX2) (N := 4) hx hb hts (fun _ h9 => List.mem_cons_of_mem _ (List.mem_append_right _ h9)) hown hK hP 0 rfl rfl 2 (by decide) (hts (.fieldLink RX2 23 "LowPowerCpu" "pendingLines" "I") (by decide +kernel)) (fun _ h9 => h9) rfl dX2_highestPendingLine_8 ?_
                refine lv_iconst (v := 1) hx hb dX2_highestPendingLine_11 (by decide) ?_
                refine lv_iload_n hx hb dX2_highestPendingLine_12 rfl (lv_at hl 0 rfl) ?_
                refine lv_ishl hx hb dX2_highestPendingLine_13 ?_
                refine lv_topi (fun x21 ex21 => ?_)
                obtain rfl : x21 = 128 := ex21.trans (by decide)
                refine lv_iand hx hb dX2_highestPendingLine_14 ?_
                refine lv_if_ne (tgt := 24) hx hb dX2_highestPendingLine_15 (by decide) (fun c22 => ?_) (fun c22 => ?_)
                · exact J (7) ls _ _ (by exact ((if_pos c3).trans ((if_pos c7).trans ((if_pos c10).trans ((if_pos c13).trans ((if_pos c16).trans ((if_pos c19).trans (if_neg c22))))))).symm) (lv_sub hl [0, 1] rfl) hP hD hS
                · -- iinc
                  refine lv_iinc (v := 6) (lv' := [(1, .int 6), (0, .ref (h 0))]) hx hb dX2_highestPendingLine_18 hl (k := 0) rfl (by decide) (by decide) rfl (fun ls hl => ?_)
                  refine lv_goto (tgt := 3) hx hb dX2_highestPendingLine_21 (by decide) ?_
                  refine lv_iload_n hx hb dX2_highestPendingLine_3 rfl (lv_at hl 0 rfl) ?_
                  refine lv_if_le (tgt := 24) hx hb dX2_highestPendingLine_4 (by decide) (fun c23 => absurd c23 (by decide)) (fun _ => ?_)
                  refine lv_aload_n hx hb dX2_highestPendingLine_7 rfl (lv_at hl 1 rfl) ?_
                  refine va_get (D := (dC, dI)) (ci := 2) (v := .int σ.2.1) (C := RX2) (T := TX2) (N := 4) hx hb hts (fun _ h9 => List.mem_cons_of_mem _ (List.mem_append_right _ h9)) hown hK hP 0 rfl rfl 2 (by decide) (hts (.fieldLink RX2 23 "LowPowerCpu" "pendingLines" "I") (by decide +kernel)) (fun _ h9 => h9) rfl dX2_highestPendingLine_8 ?_
                  refine lv_iconst (v := 1) hx hb dX2_highestPendingLine_11 (by decide) ?_
                  refine lv_iload_n hx hb dX2_highestPendingLine_12 rfl (lv_at hl 0 rfl) ?_
                  refine lv_ishl hx hb dX2_highestPendingLine_13 ?_
                  refine lv_topi (fun x24 ex24 => ?_)
                  obtain rfl : x24 = 64 := ex24.trans (by decide)
                  refine lv_iand hx hb dX2_highestPendingLine_14 ?_
                  refine lv_if_ne (tgt := 24) hx hb dX2_highestPendingLine_15 (by decide) (fun c25 => ?_) (fun c25 => ?_)
                  · exact J (6) ls _ _ (by exact ((if_pos c3).trans ((if_pos c7).trans ((if_pos c10).trans ((if_pos c13).trans ((if_pos c16).trans ((if_pos c19).trans ((if_pos c22).trans (if_neg c25)))))))).symm) (lv_sub hl [0, 1] rfl) hP hD hS
                  · -- iinc
                    refine lv_iinc (v := 5) (lv' := [(1, .int 5), (0, .ref (h 0))]) hx hb dX2_highestPendingLine_18 hl (k := 0) rfl (by decide) (by decide) rfl (fun ls hl => ?_)
                    refine lv_goto (tgt := 3) hx hb dX2_highestPendingLine_21 (by decide) ?_
                    refine lv_iload_n hx hb dX2_highestPendingLine_3 rfl (lv_at hl 0 rfl) ?_
                    refine lv_if_le (tgt := 24) hx hb dX2_highestPendingLine_4 (by decide) (fun c26 => absurd c26 (by decide)) (fun _ => ?_)
                    refine lv_aload_n hx hb dX2_highestPendingLine_7 rfl (lv_at hl 1 rfl) ?_
                    refine va_get (D := (dC, dI)) (ci := 2) (v := .int σ.2.1) (C := RX2) (T := TX2) (N := 4) hx hb hts (fun _ h9 => List.mem_cons_of_mem _ (List.mem_append_right _ h9)) hown hK hP 0 rfl rfl 2 (by decide) (hts (.fieldLink RX2 23 "LowPowerCpu" "pendingLines" "I") (by decide +kernel)) (fun _ h9 => h9) rfl dX2_highestPendingLine_8 ?_
                    refine lv_iconst (v := 1) hx hb dX2_highestPendingLine_11 (by decide) ?_
                    refine lv_iload_n hx hb dX2_highestPendingLine_12 rfl (lv_at hl 0 rfl) ?_
                    refine lv_ishl hx hb dX2_highestPendingLine_13 ?_
                    refine lv_topi (fun x27 ex27 => ?_)
                    obtain rfl : x27 = 32 := ex27.trans (by decide)
                    refine lv_iand hx hb dX2_highestPendingLine_14 ?_
                    refine lv_if_ne (tgt := 24) hx hb dX2_highestPendingLine_15 (by decide) (fun c28 => ?_) (fun c28 => ?_)
                    · exact J (5) ls _ _ (by exact ((if_pos c3).trans ((if_pos c7).trans ((if_pos c10).trans ((if_pos c13).trans ((if_pos c16).trans ((if_pos c19).trans ((if_pos c22).trans ((if_pos c25).trans (if_neg c28))))))))).symm) (lv_sub hl [0, 1] rfl) hP hD hS
                    · -- iinc
                      refine lv_iinc (v := 4) (lv' := [(1, .int 4), (0, .ref (h 0))]) hx hb dX2_highestPendingLine_18 hl (k := 0) rfl (by decide) (by decide) rfl (fun ls hl => ?_)
                      refine lv_goto (tgt := 3) hx hb dX2_highestPendingLine_21 (by decide) ?_
                      refine lv_iload_n hx hb dX2_highestPendingLine_3 rfl (lv_at hl 0 rfl) ?_
                      refine lv_if_le (tgt := 24) hx hb dX2_highestPendingLine_4 (by decide) (fun c29 => absurd c29 (by decide)) (fun _ => ?_)
                      refine lv_aload_n hx hb dX2_highestPendingLine_7 rfl (lv_at hl 1 rfl) ?_
                      refine va_get (D := (dC, dI)) (ci := 2) (v := .int σ.2.1) (C := RX2) (T := TX2) (N := 4) hx hb hts (fun _ h9 => List.mem_cons_of_mem _ (List.mem_append_right _ h9)) hown hK hP 0 rfl rfl 2 (by decide) (hts (.fieldLink RX2 23 "LowPowerCpu" "pendingLines" "I") (by decide +kernel)) (fun _ h9 => h9) rfl dX2_highestPendingLine_8 ?_
                      refine lv_iconst (v := 1) hx hb dX2_highestPendingLine_11 (by decide) ?_
                      refine lv_iload_n hx hb dX2_highestPendingLine_12 rfl (lv_at hl 0 rfl) ?_
                      refine lv_ishl hx hb dX2_highestPendingLine_13 ?_
                      refine lv_topi (fun x30 ex30 => ?_)
                      obtain rfl : x30 = 16 := ex30.trans (by decide)
                      refine lv_iand hx hb dX2_highestPendingLine_14 ?_
                      refine lv_if_ne (tgt := 24) hx hb dX2_highestPendingLine_15 (by decide) (fun c31 => ?_) (fun c31 => ?_)
                      · exact J (4) ls _ _ (by exact ((if_pos c3).trans ((if_pos c7).trans ((if_pos c10).trans ((if_pos c13).trans ((if_pos c16).trans ((if_pos c19).trans ((if_pos c22).trans ((if_pos c25).trans ((if_pos c28).trans (if_neg c31)))))))))).symm) (lv_sub hl [0, 1] rfl) hP hD hS
                      · -- iinc
                        refine lv_iinc (v := 3) (lv' := [(1, .int 3), (0, .ref (h 0))]) hx hb dX2_highestPendingLine_18 hl (k := 0) rfl (by decide) (by decide) rfl (fun ls hl => ?_)
                        refine lv_goto (tgt := 3) hx hb dX2_highestPendingLine_21 (by decide) ?_
                        refine lv_iload_n hx hb dX2_highestPendingLine_3 rfl (lv_at hl 0 rfl) ?_
                        refine lv_if_le (tgt := 24) hx hb dX2_highestPendingLine_4 (by decide) (fun c32 => absurd c32 (by decide)) (fun _ => ?_)
                        refine lv_aload_n hx hb dX2_highestPendingLine_7 rfl (lv_at hl 1 rfl) ?_
                        refine va_get (D := (dC, dI)) (ci := 2) (v := .int σ.2.1) (C := RX2) (T := TX2) (N := 4) hx hb hts (fun _ h9 => List.mem_cons_of_mem _ (List.mem_append_right _ h9)) hown hK hP 0 rfl rfl 2 (by decide) (hts (.fieldLink RX2 23 "LowPowerCpu" "pendingLines" "I") (by decide +kernel)) (fun _ h9 => h9) rfl dX2_highestPendingLine_8 ?_
                        refine lv_iconst (v := 1) hx hb dX2_highestPendingLine_11 (by decide) ?_
                        refine lv_iload_n hx hb dX2_highestPendingLine_12 rfl (lv_at hl 0 rfl) ?_
                        refine lv_ishl hx hb dX2_highestPendingLine_13 ?_
                        refine lv_topi (fun x33 ex33 => ?_)
                        obtain rfl : x33 = 8 := ex33.trans (by decide)
                        refine lv_iand hx hb dX2_highestPendingLine_14 ?_
                        refine lv_if_ne (tgt := 24) hx hb dX2_highestPendingLine_15 (by decide) (fun c34 => ?_) (fun c34 => ?_)
                        · exact J (3) ls _ _ (by exact ((if_pos c3).trans ((if_pos c7).trans ((if_pos c10).trans ((if_pos c13).trans ((if_pos c16).trans ((if_pos c19).trans ((if_pos c22).trans ((if_pos c25).trans ((if_pos c28).trans ((if_pos c31).trans (if_neg c34))))))))))).symm) (lv_sub hl [0, 1] rfl) hP hD hS
                        · -- iinc
                          refine lv_iinc (v := 2) (lv' := [(1, .int 2), (0, .ref (h 0))]) hx hb dX2_highestPendingLine_18 hl (k := 0) rfl (by decide) (by decide) rfl (fun ls hl => ?_)
                          refine lv_goto (tgt := 3) hx hb dX2_highestPendingLine_21 (by decide) ?_
                          refine lv_iload_n hx hb dX2_highestPendingLine_3 rfl (lv_at hl 0 rfl) ?_
                          refine lv_if_le (tgt := 24) hx hb dX2_highestPendingLine_4 (by decide) (fun c35 => absurd c35 (by decide)) (fun _ => ?_)
                          refine lv_aload_n hx hb dX2_highestPendingLine_7 rfl (lv_at hl 1 rfl) ?_
                          refine va_get (D := (dC, dI)) (ci := 2) (v := .int σ.2.1) (C := RX2) (T := TX2) (N := 4) hx hb hts (fun _ h9 => List.mem_cons_of_mem _ (List.mem_append_right _ h9)) hown hK hP 0 rfl rfl 2 (by decide) (hts (.fieldLink RX2 23 "LowPowerCpu" "pendingLines" "I") (by decide +kernel)) (fun _ h9 => h9) rfl dX2_highestPendingLine_8 ?_
                          refine lv_iconst (v := 1) hx hb dX2_highestPendingLine_11 (by decide) ?_
                          refine lv_iload_n hx hb dX2_highestPendingLine_12 rfl (lv_at hl 0 rfl) ?_
                          refine lv_ishl hx hb dX2_highestPendingLine_13 ?_
                          refine lv_topi (fun x36 ex36 => ?_)
                          obtain rfl : x36 = 4 := ex36.trans (by decide)
                          refine lv_iand hx hb dX2_highestPendingLine_14 ?_
                          refine lv_if_ne (tgt := 24) hx hb dX2_highestPendingLine_15 (by decide) (fun c37 => ?_) (fun c37 => ?_)
                          · exact J (2) ls _ _ (by exact ((if_pos c3).trans ((if_pos c7).trans ((if_pos c10).trans ((if_pos c13).trans ((if_pos c16).trans ((if_pos c19).trans ((if_pos c22).trans ((if_pos c25).trans ((if_pos c28).trans ((if_pos c31).trans ((if_pos c34).trans (if_neg c37)))))))))))).symm) (lv_sub hl [0, 1] rfl) hP hD hS
                          · -- iinc
                            refine lv_iinc (v := 1) (lv' := [(1, .int 1), (0, .ref (h 0))]) hx hb dX2_highestPendingLine_18 hl (k := 0) rfl (by decide) (by decide) rfl (fun ls hl => ?_)
                            refine lv_goto (tgt := 3) hx hb dX2_highestPendingLine_21 (by decide) ?_
                            refine lv_iload_n hx hb dX2_highestPendingLine_3 rfl (lv_at hl 0 rfl) ?_
                            refine lv_if_le (tgt := 24) hx hb dX2_highestPendingLine_4 (by decide) (fun c38 => absurd c38 (by decide)) (fun _ => ?_)
                            refine lv_aload_n hx hb dX2_highestPendingLine_7 rfl (lv_at hl 1 rfl) ?_
                            refine va_get (D := (dC, dI)) (ci := 2) (v := .int σ.2.1) (C := RX2) (T := TX2) (N := 4) hx hb hts (fun _ h9 => List.mem_cons_of_mem _ (List.mem_append_right _ h9)) hown hK hP 0 rfl rfl 2 (by decide) (hts (.fieldLink RX2 23 "LowPowerCpu" "pendingLines" "I") (by decide +kernel)) (fun _ h9 => h9) rfl dX2_highestPendingLine_8 ?_
                            refine lv_iconst (v := 1) hx hb dX2_highestPendingLine_11 (by decide) ?_
                            refine lv_iload_n hx hb dX2_highestPendingLine_12 rfl (lv_at hl 0 rfl) ?_
                            refine lv_ishl hx hb dX2_highestPendingLine_13 ?_
                            refine lv_topi (fun x39 ex39 => ?_)
                            obtain rfl : x39 = 2 := ex39.trans (by decide)
                            refine lv_iand hx hb dX2_highestPendingLine_14 ?_
                            refine lv_if_ne (tgt := 24) hx hb dX2_highestPendingLine_15 (by decide) (fun c40 => ?_) (fun c40 => ?_)
                            · exact J (1) ls _ _ (by exact ((if_pos c3).trans ((if_pos c7).trans ((if_pos c10).trans ((if_pos c13).trans ((if_pos c16).trans ((if_pos c19).trans ((if_pos c22).trans ((if_pos c25).trans ((if_pos c28).trans ((if_pos c31).trans ((if_pos c34).trans ((if_pos c37).trans (if_neg c40))))))))))))).symm) (lv_sub hl [0, 1] rfl) hP hD hS
                            · -- iinc
                              refine lv_iinc (v := 0) (lv' := [(1, .int 0), (0, .ref (h 0))]) hx hb dX2_highestPendingLine_18 hl (k := 0) rfl (by decide) (by decide) rfl (fun ls hl => ?_)
                              refine lv_goto (tgt := 3) hx hb dX2_highestPendingLine_21 (by decide) ?_
                              refine lv_iload_n hx hb dX2_highestPendingLine_3 rfl (lv_at hl 0 rfl) ?_
                              refine lv_if_le (tgt := 24) hx hb dX2_highestPendingLine_4 (by decide) (fun _ => ?_) (fun c41 => absurd c41 (by decide))
                              exact J (0) ls _ _ (by exact ((if_pos c3).trans ((if_pos c7).trans ((if_pos c10).trans ((if_pos c13).trans ((if_pos c16).trans ((if_pos c19).trans ((if_pos c22).trans ((if_pos c25).trans ((if_pos c28).trans ((if_pos c31).trans ((if_pos c34).trans ((if_pos c37).trans (if_pos c40))))))))))))).symm) (lv_sub hl [0, 1] rfl) hP hD hS

set_option maxHeartbeats 4000000 in
set_option maxRecDepth 100000 in
theorem c_X2_interrupt (l : Launch) (dC : Nat → ClassId) (dI : Nat → Nat → Nat) (h : Nat → Nat) (k : Nat → ClassId) (g : Nat → Nat) (sz : Nat) (σ : StC) : Met l yX2_interrupt wsX2_interrupt ({ frames := 5, cells := 0, slots := 0, locals := 112 }) (PcC (dC, dI) h k g [.ref (h 0)] sz σ) (va_Qv (fun u => u = f_X2_interrupt σ) (BC (dC, dI) h k (AX 5 h sz)) (AX 5 h sz)) 0 0 (AX 5 h sz) := by
  refine Met.ofW (cc := cX2_interrupt) (maxL := 2) (ret := none) (by decide) rfl ?_
  intro p e s m args below meth c s₁ B hml hv
  obtain ⟨rfl, rfl, hP, hct, hD⟩ := hv
  have hx := B.exec
  have hb := B.bytes
  have hr := B.returns
  have hts := atoms_spec (ws := wsX2_interrupt) B.pre
  have hown : s.vm.findClass RX2 = some m.cls := findClass_of_methodNamed B.named
  have hlocks := B.notSynchronized
  have hK := hct.1
  have hN := hct.2.1
  have hS : va_S (AX 5 h s.heap.size) s.heap s.heap [] := va_S.rf
  have hl := lv_entry ([.ref (h 0)]) (n := 2) (Nat.le_of_ble_eq_true rfl)
  rw [lg_entry_eq]
  generalize (lg_sl ([.ref (h 0)]) ++ List.replicate (2 - (lg_sl ([.ref (h 0)])).length) Slot.unset).toArray = ls at hl ⊢
  have hl : lv_has ls 2 [(0, .ref (h 0))] := hl
  refine lv_aload_n hx hb dX2_interrupt_0 rfl (lv_at hl 0 rfl) ?_
  refine callC_ip (va_runV (As := []) (rest := []) ⟨hx, hb, hml, hown, hts⟩ (c_X2_highestPendingLine l dC dI h k g _ σ ) (cwV 0 hts gX2_interrupt_X2_highestPendingLine rfl rfl rfl (by decide +kernel) ⟨Nat.le_of_ble_eq_true rfl, Nat.le_of_ble_eq_true rfl⟩) (preC_V (ci := 2) (q0 := 0) hct hP hD hS rfl rfl) rfl rfl hl.1 rfl (lv_room (Nat.le_of_ble_eq_true rfl)) dX2_interrupt_1 ⟨Nat.le_of_ble_eq_true rfl, Nat.le_of_ble_eq_true rfl⟩) hS (fun x1 H locs ex1 hP hD hS => ?_)
  refine lv_istore_n (lv' := [(1, .int x1), (0, .ref (h 0))]) hx hb dX2_interrupt_4 rfl hl (by decide) rfl (fun ls hl => ?_)
  refine lv_aload_n hx hb dX2_interrupt_5 rfl (lv_at hl 1 rfl) ?_
  refine lv_aload_n hx hb dX2_interrupt_6 rfl (lv_at hl 1 rfl) ?_
  refine va_get (D := (dC, dI)) (ci := 2) (v := .ref (h 2)) (C := RX2) (T := TX2) (N := 4) hx hb hts (fun _ h9 => List.mem_cons_of_mem _ (List.mem_append_left _ (List.mem_append_left _ (List.mem_append_right _ h9)))) hown hK hP 0 rfl rfl 1 (by decide) (hts (.fieldLink RX2 16 "LowPowerCpu" "registers" "[I") (by decide +kernel)) (fun _ h9 => h9) rfl dX2_interrupt_7 ?_
  refine lv_iconst (v := 0) hx hb dX2_interrupt_10 (by decide) ?_
  refine va_iald hx hb hK hP 2 0 rfl rfl (in_c (by decide)) dX2_interrupt_11 ?_
  refine lv_iconst (v := 0) hx hb dX2_interrupt_12 (by decide) ?_
  refine callC_v (va_runV (As := [.int (σ.1 (0 : Int32).toNatClampNeg), .int 0]) (rest := []) ⟨hx, hb, hml, hown, hts⟩ (c_X2_push l dC dI h k g _ σ (σ.1 (0 : Int32).toNatClampNeg) 0) (cwV 2 hts gX2_interrupt_X2_push rfl rfl rfl (by decide +kernel) ⟨Nat.le_of_ble_eq_true rfl, Nat.le_of_ble_eq_true rfl⟩) (preC_V (ci := 2) (q0 := 0) hct hP hD hS rfl rfl) rfl rfl hl.1 rfl (lv_room (Nat.le_of_ble_eq_true rfl)) dX2_interrupt_13 ⟨Nat.le_of_ble_eq_true rfl, Nat.le_of_ble_eq_true rfl⟩) hS (fun σ2 H locs eσ2 hP hD hS => ?_)
  refine lv_aload_n hx hb dX2_interrupt_16 rfl (lv_at hl 1 rfl) ?_
  refine lv_aload_n hx hb dX2_interrupt_17 rfl (lv_at hl 1 rfl) ?_
  refine va_get (D := (dC, dI)) (ci := 2) (v := .ref (h 2)) (C := RX2) (T := TX2) (N := 4) hx hb hts (fun _ h9 => List.mem_cons_of_mem _ (List.mem_append_left _ (List.mem_append_left _ (List.mem_append_right _ h9)))) hown hK hP 0 rfl rfl 1 (by decide) (hts (.fieldLink RX2 16 "LowPowerCpu" "registers" "[I") (by decide +kernel)) (fun _ h9 => h9) rfl dX2_interrupt_18 ?_
  refine lv_iconst (v := 2) hx hb dX2_interrupt_21 (by decide) ?_
  refine va_iald hx hb hK hP 2 0 rfl rfl (in_c (by decide)) dX2_interrupt_22 ?_
  refine lv_iconst (v := 0) hx hb dX2_interrupt_23 (by decide) ?_
  refine callC_v (va_runV (As := [.int (σ2.1 (2 : Int32).toNatClampNeg), .int 0]) (rest := []) ⟨hx, hb, hml, hown, hts⟩ (c_X2_push l dC dI h k g _ σ2 (σ2.1 (2 : Int32).toNatClampNeg) 0) (cwV 2 hts gX2_interrupt_X2_push rfl rfl rfl (by decide +kernel) ⟨Nat.le_of_ble_eq_true rfl, Nat.le_of_ble_eq_true rfl⟩) (preC_V (ci := 2) (q0 := 0) hct hP hD hS rfl rfl) rfl rfl hl.1 rfl (lv_room (Nat.le_of_ble_eq_true rfl)) dX2_interrupt_24 ⟨Nat.le_of_ble_eq_true rfl, Nat.le_of_ble_eq_true rfl⟩) hS (fun σ3 H locs eσ3 hP hD hS => ?_)
  refine lv_aload_n hx hb dX2_interrupt_27 rfl (lv_at hl 1 rfl) ?_
  refine lv_dup hx hb dX2_interrupt_28 rfl ?_
  refine va_get (D := (dC, dI)) (ci := 2) (v := .int σ3.2.1) (C := RX2) (T := TX2) (N := 4) hx hb hts (fun _ h9 => List.mem_cons_of_mem _ (List.mem_append_left _ (List.mem_append_left _ (List.mem_append_right _ h9)))) hown hK hP 0 rfl rfl 2 (by decide) (hts (.fieldLink RX2 23 "LowPowerCpu" "pendingLines" "I") (by decide +kernel)) (fun _ h9 => h9) rfl dX2_interrupt_29 ?_
  refine lv_iconst (v := 1) hx hb dX2_interrupt_32 (by decide) ?_
  refine lv_iload_n hx hb dX2_interrupt_33 rfl (lv_at hl 0 rfl) ?_
  refine lv_ishl hx hb dX2_interrupt_34 ?_
  refine lv_iconst (v := (-1)) hx hb dX2_interrupt_35 (by decide) ?_
  refine lv_ixor hx hb dX2_interrupt_36 ?_
  refine lv_iand hx hb dX2_interrupt_37 ?_
  refine lv_topi (fun x4 ex4 => ?_)
  refine va_put (D := (dC, dI)) (ci := 2) (v := .int x4) (ty := .int) (C := RX2) (T := TX2) (N := 4) hx hb hts (fun _ h9 => List.mem_cons_of_mem _ (List.mem_append_left _ (List.mem_append_left _ (List.mem_append_right _ h9)))) tyX2 tyX2_ok nmX2 hown hK hP hD hS 0 rfl rfl 2 (by decide) (hts (.fieldLink RX2 23 "LowPowerCpu" "pendingLines" "I") (by decide +kernel)) (fun _ h9 => h9) rfl (by decide +kernel) rfl rfl (Nat.le_of_ble_eq_true rfl) dX2_interrupt_38 (fun H locs hP hD hS => ?_)
  have hP : va_P (dC, dI) vwCl (wsC h k (σ3.1, x4, σ3.2.2.1, σ3.2.2.2.1, σ3.2.2.2.2.1, σ3.2.2.2.2.2.1, σ3.2.2.2.2.2.2.1, σ3.2.2.2.2.2.2.2.1, σ3.2.2.2.2.2.2.2.2.1, σ3.2.2.2.2.2.2.2.2.2)) H := hP
  have hD : va_D (AX 5 h s.heap.size) (wsC h k (σ3.1, x4, σ3.2.2.1, σ3.2.2.2.1, σ3.2.2.2.2.1, σ3.2.2.2.2.2.1, σ3.2.2.2.2.2.2.1, σ3.2.2.2.2.2.2.2.1, σ3.2.2.2.2.2.2.2.2.1, σ3.2.2.2.2.2.2.2.2.2)) := hD
  refine lv_aload_n hx hb dX2_interrupt_41 rfl (lv_at hl 1 rfl) ?_
  refine lv_iconst (v := 2) hx hb dX2_interrupt_42 (by decide) ?_
  refine lv_aload_n hx hb dX2_interrupt_43 rfl (lv_at hl 1 rfl) ?_
  refine va_get (D := (dC, dI)) (ci := 2) (v := .ref (h 2)) (C := RX2) (T := TX2) (N := 4) hx hb hts (fun _ h9 => List.mem_cons_of_mem _ (List.mem_append_left _ (List.mem_append_left _ (List.mem_append_right _ h9)))) hown hK hP 0 rfl rfl 1 (by decide) (hts (.fieldLink RX2 16 "LowPowerCpu" "registers" "[I") (by decide +kernel)) (fun _ h9 => h9) rfl dX2_interrupt_44 ?_
  refine lv_iconst (v := 2) hx hb dX2_interrupt_47 (by decide) ?_
  refine va_iald hx hb hK hP 2 0 rfl rfl (in_c (by decide)) dX2_interrupt_48 ?_
  refine lv_bipush (v := 64) hx hb dX2_interrupt_49 (by decide) ?_
  refine lv_iand hx hb dX2_interrupt_51 ?_
  refine callC_v (va_runV (As := [.int 2, .int ((σ3.1 (2 : Int32).toNatClampNeg) &&& (64 : Int32))]) (rest := []) ⟨hx, hb, hml, hown, hts⟩ (c_X2_setRegister l dC dI h k g _ (σ3.1, x4, σ3.2.2.1, σ3.2.2.2.1, σ3.2.2.2.2.1, σ3.2.2.2.2.2.1, σ3.2.2.2.2.2.2.1, σ3.2.2.2.2.2.2.2.1, σ3.2.2.2.2.2.2.2.2.1, σ3.2.2.2.2.2.2.2.2.2) 2 ((σ3.1 (2 : Int32).toNatClampNeg) &&& (64 : Int32))) (cwV 2 hts gX2_interrupt_X2_setRegister rfl rfl rfl (by decide +kernel) ⟨Nat.le_of_ble_eq_true rfl, Nat.le_of_ble_eq_true rfl⟩) (preC_V (ci := 2) (q0 := 0) hct hP hD hS rfl rfl) rfl rfl hl.1 rfl (lv_room (Nat.le_of_ble_eq_true rfl)) dX2_interrupt_52 ⟨Nat.le_of_ble_eq_true rfl, Nat.le_of_ble_eq_true rfl⟩) hS (fun σ5 H locs eσ5 hP hD hS => ?_)
  refine lv_aload_n hx hb dX2_interrupt_55 rfl (lv_at hl 1 rfl) ?_
  refine lv_iconst (v := 0) hx hb dX2_interrupt_56 (by decide) ?_
  refine lv_aload_n hx hb dX2_interrupt_57 rfl (lv_at hl 1 rfl) ?_
  refine va_get (D := (dC, dI)) (ci := 2) (v := .ref (h 1)) (C := RX2) (T := TX2) (N := 4) hx hb hts (fun _ h9 => List.mem_cons_of_mem _ (List.mem_append_left _ (List.mem_append_left _ (List.mem_append_right _ h9)))) hown hK hP 0 rfl rfl 0 (by decide) (hts (.fieldLink RX2 12 "LowPowerCpu" "memory" "LLowPowerCpu$Memory;") (by decide +kernel)) (fun _ h9 => h9) rfl dX2_interrupt_58 ?_
  refine lv_ldc (v := 65504) hx hb hown (hts (.constant RX2 92 65504) (by decide +kernel)) dX2_interrupt_61 ?_
  refine lv_iconst (v := 2) hx hb dX2_interrupt_63 (by decide) ?_
  refine lv_iload_n hx hb dX2_interrupt_64 rfl (lv_at hl 0 rfl) ?_
  refine lv_imul hx hb dX2_interrupt_65 ?_
  refine lv_iadd hx hb dX2_interrupt_66 ?_
  refine callC_ip (va_runVN (As := [.int ((65504 : Int32) + ((2 : Int32) * x1))]) (rest := [.int 0, .ref (h 0)]) ⟨hx, hb, hml, hown, hts⟩ (c_X0_wordAt l dC dI h k g _ σ5 ((65504 : Int32) + ((2 : Int32) * x1))) ⟨va_cnB 1 hts gX2_interrupt_X0_wordAt_n40 rfl rfl rfl (hN (.methodLinkNest RX2 40 yX0_wordAt RX2) (List.mem_of_getElem? (i := 3) rfl)) (hts (.initialized RX0) (by decide +kernel)) (by decide +kernel) ⟨Nat.le_of_ble_eq_true rfl, Nat.le_of_ble_eq_true rfl⟩, hts (.instanceMethod yX0_wordAt) (by decide +kernel), hts (.selects RX0 yX0_wordAt yX0_wordAt) (by decide +kernel)⟩ (preC_V (ci := 0) (q0 := 1) hct hP hD hS rfl rfl) rfl rfl hl.1 rfl (lv_room (Nat.le_of_ble_eq_true rfl)) dX2_interrupt_67 ⟨Nat.le_of_ble_eq_true rfl, Nat.le_of_ble_eq_true rfl⟩) hS (fun x6 H locs ex6 hP hD hS => ?_)
  refine callC_v (va_runV (As := [.int 0, .int x6]) (rest := []) ⟨hx, hb, hml, hown, hts⟩ (c_X2_setRegister l dC dI h k g _ σ5 0 x6) (cwV 2 hts gX2_interrupt_X2_setRegister rfl rfl rfl (by decide +kernel) ⟨Nat.le_of_ble_eq_true rfl, Nat.le_of_ble_eq_true rfl⟩) (preC_V (ci := 2) (q0 := 0) hct hP hD hS rfl rfl) rfl rfl hl.1 rfl (lv_room (Nat.le_of_ble_eq_true rfl)) dX2_interrupt_70 ⟨Nat.le_of_ble_eq_true rfl, Nat.le_of_ble_eq_true rfl⟩) hS (fun σ7 H locs eσ7 hP hD hS => ?_)
  refine lv_aload_n hx hb dX2_interrupt_73 rfl (lv_at hl 1 rfl) ?_
  refine lv_bipush (v := 6) hx hb dX2_interrupt_74 (by decide) ?_
  refine callC_v (va_runV (As := [.int 6]) (rest := []) ⟨hx, hb, hml, hown, hts⟩ (c_X2_spend l dC dI h k g _ σ7 6) (cwV 1 hts gX2_interrupt_X2_spend rfl rfl rfl (by decide +kernel) ⟨Nat.le_of_ble_eq_true rfl, Nat.le_of_ble_eq_true rfl⟩) (preC_V (ci := 2) (q0 := 0) hct hP hD hS rfl rfl) rfl rfl hl.1 rfl (lv_room (Nat.le_of_ble_eq_true rfl)) dX2_interrupt_76 ⟨Nat.le_of_ble_eq_true rfl, Nat.le_of_ble_eq_true rfl⟩) hS (fun σ8 H locs eσ8 hP hD hS => ?_)
  exact retC_v hx hb hr hlocks (by subst eσ8; subst eσ7; subst ex6; subst eσ5; subst ex4; subst eσ3; subst eσ2; subst ex1; exact rfl) hP hD hS dX2_interrupt_79

set_option maxHeartbeats 4000000 in
set_option maxRecDepth 100000 in
theorem c_X2_returnFromInterrupt (l : Launch) (dC : Nat → ClassId) (dI : Nat → Nat → Nat) (h : Nat → Nat) (k : Nat → ClassId) (g : Nat → Nat) (sz : Nat) (σ : StC) : Met l yX2_returnFromInterrupt wsX2_returnFromInterrupt ({ frames := 3, cells := 0, slots := 0, locals := 65 }) (PcC (dC, dI) h k g [.ref (h 0)] sz σ) (va_Qv (fun u => u = f_X2_returnFromInterrupt σ) (BC (dC, dI) h k (AX 5 h sz)) (AX 5 h sz)) 0 0 (AX 5 h sz) := by
  refine Met.ofW (cc := cX2_returnFromInterrupt) (maxL := 1) (ret := none) (by decide) rfl ?_
  intro p e s m args below meth c s₁ B hml hv
  obtain ⟨rfl, rfl, hP, hct, hD⟩ := hv
  have hx := B.exec
  have hb := B.bytes
  have hr := B.returns
  have hts := atoms_spec (ws := wsX2_returnFromInterrupt) B.pre
  have hown : s.vm.findClass RX2 = some m.cls := findClass_of_methodNamed B.named
  have hlocks := B.notSynchronized
  have hK := hct.1
  have hN := hct.2.1
  have hS : va_S (AX 5 h s.heap.size) s.heap s.heap [] := va_S.rf
  have hl := lv_entry ([.ref (h 0)]) (n := 1) (Nat.le_of_ble_eq_true rfl)
  rw [lg_entry_eq]
  generalize (lg_sl ([.ref (h 0)]) ++ List.replicate (1 - (lg_sl ([.ref (h 0)])).length) Slot.unset).toArray = ls at hl ⊢
  have hl : lv_has ls 1 [(0, .ref (h 0))] := hl
  refine lv_aload_n hx hb dX2_returnFromInterrupt_0 rfl (lv_at hl 0 rfl) ?_
  refine lv_iconst (v := 2) hx hb dX2_returnFromInterrupt_1 (by decide) ?_
  refine lv_aload_n hx hb dX2_returnFromInterrupt_2 rfl (lv_at hl 0 rfl) ?_
  refine callC_i (va_runV (As := []) (rest := [.int 2, .ref (h 0)]) ⟨hx, hb, hml, hown, hts⟩ (c_X2_pop l dC dI h k g _ σ ) (cwV 0 hts gX2_returnFromInterrupt_X2_pop rfl rfl rfl (by decide +kernel) ⟨Nat.le_of_ble_eq_true rfl, Nat.le_of_ble_eq_true rfl⟩) (preC_V (ci := 2) (q0 := 0) hct hP hD hS rfl rfl) rfl rfl hl.1 rfl (lv_room (Nat.le_of_ble_eq_true rfl)) dX2_returnFromInterrupt_3 ⟨Nat.le_of_ble_eq_true rfl, Nat.le_of_ble_eq_true rfl⟩) hS (fun x1 σ2 H locs ex1 eσ2 hP hD hS => ?_)
  refine callC_v (va_runV (As := [.int 2, .int x1]) (rest := []) ⟨hx, hb, hml, hown, hts⟩ (c_X2_setRegister l dC dI h k g _ σ2 2 x1) (cwV 2 hts gX2_returnFromInterrupt_X2_setRegister rfl rfl rfl (by decide +kernel) ⟨Nat.le_of_ble_eq_true rfl, Nat.le_of_ble_eq_true rfl⟩) (preC_V (ci := 2) (q0 := 0) hct hP hD hS rfl rfl) rfl rfl hl.1 rfl (lv_room (Nat.le_of_ble_eq_true rfl)) dX2_returnFromInterrupt_6 ⟨Nat.le_of_ble_eq_true rfl, Nat.le_of_ble_eq_true rfl⟩) hS (fun σ3 H locs eσ3 hP hD hS => ?_)
  refine lv_aload_n hx hb dX2_returnFromInterrupt_9 rfl (lv_at hl 0 rfl) ?_
  refine lv_iconst (v := 0) hx hb dX2_returnFromInterrupt_10 (by decide) ?_
  refine lv_aload_n hx hb dX2_returnFromInterrupt_11 rfl (lv_at hl 0 rfl) ?_
  refine callC_i (va_runV (As := []) (rest := [.int 0, .ref (h 0)]) ⟨hx, hb, hml, hown, hts⟩ (c_X2_pop l dC dI h k g _ σ3 ) (cwV 0 hts gX2_returnFromInterrupt_X2_pop rfl rfl rfl (by decide +kernel) ⟨Nat.le_of_ble_eq_true rfl, Nat.le_of_ble_eq_true rfl⟩) (preC_V (ci := 2) (q0 := 0) hct hP hD hS rfl rfl) rfl rfl hl.1 rfl (lv_room (Nat.le_of_ble_eq_true rfl)) dX2_returnFromInterrupt_12 ⟨Nat.le_of_ble_eq_true rfl, Nat.le_of_ble_eq_true rfl⟩) hS (fun x4 σ5 H locs ex4 eσ5 hP hD hS => ?_)
  refine callC_v (va_runV (As := [.int 0, .int x4]) (rest := []) ⟨hx, hb, hml, hown, hts⟩ (c_X2_setRegister l dC dI h k g _ σ5 0 x4) (cwV 2 hts gX2_returnFromInterrupt_X2_setRegister rfl rfl rfl (by decide +kernel) ⟨Nat.le_of_ble_eq_true rfl, Nat.le_of_ble_eq_true rfl⟩) (preC_V (ci := 2) (q0 := 0) hct hP hD hS rfl rfl) rfl rfl hl.1 rfl (lv_room (Nat.le_of_ble_eq_true rfl)) dX2_returnFromInterrupt_15 ⟨Nat.le_of_ble_eq_true rfl, Nat.le_of_ble_eq_true rfl⟩) hS (fun σ6 H locs eσ6 hP hD hS => ?_)
  refine lv_aload_n hx hb dX2_returnFromInterrupt_18 rfl (lv_at hl 0 rfl) ?_
  refine lv_iconst (v := 5) hx hb dX2_returnFromInterrupt_19 (by decide) ?_
  refine callC_v (va_runV (As := [.int 5]) (rest := []) ⟨hx, hb, hml, hown, hts⟩ (c_X2_spend l dC dI h k g _ σ6 5) (cwV 1 hts gX2_returnFromInterrupt_X2_spend rfl rfl rfl (by decide +kernel) ⟨Nat.le_of_ble_eq_true rfl, Nat.le_of_ble_eq_true rfl⟩) (preC_V (ci := 2) (q0 := 0) hct hP hD hS rfl rfl) rfl rfl hl.1 rfl (lv_room (Nat.le_of_ble_eq_true rfl)) dX2_returnFromInterrupt_20 ⟨Nat.le_of_ble_eq_true rfl, Nat.le_of_ble_eq_true rfl⟩) hS (fun σ7 H locs eσ7 hP hD hS => ?_)
  exact retC_v hx hb hr hlocks (by subst eσ7; subst eσ6; subst eσ5; subst ex4; subst eσ3; subst eσ2; subst ex1; exact rfl) hP hD hS dX2_returnFromInterrupt_23

set_option maxHeartbeats 4000000 in
set_option maxRecDepth 100000 in
theorem c_X2_isUnassigned (l : Launch) (dC : Nat → ClassId) (dI : Nat → Nat → Nat) (h : Nat → Nat) (k : Nat → ClassId) (g : Nat → Nat) (sz : Nat) (σ : StC) (a1 : Int32) : Met l yX2_isUnassigned wsX2_isUnassigned ({ frames := 0, cells := 0, slots := 0, locals := 0 }) (PcC (dC, dI) h k g [.int a1] sz σ) (va_Qi (fun r u => (r, u) = (f_X2_isUnassigned a1, σ)) (BC (dC, dI) h k (AX 5 h sz)) (AX 5 h sz)) 0 0 (AX 5 h sz) := by
  refine Met.ofW (cc := cX2_isUnassigned) (maxL := 3) (ret := (some .boolean)) (by decide) rfl ?_
  intro p e s m args below meth c s₁ B hml hv
  obtain ⟨rfl, rfl, hP, hct, hD⟩ := hv
  have hx := B.exec
  have hb := B.bytes
  have hr := B.returns
  have hts := atoms_spec (ws := wsX2_isUnassigned) B.pre
  have hown : s.vm.findClass RX2 = some m.cls := findClass_of_methodNamed B.named
  have hlocks := B.notSynchronized
  have hK := hct.1
  have hN := hct.2.1
  have hS : va_S (AX 5 h s.heap.size) s.heap s.heap [] := va_S.rf
  have hl := lv_entry ([.int a1]) (n := 3) (Nat.le_of_ble_eq_true rfl)
  rw [lg_entry_eq]
  generalize (lg_sl ([.int a1]) ++ List.replicate (3 - (lg_sl ([.int a1])).length) Slot.unset).toArray = ls at hl ⊢
  have hl : lv_has ls 3 [(0, .int a1)] := hl
  refine lv_iload_n hx hb dX2_isUnassigned_0 rfl (lv_at hl 0 rfl) ?_
  refine lv_sipush (v := 8192) hx hb dX2_isUnassigned_1 (by decide) ?_
  refine lv_icmp_lt (tgt := 9) hx hb dX2_isUnassigned_4 (by decide) (fun c1 => ?_) (fun c1 => ?_)
  · refine lv_iload_n hx hb dX2_isUnassigned_9 rfl (lv_at hl 0 rfl) ?_
    refine lv_sipush (v := 4096) hx hb dX2_isUnassigned_10 (by decide) ?_
    refine lv_icmp_lt (tgt := 23) hx hb dX2_isUnassigned_13 (by decide) (fun c2 => ?_) (fun c2 => ?_)
    · refine lv_iconst (v := 1) hx hb dX2_isUnassigned_23 (by decide) ?_
      exact retC_zp hx hb hr hlocks rfl (by exact (if_pos c1).trans (if_pos c2)) hP hD hS dX2_isUnassigned_24
    · refine lv_iload_n hx hb dX2_isUnassigned_16 rfl (lv_at hl 0 rfl) ?_
      refine lv_sipush (v := 4864) hx hb dX2_isUnassigned_17 (by decide) ?_
      refine lv_icmp_le (tgt := 25) hx hb dX2_isUnassigned_20 (by decide) (fun c3 => ?_) (fun c3 => ?_)
      · refine lv_iload_n hx hb dX2_isUnassigned_25 rfl (lv_at hl 0 rfl) ?_
        refine lv_bipush (v := 7) hx hb dX2_isUnassigned_26 (by decide) ?_
        refine lv_ishr hx hb dX2_isUnassigned_28 ?_
        refine lv_bipush (v := 7) hx hb dX2_isUnassigned_29 (by decide) ?_
        refine lv_iand hx hb dX2_isUnassigned_31 ?_
        refine lv_topi (fun x4 ex4 => ?_)
        refine lv_istore_n (lv' := [(1, .int x4), (0, .int a1)]) hx hb dX2_isUnassigned_32 rfl hl (by decide) rfl (fun ls hl => ?_)
        refine lv_iload_n hx hb dX2_isUnassigned_33 rfl (lv_at hl 0 rfl) ?_
        refine lv_iconst (v := 1) hx hb dX2_isUnassigned_34 (by decide) ?_
        refine wj (α := Int32) (D := (dC, dI)) (cl := vwCl) (A := AX 5 h s.heap.size) (H0 := s.heap) (if x4 = 1 then 1 else if x4 = 3 then 1 else if x4 = 5 then 1 else 0) (fun v6 => wsC h k σ) (fun v6 => [(1, .int x4), (0, .int a1)]) 3 (fun v6 ls => F0 m 53 ls [.int v6]) ?_ ?_
        · intro v6 ls H locs ev6 hl hP hD hS
          try dsimp only at hl hP hD ⊢
          refine lv_istore_n (lv' := [(2, .int v6), (1, .int x4), (0, .int a1)]) hx hb dX2_isUnassigned_53 rfl hl (by decide) rfl (fun ls hl => ?_)
          refine lv_iload_n hx hb dX2_isUnassigned_54 rfl (lv_at hl 0 rfl) ?_
          refine lv_if_eq (tgt := 69) hx hb dX2_isUnassigned_55 (by decide) (fun c7 => ?_) (fun c7 => ?_)
          · refine lv_iconst (v := 0) hx hb dX2_isUnassigned_69 (by decide) ?_
            exact retC_zp hx hb hr hlocks rfl (by subst ev6; subst ex4; exact (if_pos c1).trans ((if_neg c2).trans ((if_pos c3).trans (if_pos c7)))) hP hD hS dX2_isUnassigned_70
          · refine lv_iload_n hx hb dX2_isUnassigned_58 rfl (lv_at hl 2 rfl) ?_
            refine lv_bipush (v := 64) hx hb dX2_isUnassigned_59 (by decide) ?_
            refine lv_iand hx hb dX2_isUnassigned_61 ?_
            refine lv_if_eq (tgt := 69) hx hb dX2_isUnassigned_62 (by decide) (fun c8 => ?_) (fun c8 => ?_)
            · refine lv_iconst (v := 0) hx hb dX2_isUnassigned_69 (by decide) ?_
              exact retC_zp hx hb hr hlocks rfl (by subst ev6; subst ex4; exact (if_pos c1).trans ((if_neg c2).trans ((if_pos c3).trans ((if_neg c7).trans (if_pos c8))))) hP hD hS dX2_isUnassigned_70
            · refine lv_iconst (v := 1) hx hb dX2_isUnassigned_65 (by decide) ?_
              refine lv_goto (tgt := 70) hx hb dX2_isUnassigned_66 (by decide) ?_
              exact retC_zp hx hb hr hlocks rfl (by subst ev6; subst ex4; exact (if_pos c1).trans ((if_neg c2).trans ((if_pos c3).trans ((if_neg c7).trans (if_neg c8))))) hP hD hS dX2_isUnassigned_70
        · intro J
          refine lv_icmp_eq (tgt := 48) hx hb dX2_isUnassigned_35 (by decide) (fun c5 => ?_) (fun c5 => ?_)
          · refine lv_iconst (v := 1) hx hb dX2_isUnassigned_48 (by decide) ?_
            refine lv_goto (tgt := 53) hx hb dX2_isUnassigned_49 (by decide) ?_
            exact J (1) ls _ _ (by exact (if_pos c5).symm) (lv_sub hl [0, 1] rfl) hP hD hS
          · refine lv_iload_n hx hb dX2_isUnassigned_38 rfl (lv_at hl 0 rfl) ?_
            refine lv_iconst (v := 3) hx hb dX2_isUnassigned_39 (by decide) ?_
            refine lv_icmp_eq (tgt := 48) hx hb dX2_isUnassigned_40 (by decide) (fun c9 => ?_) (fun c9 => ?_)
            · refine lv_iconst (v := 1) hx hb dX2_isUnassigned_48 (by decide) ?_
              refine lv_goto (tgt := 53) hx hb dX2_isUnassigned_49 (by decide) ?_
              exact J (1) ls _ _ (by exact ((if_neg c5).trans (if_pos c9)).symm) (lv_sub hl [0, 1] rfl) hP hD hS
            · refine lv_iload_n hx hb dX2_isUnassigned_43 rfl (lv_at hl 0 rfl) ?_
              refine lv_iconst (v := 5) hx hb dX2_isUnassigned_44 (by decide) ?_
              refine lv_icmp_ne (tgt := 52) hx hb dX2_isUnassigned_45 (by decide) (fun c10 => ?_) (fun c10 => ?_)
              · refine lv_iconst (v := 0) hx hb dX2_isUnassigned_52 (by decide) ?_
                exact J (0) ls _ _ (by exact ((if_neg c5).trans ((if_neg c9).trans (if_neg c10))).symm) (lv_sub hl [0, 1] rfl) hP hD hS
              · refine lv_iconst (v := 1) hx hb dX2_isUnassigned_48 (by decide) ?_
                refine lv_goto (tgt := 53) hx hb dX2_isUnassigned_49 (by decide) ?_
                exact J (1) ls _ _ (by exact ((if_neg c5).trans ((if_neg c9).trans (if_pos c10))).symm) (lv_sub hl [0, 1] rfl) hP hD hS
      · refine lv_iconst (v := 1) hx hb dX2_isUnassigned_23 (by decide) ?_
        exact retC_zp hx hb hr hlocks rfl (by exact (if_pos c1).trans ((if_neg c2).trans (if_neg c3))) hP hD hS dX2_isUnassigned_24
  · refine lv_iconst (v := 0) hx hb dX2_isUnassigned_7 (by decide) ?_
    exact retC_zp hx hb hr hlocks rfl (by exact if_neg c1) hP hD hS dX2_isUnassigned_8

set_option maxHeartbeats 4000000 in
set_option maxRecDepth 100000 in
theorem c_X2_isJumpTaken (l : Launch) (dC : Nat → ClassId) (dI : Nat → Nat → Nat) (h : Nat → Nat) (k : Nat → ClassId) (g : Nat → Nat) (sz : Nat) (σ : StC) (a1 : Int32) : Met l yX2_isJumpTaken wsX2_isJumpTaken ({ frames := 1, cells := 0, slots := 0, locals := 21 }) (PcC (dC, dI) h k g [.ref (h 0), .int a1] sz σ) (va_Qi (fun r u => (r, u) = (f_X2_isJumpTaken σ a1, σ)) (BC (dC, dI) h k (AX 5 h sz)) (AX 5 h sz)) 0 0 (AX 5 h sz) := by
  refine Met.ofW (cc := cX2_isJumpTaken) (maxL := 3) (ret := (some .boolean)) (by decide) rfl ?_
  intro p e s m args below meth c s₁ B hml hv
  obtain ⟨rfl, rfl, hP, hct, hD⟩ := hv
  have hx := B.exec
  have hb := B.bytes
  have hr := B.returns
  have hts := atoms_spec (ws := wsX2_isJumpTaken) B.pre
  have hown : s.vm.findClass RX2 = some m.cls := findClass_of_methodNamed B.named
  have hlocks := B.notSynchronized
  have hK := hct.1
  have hN := hct.2.1
  have hS : va_S (AX 5 h s.heap.size) s.heap s.heap [] := va_S.rf
  have hl := lv_entry ([.ref (h 0), .int a1]) (n := 3) (Nat.le_of_ble_eq_true rfl)
  rw [lg_entry_eq]
  generalize (lg_sl ([.ref (h 0), .int a1]) ++ List.replicate (3 - (lg_sl ([.ref (h 0), .int a1])).length) Slot.unset).toArray = ls at hl ⊢
  have hl : lv_has ls 3 [(0, .ref (h 0)), (1, .int a1)] := hl
  refine lv_aload_n hx hb dX2_isJumpTaken_0 rfl (lv_at hl 0 rfl) ?_
  refine lv_iconst (v := 4) hx hb dX2_isJumpTaken_1 (by decide) ?_
  refine callC_ip (va_runV (As := [.int 4]) (rest := []) ⟨hx, hb, hml, hown, hts⟩ (c_X2_isSet l dC dI h k g _ σ 4) (cwV 1 hts gX2_isJumpTaken_X2_isSet rfl rfl rfl (by decide +kernel) ⟨Nat.le_of_ble_eq_true rfl, Nat.le_of_ble_eq_true rfl⟩) (preC_V (ci := 2) (q0 := 0) hct hP hD hS rfl rfl) rfl rfl hl.1 rfl (lv_room (Nat.le_of_ble_eq_true rfl)) dX2_isJumpTaken_2 ⟨Nat.le_of_ble_eq_true rfl, Nat.le_of_ble_eq_true rfl⟩) hS (fun x1 H locs ex1 hP hD hS => ?_)
  refine lv_aload_n hx hb dX2_isJumpTaken_5 rfl (lv_at hl 0 rfl) ?_
  refine lv_sipush (v := 256) hx hb dX2_isJumpTaken_6 (by decide) ?_
  refine callC_ip (va_runV (As := [.int 256]) (rest := [.int x1]) ⟨hx, hb, hml, hown, hts⟩ (c_X2_isSet l dC dI h k g _ σ 256) (cwV 1 hts gX2_isJumpTaken_X2_isSet rfl rfl rfl (by decide +kernel) ⟨Nat.le_of_ble_eq_true rfl, Nat.le_of_ble_eq_true rfl⟩) (preC_V (ci := 2) (q0 := 0) hct hP hD hS rfl rfl) rfl rfl hl.1 rfl (lv_room (Nat.le_of_ble_eq_true rfl)) dX2_isJumpTaken_9 ⟨Nat.le_of_ble_eq_true rfl, Nat.le_of_ble_eq_true rfl⟩) hS (fun x2 H locs ex2 hP hD hS => ?_)
  refine wj (α := Int32) (D := (dC, dI)) (cl := vwCl) (A := AX 5 h s.heap.size) (H0 := s.heap) (if x1 = x2 then 1 else 0) (fun v4 => wsC h k σ) (fun v4 => [(0, .ref (h 0)), (1, .int a1)]) 3 (fun v4 ls => F0 m 20 ls [.int v4]) ?_ ?_
  · intro v4 ls H locs ev4 hl hP hD hS
    try dsimp only at hl hP hD ⊢
    refine lv_istore_n (lv' := [(2, .int v4), (0, .ref (h 0)), (1, .int a1)]) hx hb dX2_isJumpTaken_20 rfl hl (by decide) rfl (fun ls hl => ?_)
    refine lv_iload_n hx hb dX2_isJumpTaken_21 rfl (lv_at hl 2 rfl) ?_
    rcases Classical.em (a1 = 0) with c5 | c5
    · refine lv_tableIn (tgt := 64) hx hb dX2_isJumpTaken_22 (by rw [c5]; decide) (by rw [c5]; decide) (by rw [c5]; rfl) (by decide) ?_
      refine lv_aload_n hx hb dX2_isJumpTaken_64 rfl (lv_at hl 1 rfl) ?_
      refine lv_iconst (v := 2) hx hb dX2_isJumpTaken_65 (by decide) ?_
      refine callC_ip (va_runV (As := [.int 2]) (rest := []) ⟨hx, hb, hml, hown, hts⟩ (c_X2_isSet l dC dI h k g _ σ 2) (cwV 1 hts gX2_isJumpTaken_X2_isSet rfl rfl rfl (by decide +kernel) ⟨Nat.le_of_ble_eq_true rfl, Nat.le_of_ble_eq_true rfl⟩) (preC_V (ci := 2) (q0 := 0) hct hP hD hS rfl rfl) rfl rfl hl.1 rfl (lv_room (Nat.le_of_ble_eq_true rfl)) dX2_isJumpTaken_66 ⟨Nat.le_of_ble_eq_true rfl, Nat.le_of_ble_eq_true rfl⟩) hS (fun x6 H locs ex6 hP hD hS => ?_)
      refine lv_if_ne (tgt := 76) hx hb dX2_isJumpTaken_69 (by decide) (fun c7 => ?_) (fun c7 => ?_)
      · refine lv_iconst (v := 0) hx hb dX2_isJumpTaken_76 (by decide) ?_
        exact retC_zp hx hb hr hlocks rfl (by subst ex6; subst ev4; subst ex2; subst ex1; exact (if_pos c5).trans (if_neg c7)) hP hD hS dX2_isJumpTaken_77
      · refine lv_iconst (v := 1) hx hb dX2_isJumpTaken_72 (by decide) ?_
        refine lv_goto (tgt := 77) hx hb dX2_isJumpTaken_73 (by decide) ?_
        exact retC_zp hx hb hr hlocks rfl (by subst ex6; subst ev4; subst ex2; subst ex1; exact (if_pos c5).trans (if_pos c7)) hP hD hS dX2_isJumpTaken_77
    · skip
      rcases Classical.em (a1 = 1) with c8 | c8
      · refine lv_tableIn (tgt := 78) hx hb dX2_isJumpTaken_22 (by rw [c8]; decide) (by rw [c8]; decide) (by rw [c8]; rfl) (by decide) ?_
        refine lv_aload_n hx hb dX2_isJumpTaken_78 rfl (lv_at hl 1 rfl) ?_
        refine lv_iconst (v := 2) hx hb dX2_isJumpTaken_79 (by decide) ?_
        refine callC_ip (va_runV (As := [.int 2]) (rest := []) ⟨hx, hb, hml, hown, hts⟩ (c_X2_isSet l dC dI h k g _ σ 2) (cwV 1 hts gX2_isJumpTaken_X2_isSet rfl rfl rfl (by decide +kernel) ⟨Nat.le_of_ble_eq_true rfl, Nat.le_of_ble_eq_true rfl⟩) (preC_V (ci := 2) (q0 := 0) hct hP hD hS rfl rfl) rfl rfl hl.1 rfl (lv_room (Nat.le_of_ble_eq_true rfl)) dX2_isJumpTaken_80 ⟨Nat.le_of_ble_eq_true rfl, Nat.le_of_ble_eq_true rfl⟩) hS (fun x9 H locs ex9 hP hD hS => ?_)
        exact retC_zp hx hb hr hlocks (nb01 (by rw [ex9]; (try unfold f_X2_isSet); (repeat' split) <;> first | exact Or.inl rfl | exact Or.inr rfl)) (by subst ex9; subst ev4; subst ex2; subst ex1; exact (if_neg c5).trans (if_pos c8)) hP hD hS dX2_isJumpTaken_83
      · skip
        rcases Classical.em (a1 = 2) with c10 | c10
        · refine lv_tableIn (tgt := 84) hx hb dX2_isJumpTaken_22 (by rw [c10]; decide) (by rw [c10]; decide) (by rw [c10]; rfl) (by decide) ?_
          refine lv_aload_n hx hb dX2_isJumpTaken_84 rfl (lv_at hl 1 rfl) ?_
          refine lv_iconst (v := 1) hx hb dX2_isJumpTaken_85 (by decide) ?_
          refine callC_ip (va_runV (As := [.int 1]) (rest := []) ⟨hx, hb, hml, hown, hts⟩ (c_X2_isSet l dC dI h k g _ σ 1) (cwV 1 hts gX2_isJumpTaken_X2_isSet rfl rfl rfl (by decide +kernel) ⟨Nat.le_of_ble_eq_true rfl, Nat.le_of_ble_eq_true rfl⟩) (preC_V (ci := 2) (q0 := 0) hct hP hD hS rfl rfl) rfl rfl hl.1 rfl (lv_room (Nat.le_of_ble_eq_true rfl)) dX2_isJumpTaken_86 ⟨Nat.le_of_ble_eq_true rfl, Nat.le_of_ble_eq_true rfl⟩) hS (fun x11 H locs ex11 hP hD hS => ?_)
          refine lv_if_ne (tgt := 96) hx hb dX2_isJumpTaken_89 (by decide) (fun c12 => ?_) (fun c12 => ?_)
          · refine lv_iconst (v := 0) hx hb dX2_isJumpTaken_96 (by decide) ?_
            exact retC_zp hx hb hr hlocks rfl (by subst ex11; subst ev4; subst ex2; subst ex1; exact (if_neg c5).trans ((if_neg c8).trans ((if_pos c10).trans (if_neg c12)))) hP hD hS dX2_isJumpTaken_97
          · refine lv_iconst (v := 1) hx hb dX2_isJumpTaken_92 (by decide) ?_
            refine lv_goto (tgt := 97) hx hb dX2_isJumpTaken_93 (by decide) ?_
            exact retC_zp hx hb hr hlocks rfl (by subst ex11; subst ev4; subst ex2; subst ex1; exact (if_neg c5).trans ((if_neg c8).trans ((if_pos c10).trans (if_pos c12)))) hP hD hS dX2_isJumpTaken_97
        · skip
          rcases Classical.em (a1 = 3) with c13 | c13
          · refine lv_tableIn (tgt := 98) hx hb dX2_isJumpTaken_22 (by rw [c13]; decide) (by rw [c13]; decide) (by rw [c13]; rfl) (by decide) ?_
            refine lv_aload_n hx hb dX2_isJumpTaken_98 rfl (lv_at hl 1 rfl) ?_
            refine lv_iconst (v := 1) hx hb dX2_isJumpTaken_99 (by decide) ?_
            refine callC_ip (va_runV (As := [.int 1]) (rest := []) ⟨hx, hb, hml, hown, hts⟩ (c_X2_isSet l dC dI h k g _ σ 1) (cwV 1 hts gX2_isJumpTaken_X2_isSet rfl rfl rfl (by decide +kernel) ⟨Nat.le_of_ble_eq_true rfl, Nat.le_of_ble_eq_true rfl⟩) (preC_V (ci := 2) (q0 := 0) hct hP hD hS rfl rfl) rfl rfl hl.1 rfl (lv_room (Nat.le_of_ble_eq_true rfl)) dX2_isJumpTaken_100 ⟨Nat.le_of_ble_eq_true rfl, Nat.le_of_ble_eq_true rfl⟩) hS (fun x14 H locs ex14 hP hD hS => ?_)
            exact retC_zp hx hb hr hlocks (nb01 (by rw [ex14]; (try unfold f_X2_isSet); (repeat' split) <;> first | exact Or.inl rfl | exact Or.inr rfl)) (by subst ex14; subst ev4; subst ex2; subst ex1; exact (if_neg c5).trans ((if_neg c8).trans ((if_neg c10).trans (if_pos c13)))) hP hD hS dX2_isJumpTaken_103
          · skip
            rcases Classical.em (a1 = 4) with c15 | c15
            · refine lv_tableIn (tgt := 104) hx hb dX2_isJumpTaken_22 (by rw [c15]; decide) (by rw [c15]; decide) (by rw [c15]; rfl) (by decide) ?_
              refine lv_aload_n hx hb dX2_isJumpTaken_104 rfl (lv_at hl 1 rfl) ?_
              refine lv_iconst (v := 4) hx hb dX2_isJumpTaken_105 (by decide) ?_
              refine callC_ip (va_runV (As := [.int 4]) (rest := []) ⟨hx, hb, hml, hown, hts⟩ (c_X2_isSet l dC dI h k g _ σ 4) (cwV 1 hts gX2_isJumpTaken_X2_isSet rfl rfl rfl (by decide +kernel) ⟨Nat.le_of_ble_eq_true rfl, Nat.le_of_ble_eq_true rfl⟩) (preC_V (ci := 2) (q0 := 0) hct hP hD hS rfl rfl) rfl rfl hl.1 rfl (lv_room (Nat.le_of_ble_eq_true rfl)) dX2_isJumpTaken_106 ⟨Nat.le_of_ble_eq_true rfl, Nat.le_of_ble_eq_true rfl⟩) hS (fun x16 H locs ex16 hP hD hS => ?_)
              exact retC_zp hx hb hr hlocks (nb01 (by rw [ex16]; (try unfold f_X2_isSet); (repeat' split) <;> first | exact Or.inl rfl | exact Or.inr rfl)) (by subst ex16; subst ev4; subst ex2; subst ex1; exact (if_neg c5).trans ((if_neg c8).trans ((if_neg c10).trans ((if_neg c13).trans (if_pos c15))))) hP hD hS dX2_isJumpTaken_109
            · skip
              rcases Classical.em (a1 = 5) with c17 | c17
              · refine lv_tableIn (tgt := 110) hx hb dX2_isJumpTaken_22 (by rw [c17]; decide) (by rw [c17]; decide) (by rw [c17]; rfl) (by decide) ?_
                refine lv_iload_n hx hb dX2_isJumpTaken_110 rfl (lv_at hl 0 rfl) ?_
                exact retC_zp hx hb hr hlocks (nb01 (by rw [ev4]; (try unfold f_X2_isSet); (repeat' split) <;> first | exact Or.inl rfl | exact Or.inr rfl)) (by subst ev4; subst ex2; subst ex1; exact (if_neg c5).trans ((if_neg c8).trans ((if_neg c10).trans ((if_neg c13).trans ((if_neg c15).trans (if_pos c17)))))) hP hD hS dX2_isJumpTaken_111
              · skip
                rcases Classical.em (a1 = 6) with c18 | c18
                · refine lv_tableIn (tgt := 112) hx hb dX2_isJumpTaken_22 (by rw [c18]; decide) (by rw [c18]; decide) (by rw [c18]; rfl) (by decide) ?_
                  refine lv_iload_n hx hb dX2_isJumpTaken_112 rfl (lv_at hl 0 rfl) ?_
                  refine lv_if_ne (tgt := 120) hx hb dX2_isJumpTaken_113 (by decide) (fun c19 => ?_) (fun c19 => ?_)
                  · refine lv_iconst (v := 0) hx hb dX2_isJumpTaken_120 (by decide) ?_
                    exact retC_zp hx hb hr hlocks rfl (by subst ev4; subst ex2; subst ex1; exact (if_neg c5).trans ((if_neg c8).trans ((if_neg c10).trans ((if_neg c13).trans ((if_neg c15).trans ((if_neg c17).trans ((if_pos c18).trans (if_neg c19)))))))) hP hD hS dX2_isJumpTaken_121
                  · refine lv_iconst (v := 1) hx hb dX2_isJumpTaken_116 (by decide) ?_
                    refine lv_goto (tgt := 121) hx hb dX2_isJumpTaken_117 (by decide) ?_
                    exact retC_zp hx hb hr hlocks rfl (by subst ev4; subst ex2; subst ex1; exact (if_neg c5).trans ((if_neg c8).trans ((if_neg c10).trans ((if_neg c13).trans ((if_neg c15).trans ((if_neg c17).trans ((if_pos c18).trans (if_pos c19)))))))) hP hD hS dX2_isJumpTaken_121
                · skip
                  have nc5 := i32ne (n := 0) (by decide) c5
                  have nc8 := i32ne (n := 1) (by decide) c8
                  have nc10 := i32ne (n := 2) (by decide) c10
                  have nc13 := i32ne (n := 3) (by decide) c13
                  have nc15 := i32ne (n := 4) (by decide) c15
                  have nc17 := i32ne (n := 5) (by decide) c17
                  have nc18 := i32ne (n := 6) (by decide) c18
                  refine lv_tableOut (tgt := 122) hx hb dX2_isJumpTaken_22 (by omega) (by decide) ?_
                  refine lv_iconst (v := 1) hx hb dX2_isJumpTaken_122 (by decide) ?_
                  exact retC_zp hx hb hr hlocks rfl (by subst ev4; subst ex2; subst ex1; exact (if_neg c5).trans ((if_neg c8).trans ((if_neg c10).trans ((if_neg c13).trans ((if_neg c15).trans ((if_neg c17).trans (if_neg c18))))))) hP hD hS dX2_isJumpTaken_123
  · intro J
    refine lv_icmp_ne (tgt := 19) hx hb dX2_isJumpTaken_12 (by decide) (fun c3 => ?_) (fun c3 => ?_)
    · refine lv_iconst (v := 0) hx hb dX2_isJumpTaken_19 (by decide) ?_
      exact J (0) ls _ _ (by exact (if_neg c3).symm) (lv_sub hl [0, 1] rfl) hP hD hS
    · refine lv_iconst (v := 1) hx hb dX2_isJumpTaken_15 (by decide) ?_
      refine lv_goto (tgt := 20) hx hb dX2_isJumpTaken_16 (by decide) ?_
      exact J (1) ls _ _ (by exact (if_pos c3).symm) (lv_sub hl [0, 1] rfl) hP hD hS

set_option maxHeartbeats 4000000 in
set_option maxRecDepth 100000 in
theorem c_X2_doJump (l : Launch) (dC : Nat → ClassId) (dI : Nat → Nat → Nat) (h : Nat → Nat) (k : Nat → ClassId) (g : Nat → Nat) (sz : Nat) (σ : StC) (a1 : Int32) : Met l yX2_doJump wsX2_doJump ({ frames := 2, cells := 0, slots := 0, locals := 44 }) (PcC (dC, dI) h k g [.ref (h 0), .int a1] sz σ) (va_Qv (fun u => u = f_X2_doJump σ a1) (BC (dC, dI) h k (AX 5 h sz)) (AX 5 h sz)) 0 0 (AX 5 h sz) := by
  refine Met.ofW (cc := cX2_doJump) (maxL := 3) (ret := none) (by decide) rfl ?_
  intro p e s m args below meth c s₁ B hml hv
  obtain ⟨rfl, rfl, hP, hct, hD⟩ := hv
  have hx := B.exec
  have hb := B.bytes
  have hr := B.returns
  have hts := atoms_spec (ws := wsX2_doJump) B.pre
  have hown : s.vm.findClass RX2 = some m.cls := findClass_of_methodNamed B.named
  have hlocks := B.notSynchronized
  have hK := hct.1
  have hN := hct.2.1
  have hS : va_S (AX 5 h s.heap.size) s.heap s.heap [] := va_S.rf
  have hl := lv_entry ([.ref (h 0), .int a1]) (n := 3) (Nat.le_of_ble_eq_true rfl)
  rw [lg_entry_eq]
  generalize (lg_sl ([.ref (h 0), .int a1]) ++ List.replicate (3 - (lg_sl ([.ref (h 0), .int a1])).length) Slot.unset).toArray = ls at hl ⊢
  have hl : lv_has ls 3 [(0, .ref (h 0)), (1, .int a1)] := hl
  refine lv_aload_n hx hb dX2_doJump_0 rfl (lv_at hl 0 rfl) ?_
  refine lv_iload_n hx hb dX2_doJump_1 rfl (lv_at hl 1 rfl) ?_
  refine lv_bipush (v := 10) hx hb dX2_doJump_2 (by decide) ?_
  refine lv_ishr hx hb dX2_doJump_4 ?_
  refine lv_bipush (v := 7) hx hb dX2_doJump_5 (by decide) ?_
  refine lv_iand hx hb dX2_doJump_7 ?_
  refine callC_ip (va_runV (As := [.int ((a1 >>> ((10 : Int32) &&& 31)) &&& (7 : Int32))]) (rest := []) ⟨hx, hb, hml, hown, hts⟩ (c_X2_isJumpTaken l dC dI h k g _ σ ((a1 >>> ((10 : Int32) &&& 31)) &&& (7 : Int32))) (cwV 1 hts gX2_doJump_X2_isJumpTaken rfl rfl rfl (by decide +kernel) ⟨Nat.le_of_ble_eq_true rfl, Nat.le_of_ble_eq_true rfl⟩) (preC_V (ci := 2) (q0 := 0) hct hP hD hS rfl rfl) rfl rfl hl.1 rfl (lv_room (Nat.le_of_ble_eq_true rfl)) dX2_doJump_8 ⟨Nat.le_of_ble_eq_true rfl, Nat.le_of_ble_eq_true rfl⟩) hS (fun x1 H locs ex1 hP hD hS => ?_)
  refine wj (α := StC) (D := (dC, dI)) (cl := vwCl) (A := AX 5 h s.heap.size) (H0 := s.heap) (if x1 = 0 then σ else let x4 : Int32 := (((a1 &&& (1023 : Int32)) ^^^ (512 : Int32)) - (512 : Int32)); let σ5 : StC := (f_X2_addToRegister σ 0 ((2 : Int32) * x4)); σ5) (fun v3 => wsC h k v3) (fun v3 => [(0, .ref (h 0)), (1, .int a1)]) 3 (fun v3 ls => F0 m 36 ls []) ?_ ?_
  · intro v3 ls H locs ev3 hl hP hD hS
    try dsimp only at hl hP hD ⊢
    refine lv_aload_n hx hb dX2_doJump_36 rfl (lv_at hl 0 rfl) ?_
    refine lv_iconst (v := 2) hx hb dX2_doJump_37 (by decide) ?_
    refine callC_v (va_runV (As := [.int 2]) (rest := []) ⟨hx, hb, hml, hown, hts⟩ (c_X2_spend l dC dI h k g _ v3 2) (cwV 1 hts gX2_doJump_X2_spend rfl rfl rfl (by decide +kernel) ⟨Nat.le_of_ble_eq_true rfl, Nat.le_of_ble_eq_true rfl⟩) (preC_V (ci := 2) (q0 := 0) hct hP hD hS rfl rfl) rfl rfl hl.1 rfl (lv_room (Nat.le_of_ble_eq_true rfl)) dX2_doJump_38 ⟨Nat.le_of_ble_eq_true rfl, Nat.le_of_ble_eq_true rfl⟩) hS (fun σ4 H locs eσ4 hP hD hS => ?_)
    exact retC_v hx hb hr hlocks (by subst eσ4; subst ev3; subst ex1; exact rfl) hP hD hS dX2_doJump_41
  · intro J
    refine lv_if_eq (tgt := 36) hx hb dX2_doJump_11 (by decide) (fun c2 => ?_) (fun c2 => ?_)
    · exact J (σ) ls _ _ (by exact (if_pos c2).symm) (lv_sub hl [0, 1] rfl) hP hD hS
    · refine lv_iload_n hx hb dX2_doJump_14 rfl (lv_at hl 1 rfl) ?_
      refine lv_sipush (v := 1023) hx hb dX2_doJump_15 (by decide) ?_
      refine lv_iand hx hb dX2_doJump_18 ?_
      refine lv_sipush (v := 512) hx hb dX2_doJump_19 (by decide) ?_
      refine lv_ixor hx hb dX2_doJump_22 ?_
      refine lv_sipush (v := 512) hx hb dX2_doJump_23 (by decide) ?_
      refine lv_isub hx hb dX2_doJump_26 ?_
      refine lv_topi (fun x5 ex5 => ?_)
      refine lv_istore_n (lv' := [(2, .int x5), (0, .ref (h 0)), (1, .int a1)]) hx hb dX2_doJump_27 rfl hl (by decide) rfl (fun ls hl => ?_)
      refine lv_aload_n hx hb dX2_doJump_28 rfl (lv_at hl 1 rfl) ?_
      refine lv_iconst (v := 0) hx hb dX2_doJump_29 (by decide) ?_
      refine lv_iconst (v := 2) hx hb dX2_doJump_30 (by decide) ?_
      refine lv_iload_n hx hb dX2_doJump_31 rfl (lv_at hl 0 rfl) ?_
      refine lv_imul hx hb dX2_doJump_32 ?_
      refine callC_v (va_runV (As := [.int 0, .int ((2 : Int32) * x5)]) (rest := []) ⟨hx, hb, hml, hown, hts⟩ (c_X2_addToRegister l dC dI h k g _ σ 0 ((2 : Int32) * x5)) (cwV 2 hts gX2_doJump_X2_addToRegister rfl rfl rfl (by decide +kernel) ⟨Nat.le_of_ble_eq_true rfl, Nat.le_of_ble_eq_true rfl⟩) (preC_V (ci := 2) (q0 := 0) hct hP hD hS rfl rfl) rfl rfl hl.1 rfl (lv_room (Nat.le_of_ble_eq_true rfl)) dX2_doJump_33 ⟨Nat.le_of_ble_eq_true rfl, Nat.le_of_ble_eq_true rfl⟩) hS (fun σ6 H locs eσ6 hP hD hS => ?_)
      exact J (σ6) ls _ _ (by subst eσ6; subst ex5; exact (if_neg c2).symm) (lv_sub hl [1, 2] rfl) hP hD hS

set_option maxHeartbeats 4000000 in
set_option maxRecDepth 100000 in
theorem c_X2_kindOfSource (l : Launch) (dC : Nat → ClassId) (dI : Nat → Nat → Nat) (h : Nat → Nat) (k : Nat → ClassId) (g : Nat → Nat) (sz : Nat) (σ : StC) (a1 : Int32) (a2 : Int32) : Met l yX2_kindOfSource wsX2_kindOfSource ({ frames := 0, cells := 0, slots := 0, locals := 0 }) (PcC (dC, dI) h k g [.int a1, .int a2] sz σ) (va_Qi (fun r u => (r, u) = (f_X2_kindOfSource a1 a2, σ)) (BC (dC, dI) h k (AX 5 h sz)) (AX 5 h sz)) 0 0 (AX 5 h sz) := by
  refine Met.ofW (cc := cX2_kindOfSource) (maxL := 2) (ret := (some .int)) (by decide) rfl ?_
  intro p e s m args below meth c s₁ B hml hv
  obtain ⟨rfl, rfl, hP, hct, hD⟩ := hv
  have hx := B.exec
  have hb := B.bytes
  have hr := B.returns
  have hts := atoms_spec (ws := wsX2_kindOfSource) B.pre
  have hown : s.vm.findClass RX2 = some m.cls := findClass_of_methodNamed B.named
  have hlocks := B.notSynchronized
  have hK := hct.1
  have hN := hct.2.1
  have hS : va_S (AX 5 h s.heap.size) s.heap s.heap [] := va_S.rf
  have hl := lv_entry ([.int a1, .int a2]) (n := 2) (Nat.le_of_ble_eq_true rfl)
  rw [lg_entry_eq]
  generalize (lg_sl ([.int a1, .int a2]) ++ List.replicate (2 - (lg_sl ([.int a1, .int a2])).length) Slot.unset).toArray = ls at hl ⊢
  have hl : lv_has ls 2 [(0, .int a1), (1, .int a2)] := hl
  refine lv_iload_n hx hb dX2_kindOfSource_0 rfl (lv_at hl 0 rfl) ?_
  refine lv_ldc (v := 65536) hx hb hown (hts (.constant RX2 48 65536) (by decide +kernel)) dX2_kindOfSource_1 ?_
  refine lv_icmp_lt (tgt := 10) hx hb dX2_kindOfSource_3 (by decide) (fun c1 => ?_) (fun c1 => ?_)
  · refine va_gets (v := .ref (g 0)) hx hb (hct.2.2.1 0 (by decide)) hS hown (hts (.fieldLink RX2 182 "LowPowerCpu" "KIND_OF_WAY" "[I") (by decide +kernel)) (fun _ h9 => h9) dX2_kindOfSource_10 ?_
    refine lv_iload_n hx hb dX2_kindOfSource_13 rfl (lv_at hl 1 rfl) ?_
    refine lv_iconst (v := 4) hx hb dX2_kindOfSource_14 (by decide) ?_
    refine lv_ishr hx hb dX2_kindOfSource_15 ?_
    refine lv_iconst (v := 3) hx hb dX2_kindOfSource_16 (by decide) ?_
    refine lv_iand hx hb dX2_kindOfSource_17 ?_
    refine va_ti (v := .int (tabC 0 ((a2 >>> ((4 : Int32) &&& 31)) &&& (3 : Int32)).toNatClampNeg)) hx hb (hct.2.2.2 0 (by decide)) hS (pk_andIn _ 2 (by decide) (by decide)) rfl dX2_kindOfSource_18 ?_
    exact retC_ip hx hb hr hlocks (by exact if_pos c1) hP hD hS dX2_kindOfSource_19
  · refine lv_iconst (v := 0) hx hb dX2_kindOfSource_6 (by decide) ?_
    refine lv_goto (tgt := 19) hx hb dX2_kindOfSource_7 (by decide) ?_
    exact retC_ip hx hb hr hlocks (by exact if_neg c1) hP hD hS dX2_kindOfSource_19

set_option maxHeartbeats 4000000 in
set_option maxRecDepth 100000 in
theorem c_X2_twoPartsCycles (l : Launch) (dC : Nat → ClassId) (dI : Nat → Nat → Nat) (h : Nat → Nat) (k : Nat → ClassId) (g : Nat → Nat) (sz : Nat) (σ : StC) (a1 : Int32) : Met l yX2_twoPartsCycles wsX2_twoPartsCycles ({ frames := 0, cells := 0, slots := 0, locals := 0 }) (PcC (dC, dI) h k g [.int a1] sz σ) (va_Qr (fun w : Nat × StC => w = (f_X2_twoPartsCycles a1, σ)) (fun w a t => a = g w.1 ∧ BC (dC, dI) h k (AX 5 h sz) w.2 t) (AX 5 h sz)) 0 0 (AX 5 h sz) := by
  refine Met.ofW (cc := cX2_twoPartsCycles) (maxL := 1) (ret := (some (.array .int))) (by decide) rfl ?_
  intro p e s m args below meth c s₁ B hml hv
  obtain ⟨rfl, rfl, hP, hct, hD⟩ := hv
  have hx := B.exec
  have hb := B.bytes
  have hr := B.returns
  have hts := atoms_spec (ws := wsX2_twoPartsCycles) B.pre
  have hown : s.vm.findClass RX2 = some m.cls := findClass_of_methodNamed B.named
  have hlocks := B.notSynchronized
  have hK := hct.1
  have hN := hct.2.1
  have hS : va_S (AX 5 h s.heap.size) s.heap s.heap [] := va_S.rf
  have hl := lv_entry ([.int a1]) (n := 1) (Nat.le_of_ble_eq_true rfl)
  rw [lg_entry_eq]
  generalize (lg_sl ([.int a1]) ++ List.replicate (1 - (lg_sl ([.int a1])).length) Slot.unset).toArray = ls at hl ⊢
  have hl : lv_has ls 1 [(0, .int a1)] := hl
  refine lv_iload_n hx hb dX2_twoPartsCycles_0 rfl (lv_at hl 0 rfl) ?_
  refine lv_ldc (v := 65536) hx hb hown (hts (.constant RX2 48 65536) (by decide +kernel)) dX2_twoPartsCycles_1 ?_
  refine lv_icmp_ge (tgt := 10) hx hb dX2_twoPartsCycles_3 (by decide) (fun c1 => ?_) (fun c1 => ?_)
  · refine lv_iload_n hx hb dX2_twoPartsCycles_10 rfl (lv_at hl 0 rfl) ?_
    refine lv_ldc (v := 65536) hx hb hown (hts (.constant RX2 48 65536) (by decide +kernel)) dX2_twoPartsCycles_11 ?_
    refine lv_icmp_ne (tgt := 22) hx hb dX2_twoPartsCycles_13 (by decide) (fun c2 => ?_) (fun c2 => ?_)
    · refine va_gets (v := .ref (g 1)) hx hb (hct.2.2.1 1 (by decide)) hS hown (hts (.fieldLink RX2 191 "LowPowerCpu" "TO_REGISTER_CYCLES" "[I") (by decide +kernel)) (fun _ h9 => h9) dX2_twoPartsCycles_22 ?_
      exact retC_rp (v := 1) hx hb hr hlocks (by exact (if_pos c1).trans (if_neg c2)) hP hD hS dX2_twoPartsCycles_25
    · refine va_gets (v := .ref (g 2)) hx hb (hct.2.2.1 2 (by decide)) hS hown (hts (.fieldLink RX2 188 "LowPowerCpu" "TO_PC_CYCLES" "[I") (by decide +kernel)) (fun _ h9 => h9) dX2_twoPartsCycles_16 ?_
      refine lv_goto (tgt := 25) hx hb dX2_twoPartsCycles_19 (by decide) ?_
      exact retC_rp (v := 2) hx hb hr hlocks (by exact (if_pos c1).trans (if_pos c2)) hP hD hS dX2_twoPartsCycles_25
  · refine va_gets (v := .ref (g 3)) hx hb (hct.2.2.1 3 (by decide)) hS hown (hts (.fieldLink RX2 185 "LowPowerCpu" "TO_MEMORY_CYCLES" "[I") (by decide +kernel)) (fun _ h9 => h9) dX2_twoPartsCycles_6 ?_
    exact retC_rp (v := 3) hx hb hr hlocks (by exact if_neg c1) hP hD hS dX2_twoPartsCycles_9
