set_option maxHeartbeats 4000000 in
set_option maxRecDepth 100000 in
theorem c_X2_setRegister (l : Launch) (dC : Nat → ClassId) (dI : Nat → Nat → Nat) (h : Nat → Nat) (k : Nat → ClassId) (g : Nat → Nat) (sz : Nat) (σ : StC) (a1 : Int32) (a2 : Int32) : Met l yX2_setRegister wsX2_setRegister ({ frames := 0, cells := 0, slots := 0, locals := 0 }) (PcC (dC, dI) h k g [.ref (h 0), .int a1, .int a2] sz σ) (va_Qv (fun u => u = f_X2_setRegister σ a1 a2) (BC (dC, dI) h k (AX 5 h sz)) (AX 5 h sz)) 0 0 (AX 5 h sz) := by
  refine Met.ofW (cc := cX2_setRegister) (maxL := 3) (ret := none) (by decide) rfl ?_
  intro p e s m args below meth c s₁ B hml hv
  obtain ⟨rfl, rfl, hP, hct, hD⟩ := hv
  have hx := B.exec
  have hb := B.bytes
  have hr := B.returns
  have hts := atoms_spec (ws := wsX2_setRegister) B.pre
  have hown : s.vm.findClass RX2 = some m.cls := findClass_of_methodNamed B.named
  have hlocks := B.notSynchronized
  have hK := hct.1
  have hN := hct.2.1
  have hS : va_S (AX 5 h s.heap.size) s.heap s.heap [] := va_S.rf
  have hl := lv_entry ([.ref (h 0), .int a1, .int a2]) (n := 3) (Nat.le_of_ble_eq_true rfl)
  rw [lg_entry_eq]
  generalize (lg_sl ([.ref (h 0), .int a1, .int a2]) ++ List.replicate (3 - (lg_sl ([.ref (h 0), .int a1, .int a2])).length) Slot.unset).toArray = ls at hl ⊢
  have hl : lv_has ls 3 [(0, .ref (h 0)), (1, .int a1), (2, .int a2)] := hl
  refine lv_iload_n hx hb dX2_setRegister_0 rfl (lv_at hl 1 rfl) ?_
  refine lv_iconst (v := 3) hx hb dX2_setRegister_1 (by decide) ?_
  refine lv_icmp_ne (tgt := 6) hx hb dX2_setRegister_2 (by decide) (fun c1 => ?_) (fun c1 => ?_)
  · refine lv_aload_n hx hb dX2_setRegister_6 rfl (lv_at hl 0 rfl) ?_
    refine va_get (D := (dC, dI)) (ci := 2) (v := .ref (h 2)) (C := RX2) (T := TX2) (N := 4) hx hb hts (fun _ h9 => List.mem_cons_of_mem _ (List.mem_append_right _ h9)) hown hK hP 0 rfl rfl 1 (by decide) (hts (.fieldLink RX2 16 "LowPowerCpu" "registers" "[I") (by decide +kernel)) (fun _ h9 => h9) rfl dX2_setRegister_7 ?_
    refine lv_iload_n hx hb dX2_setRegister_10 rfl (lv_at hl 1 rfl) ?_
    refine lv_bipush (v := 15) hx hb dX2_setRegister_11 (by decide) ?_
    refine lv_iand hx hb dX2_setRegister_13 ?_
    refine lv_iload_n hx hb dX2_setRegister_14 rfl (lv_at hl 2 rfl) ?_
    refine lv_iload_n hx hb dX2_setRegister_15 rfl (lv_at hl 1 rfl) ?_
    refine wj (α := Int32) (D := (dC, dI)) (cl := vwCl) (A := AX 5 h s.heap.size) (H0 := s.heap) (if a1 = 0 then 65534 else 65535) (fun v3 => wsC h k σ) (fun v3 => [(0, .ref (h 0)), (1, .int a1), (2, .int a2)]) 3 (fun v3 ls => F0 m 26 ls [.int v3, .int a2, .int (a1 &&& (15 : Int32)), .ref (h 2)]) ?_ ?_
    · intro v3 ls H locs ev3 hl hP hD hS
      try dsimp only at hl hP hD ⊢
      refine lv_iand hx hb dX2_setRegister_26 ?_
      refine lv_topi (fun x4 ex4 => ?_)
      refine va_iast hx hb hK hP hD hS 2 0 rfl rfl (pk_andIn _ 4 (by decide) (by decide)) dX2_setRegister_27 (fun H locs hP hD hS => ?_)
      have hP : va_P (dC, dI) vwCl (wsC h k (upd σ.1 ((a1 &&& (15 : Int32)).toNatClampNeg) x4, σ.2.1, σ.2.2.1, σ.2.2.2.1, σ.2.2.2.2.1, σ.2.2.2.2.2.1, σ.2.2.2.2.2.2.1, σ.2.2.2.2.2.2.2.1, σ.2.2.2.2.2.2.2.2.1, σ.2.2.2.2.2.2.2.2.2)) H := hP
      have hD : va_D (AX 5 h s.heap.size) (wsC h k (upd σ.1 ((a1 &&& (15 : Int32)).toNatClampNeg) x4, σ.2.1, σ.2.2.1, σ.2.2.2.1, σ.2.2.2.2.1, σ.2.2.2.2.2.1, σ.2.2.2.2.2.2.1, σ.2.2.2.2.2.2.2.1, σ.2.2.2.2.2.2.2.2.1, σ.2.2.2.2.2.2.2.2.2)) := hD
      exact retC_v hx hb hr hlocks (by subst ex4; subst ev3; exact if_neg c1) hP hD hS dX2_setRegister_28
    · intro J
      refine lv_if_ne (tgt := 24) hx hb dX2_setRegister_16 (by decide) (fun c2 => ?_) (fun c2 => ?_)
      · refine lv_ldc (v := 65535) hx hb hown (hts (.constant RX2 149 65535) (by decide +kernel)) dX2_setRegister_24 ?_
        exact J (65535) ls _ _ (by exact (if_neg c2).symm) (lv_sub hl [0, 1, 2] rfl) hP hD hS
      · refine lv_ldc (v := 65534) hx hb hown (hts (.constant RX2 39 65534) (by decide +kernel)) dX2_setRegister_19 ?_
        refine lv_goto (tgt := 26) hx hb dX2_setRegister_21 (by decide) ?_
        exact J (65534) ls _ _ (by exact (if_pos c2).symm) (lv_sub hl [0, 1, 2] rfl) hP hD hS
  · exact retC_v hx hb hr hlocks (by exact if_pos c1) hP hD hS dX2_setRegister_5

set_option maxHeartbeats 4000000 in
set_option maxRecDepth 100000 in
theorem c_X2_addToRegister (l : Launch) (dC : Nat → ClassId) (dI : Nat → Nat → Nat) (h : Nat → Nat) (k : Nat → ClassId) (g : Nat → Nat) (sz : Nat) (σ : StC) (a1 : Int32) (a2 : Int32) : Met l yX2_addToRegister wsX2_addToRegister ({ frames := 1, cells := 0, slots := 0, locals := 22 }) (PcC (dC, dI) h k g [.ref (h 0), .int a1, .int a2] sz σ) (va_Qv (fun u => u = f_X2_addToRegister σ a1 a2) (BC (dC, dI) h k (AX 5 h sz)) (AX 5 h sz)) 0 0 (AX 5 h sz) := by
  refine Met.ofW (cc := cX2_addToRegister) (maxL := 3) (ret := none) (by decide) rfl ?_
  intro p e s m args below meth c s₁ B hml hv
  obtain ⟨rfl, rfl, hP, hct, hD⟩ := hv
  have hx := B.exec
  have hb := B.bytes
  have hr := B.returns
  have hts := atoms_spec (ws := wsX2_addToRegister) B.pre
  have hown : s.vm.findClass RX2 = some m.cls := findClass_of_methodNamed B.named
  have hlocks := B.notSynchronized
  have hK := hct.1
  have hN := hct.2.1
  have hS : va_S (AX 5 h s.heap.size) s.heap s.heap [] := va_S.rf
  have hl := lv_entry ([.ref (h 0), .int a1, .int a2]) (n := 3) (Nat.le_of_ble_eq_true rfl)
  rw [lg_entry_eq]
  generalize (lg_sl ([.ref (h 0), .int a1, .int a2]) ++ List.replicate (3 - (lg_sl ([.ref (h 0), .int a1, .int a2])).length) Slot.unset).toArray = ls at hl ⊢
  have hl : lv_has ls 3 [(0, .ref (h 0)), (1, .int a1), (2, .int a2)] := hl
  refine lv_aload_n hx hb dX2_addToRegister_0 rfl (lv_at hl 0 rfl) ?_
  refine lv_iload_n hx hb dX2_addToRegister_1 rfl (lv_at hl 1 rfl) ?_
  refine lv_aload_n hx hb dX2_addToRegister_2 rfl (lv_at hl 0 rfl) ?_
  refine va_get (D := (dC, dI)) (ci := 2) (v := .ref (h 2)) (C := RX2) (T := TX2) (N := 4) hx hb hts (fun _ h9 => List.mem_cons_of_mem _ (List.mem_append_right _ h9)) hown hK hP 0 rfl rfl 1 (by decide) (hts (.fieldLink RX2 16 "LowPowerCpu" "registers" "[I") (by decide +kernel)) (fun _ h9 => h9) rfl dX2_addToRegister_3 ?_
  refine lv_iload_n hx hb dX2_addToRegister_6 rfl (lv_at hl 1 rfl) ?_
  refine lv_bipush (v := 15) hx hb dX2_addToRegister_7 (by decide) ?_
  refine lv_iand hx hb dX2_addToRegister_9 ?_
  refine va_iald hx hb hK hP 2 0 rfl rfl (pk_andIn _ 4 (by decide) (by decide)) dX2_addToRegister_10 ?_
  refine lv_iload_n hx hb dX2_addToRegister_11 rfl (lv_at hl 2 rfl) ?_
  refine lv_iadd hx hb dX2_addToRegister_12 ?_
  refine callC_v (va_runV (As := [.int a1, .int ((σ.1 (a1 &&& (15 : Int32)).toNatClampNeg) + a2)]) (rest := []) ⟨hx, hb, hml, hown, hts⟩ (c_X2_setRegister l dC dI h k g _ σ a1 ((σ.1 (a1 &&& (15 : Int32)).toNatClampNeg) + a2)) (cwV 2 hts gX2_addToRegister_X2_setRegister rfl rfl rfl (by decide +kernel) ⟨Nat.le_of_ble_eq_true rfl, Nat.le_of_ble_eq_true rfl⟩) (preC_V (ci := 2) (q0 := 0) hct hP hD hS rfl rfl) rfl rfl hl.1 rfl (lv_room (Nat.le_of_ble_eq_true rfl)) dX2_addToRegister_13 ⟨Nat.le_of_ble_eq_true rfl, Nat.le_of_ble_eq_true rfl⟩) hS (fun σ1 H locs eσ1 hP hD hS => ?_)
  exact retC_v hx hb hr hlocks (by subst eσ1; exact rfl) hP hD hS dX2_addToRegister_16

set_option maxHeartbeats 4000000 in
set_option maxRecDepth 100000 in
theorem c_X2_spend (l : Launch) (dC : Nat → ClassId) (dI : Nat → Nat → Nat) (h : Nat → Nat) (k : Nat → ClassId) (g : Nat → Nat) (sz : Nat) (σ : StC) (a1 : Int32) : Met l yX2_spend wsX2_spend ({ frames := 0, cells := 0, slots := 0, locals := 0 }) (PcC (dC, dI) h k g [.ref (h 0), .int a1] sz σ) (va_Qv (fun u => u = f_X2_spend σ a1) (BC (dC, dI) h k (AX 5 h sz)) (AX 5 h sz)) 0 0 (AX 5 h sz) := by
  refine Met.ofW (cc := cX2_spend) (maxL := 2) (ret := none) (by decide) rfl ?_
  intro p e s m args below meth c s₁ B hml hv
  obtain ⟨rfl, rfl, hP, hct, hD⟩ := hv
  have hx := B.exec
  have hb := B.bytes
  have hr := B.returns
  have hts := atoms_spec (ws := wsX2_spend) B.pre
  have hown : s.vm.findClass RX2 = some m.cls := findClass_of_methodNamed B.named
  have hlocks := B.notSynchronized
  have hK := hct.1
  have hN := hct.2.1
  have hS : va_S (AX 5 h s.heap.size) s.heap s.heap [] := va_S.rf
  have hl := lv_entry ([.ref (h 0), .int a1]) (n := 2) (Nat.le_of_ble_eq_true rfl)
  rw [lg_entry_eq]
  generalize (lg_sl ([.ref (h 0), .int a1]) ++ List.replicate (2 - (lg_sl ([.ref (h 0), .int a1])).length) Slot.unset).toArray = ls at hl ⊢
  have hl : lv_has ls 2 [(0, .ref (h 0)), (1, .int a1)] := hl
  refine lv_aload_n hx hb dX2_spend_0 rfl (lv_at hl 0 rfl) ?_
  refine lv_aload_n hx hb dX2_spend_1 rfl (lv_at hl 0 rfl) ?_
  refine va_get (D := (dC, dI)) (ci := 2) (v := .int σ.2.2.1) (C := RX2) (T := TX2) (N := 4) hx hb hts (fun _ h9 => List.mem_cons_of_mem _ (List.mem_append_right _ h9)) hown hK hP 0 rfl rfl 3 (by decide) (hts (.fieldLink RX2 27 "LowPowerCpu" "cycles" "I") (by decide +kernel)) (fun _ h9 => h9) rfl dX2_spend_2 ?_
  refine lv_iload_n hx hb dX2_spend_5 rfl (lv_at hl 1 rfl) ?_
  refine lv_iadd hx hb dX2_spend_6 ?_
  refine lv_ldc (v := 1073741823) hx hb hown (hts (.constant RX2 194 1073741823) (by decide +kernel)) dX2_spend_7 ?_
  refine lv_iand hx hb dX2_spend_9 ?_
  refine lv_topi (fun x1 ex1 => ?_)
  refine va_put (D := (dC, dI)) (ci := 2) (v := .int x1) (ty := .int) (C := RX2) (T := TX2) (N := 4) hx hb hts (fun _ h9 => List.mem_cons_of_mem _ (List.mem_append_right _ h9)) tyX2 tyX2_ok nmX2 hown hK hP hD hS 0 rfl rfl 3 (by decide) (hts (.fieldLink RX2 27 "LowPowerCpu" "cycles" "I") (by decide +kernel)) (fun _ h9 => h9) rfl (by decide +kernel) rfl rfl (Nat.le_of_ble_eq_true rfl) dX2_spend_10 (fun H locs hP hD hS => ?_)
  have hP : va_P (dC, dI) vwCl (wsC h k (σ.1, σ.2.1, x1, σ.2.2.2.1, σ.2.2.2.2.1, σ.2.2.2.2.2.1, σ.2.2.2.2.2.2.1, σ.2.2.2.2.2.2.2.1, σ.2.2.2.2.2.2.2.2.1, σ.2.2.2.2.2.2.2.2.2)) H := hP
  have hD : va_D (AX 5 h s.heap.size) (wsC h k (σ.1, σ.2.1, x1, σ.2.2.2.1, σ.2.2.2.2.1, σ.2.2.2.2.2.1, σ.2.2.2.2.2.2.1, σ.2.2.2.2.2.2.2.1, σ.2.2.2.2.2.2.2.2.1, σ.2.2.2.2.2.2.2.2.2)) := hD
  exact retC_v hx hb hr hlocks (by subst ex1; exact rfl) hP hD hS dX2_spend_13

set_option maxHeartbeats 4000000 in
set_option maxRecDepth 100000 in
theorem c_X2_spendByKind (l : Launch) (dC : Nat → ClassId) (dI : Nat → Nat → Nat) (h : Nat → Nat) (k : Nat → ClassId) (g : Nat → Nat) (sz : Nat) (σ : StC) (a1 : Nat) (ha1 : a1 < 7) (a2 : Int32) : Met l yX2_spendByKind wsX2_spendByKind ({ frames := 1, cells := 0, slots := 0, locals := 21 }) (PcC (dC, dI) h k g [.ref (h 0), .ref (g a1), .int a2] sz σ) (va_Qv (fun u => u = f_X2_spendByKind σ a1 a2) (BC (dC, dI) h k (AX 5 h sz)) (AX 5 h sz)) 0 0 (AX 5 h sz) := by
  refine Met.ofW (cc := cX2_spendByKind) (maxL := 3) (ret := none) (by decide) rfl ?_
  intro p e s m args below meth c s₁ B hml hv
  obtain ⟨rfl, rfl, hP, hct, hD⟩ := hv
  have hx := B.exec
  have hb := B.bytes
  have hr := B.returns
  have hts := atoms_spec (ws := wsX2_spendByKind) B.pre
  have hown : s.vm.findClass RX2 = some m.cls := findClass_of_methodNamed B.named
  have hlocks := B.notSynchronized
  have hK := hct.1
  have hN := hct.2.1
  have hS : va_S (AX 5 h s.heap.size) s.heap s.heap [] := va_S.rf
  have hl := lv_entry ([.ref (h 0), .ref (g a1), .int a2]) (n := 3) (Nat.le_of_ble_eq_true rfl)
  rw [lg_entry_eq]
  generalize (lg_sl ([.ref (h 0), .ref (g a1), .int a2]) ++ List.replicate (3 - (lg_sl ([.ref (h 0), .ref (g a1), .int a2])).length) Slot.unset).toArray = ls at hl ⊢
  have hl : lv_has ls 3 [(0, .ref (h 0)), (1, .ref (g a1)), (2, .int a2)] := hl
  refine lv_aload_n hx hb dX2_spendByKind_0 rfl (lv_at hl 0 rfl) ?_
  refine lv_aload_n hx hb dX2_spendByKind_1 rfl (lv_at hl 1 rfl) ?_
  refine lv_iload_n hx hb dX2_spendByKind_2 rfl (lv_at hl 2 rfl) ?_
  refine lv_iconst (v := 3) hx hb dX2_spendByKind_3 (by decide) ?_
  refine lv_iand hx hb dX2_spendByKind_4 ?_
  refine va_ti (v := .int (tabC a1 (a2 &&& (3 : Int32)).toNatClampNeg)) hx hb (hct.2.2.2 a1 ha1) hS (pk_andIn _ 2 (by decide) (by decide)) rfl dX2_spendByKind_5 ?_
  refine callC_v (va_runV (As := [.int (tabC a1 (a2 &&& (3 : Int32)).toNatClampNeg)]) (rest := []) ⟨hx, hb, hml, hown, hts⟩ (c_X2_spend l dC dI h k g _ σ (tabC a1 (a2 &&& (3 : Int32)).toNatClampNeg)) (cwV 1 hts gX2_spendByKind_X2_spend rfl rfl rfl (by decide +kernel) ⟨Nat.le_of_ble_eq_true rfl, Nat.le_of_ble_eq_true rfl⟩) (preC_V (ci := 2) (q0 := 0) hct hP hD hS rfl rfl) rfl rfl hl.1 rfl (lv_room (Nat.le_of_ble_eq_true rfl)) dX2_spendByKind_6 ⟨Nat.le_of_ble_eq_true rfl, Nat.le_of_ble_eq_true rfl⟩) hS (fun σ1 H locs eσ1 hP hD hS => ?_)
  exact retC_v hx hb hr hlocks (by subst eσ1; exact rfl) hP hD hS dX2_spendByKind_9

set_option maxHeartbeats 4000000 in
set_option maxRecDepth 100000 in
theorem c_X2_isHighestSet (l : Launch) (dC : Nat → ClassId) (dI : Nat → Nat → Nat) (h : Nat → Nat) (k : Nat → ClassId) (g : Nat → Nat) (sz : Nat) (σ : StC) (a1 : Int32) (a2 : Int32) : Met l yX2_isHighestSet wsX2_isHighestSet ({ frames := 0, cells := 0, slots := 0, locals := 0 }) (PcC (dC, dI) h k g [.int a1, .int a2] sz σ) (va_Qi (fun r u => (r, u) = (f_X2_isHighestSet a1 a2, σ)) (BC (dC, dI) h k (AX 5 h sz)) (AX 5 h sz)) 0 0 (AX 5 h sz) := by
  refine Met.ofW (cc := cX2_isHighestSet) (maxL := 2) (ret := (some .boolean)) (by decide) rfl ?_
  intro p e s m args below meth c s₁ B hml hv
  obtain ⟨rfl, rfl, hP, hct, hD⟩ := hv
  have hx := B.exec
  have hb := B.bytes
  have hr := B.returns
  have hts := atoms_spec (ws := wsX2_isHighestSet) B.pre
  have hown : s.vm.findClass RX2 = some m.cls := findClass_of_methodNamed B.named
  have hlocks := B.notSynchronized
  have hK := hct.1
  have hN := hct.2.1
  have hS : va_S (AX 5 h s.heap.size) s.heap s.heap [] := va_S.rf
  have hl := lv_entry ([.int a1, .int a2]) (n := 2) (Nat.le_of_ble_eq_true rfl)
  rw [lg_entry_eq]
  generalize (lg_sl ([.int a1, .int a2]) ++ List.replicate (2 - (lg_sl ([.int a1, .int a2])).length) Slot.unset).toArray = ls at hl ⊢
  have hl : lv_has ls 2 [(0, .int a1), (1, .int a2)] := hl
  refine lv_iload_n hx hb dX2_isHighestSet_0 rfl (lv_at hl 0 rfl) ?_
  refine lv_iload_n hx hb dX2_isHighestSet_1 rfl (lv_at hl 1 rfl) ?_
  refine lv_iconst (v := 1) hx hb dX2_isHighestSet_2 (by decide) ?_
  refine lv_iadd hx hb dX2_isHighestSet_3 ?_
  refine lv_iconst (v := 1) hx hb dX2_isHighestSet_4 (by decide) ?_
  refine lv_ishr hx hb dX2_isHighestSet_5 ?_
  refine lv_iand hx hb dX2_isHighestSet_6 ?_
  refine lv_if_eq (tgt := 14) hx hb dX2_isHighestSet_7 (by decide) (fun c1 => ?_) (fun c1 => ?_)
  · refine lv_iconst (v := 0) hx hb dX2_isHighestSet_14 (by decide) ?_
    exact retC_zp hx hb hr hlocks rfl (by exact if_pos c1) hP hD hS dX2_isHighestSet_15
  · refine lv_iconst (v := 1) hx hb dX2_isHighestSet_10 (by decide) ?_
    refine lv_goto (tgt := 15) hx hb dX2_isHighestSet_11 (by decide) ?_
    exact retC_zp hx hb hr hlocks rfl (by exact if_neg c1) hP hD hS dX2_isHighestSet_15

set_option maxHeartbeats 4000000 in
set_option maxRecDepth 100000 in
theorem c_X2_isSet (l : Launch) (dC : Nat → ClassId) (dI : Nat → Nat → Nat) (h : Nat → Nat) (k : Nat → ClassId) (g : Nat → Nat) (sz : Nat) (σ : StC) (a1 : Int32) : Met l yX2_isSet wsX2_isSet ({ frames := 0, cells := 0, slots := 0, locals := 0 }) (PcC (dC, dI) h k g [.ref (h 0), .int a1] sz σ) (va_Qi (fun r u => (r, u) = (f_X2_isSet σ a1, σ)) (BC (dC, dI) h k (AX 5 h sz)) (AX 5 h sz)) 0 0 (AX 5 h sz) := by
  refine Met.ofW (cc := cX2_isSet) (maxL := 2) (ret := (some .boolean)) (by decide) rfl ?_
  intro p e s m args below meth c s₁ B hml hv
  obtain ⟨rfl, rfl, hP, hct, hD⟩ := hv
  have hx := B.exec
  have hb := B.bytes
  have hr := B.returns
  have hts := atoms_spec (ws := wsX2_isSet) B.pre
  have hown : s.vm.findClass RX2 = some m.cls := findClass_of_methodNamed B.named
  have hlocks := B.notSynchronized
  have hK := hct.1
  have hN := hct.2.1
  have hS : va_S (AX 5 h s.heap.size) s.heap s.heap [] := va_S.rf
  have hl := lv_entry ([.ref (h 0), .int a1]) (n := 2) (Nat.le_of_ble_eq_true rfl)
  rw [lg_entry_eq]
  generalize (lg_sl ([.ref (h 0), .int a1]) ++ List.replicate (2 - (lg_sl ([.ref (h 0), .int a1])).length) Slot.unset).toArray = ls at hl ⊢
  have hl : lv_has ls 2 [(0, .ref (h 0)), (1, .int a1)] := hl
  refine lv_aload_n hx hb dX2_isSet_0 rfl (lv_at hl 0 rfl) ?_
  refine va_get (D := (dC, dI)) (ci := 2) (v := .ref (h 2)) (C := RX2) (T := TX2) (N := 4) hx hb hts (fun _ h9 => List.mem_cons_of_mem _ (List.mem_append_right _ h9)) hown hK hP 0 rfl rfl 1 (by decide) (hts (.fieldLink RX2 16 "LowPowerCpu" "registers" "[I") (by decide +kernel)) (fun _ h9 => h9) rfl dX2_isSet_1 ?_
  refine lv_iconst (v := 2) hx hb dX2_isSet_4 (by decide) ?_
  refine va_iald hx hb hK hP 2 0 rfl rfl (in_c (by decide)) dX2_isSet_5 ?_
  refine lv_iload_n hx hb dX2_isSet_6 rfl (lv_at hl 1 rfl) ?_
  refine lv_iand hx hb dX2_isSet_7 ?_
  refine lv_if_eq (tgt := 15) hx hb dX2_isSet_8 (by decide) (fun c1 => ?_) (fun c1 => ?_)
  · refine lv_iconst (v := 0) hx hb dX2_isSet_15 (by decide) ?_
    exact retC_zp hx hb hr hlocks rfl (by exact if_pos c1) hP hD hS dX2_isSet_16
  · refine lv_iconst (v := 1) hx hb dX2_isSet_11 (by decide) ?_
    refine lv_goto (tgt := 16) hx hb dX2_isSet_12 (by decide) ?_
    exact retC_zp hx hb hr hlocks rfl (by exact if_neg c1) hP hD hS dX2_isSet_16

set_option maxHeartbeats 4000000 in
set_option maxRecDepth 100000 in
theorem c_X2_setFlags (l : Launch) (dC : Nat → ClassId) (dI : Nat → Nat → Nat) (h : Nat → Nat) (k : Nat → ClassId) (g : Nat → Nat) (sz : Nat) (σ : StC) (a1 : Int32) (a2 : Int32) (a3 : Int32) (a4 : Int32) : Met l yX2_setFlags wsX2_setFlags ({ frames := 1, cells := 0, slots := 0, locals := 22 }) (PcC (dC, dI) h k g [.ref (h 0), .int a1, .int a2, .int a3, .int a4] sz σ) (va_Qv (fun u => u = f_X2_setFlags σ a1 a2 a3 a4) (BC (dC, dI) h k (AX 5 h sz)) (AX 5 h sz)) 0 0 (AX 5 h sz) := by
  refine Met.ofW (cc := cX2_setFlags) (maxL := 6) (ret := none) (by decide) rfl ?_
  intro p e s m args below meth c s₁ B hml hv
  obtain ⟨rfl, rfl, hP, hct, hD⟩ := hv
  have hx := B.exec
  have hb := B.bytes
  have hr := B.returns
  have hts := atoms_spec (ws := wsX2_setFlags) B.pre
  have hown : s.vm.findClass RX2 = some m.cls := findClass_of_methodNamed B.named
  have hlocks := B.notSynchronized
  have hK := hct.1
  have hN := hct.2.1
  have hS : va_S (AX 5 h s.heap.size) s.heap s.heap [] := va_S.rf
  have hl := lv_entry ([.ref (h 0), .int a1, .int a2, .int a3, .int a4]) (n := 6) (Nat.le_of_ble_eq_true rfl)
  rw [lg_entry_eq]
  generalize (lg_sl ([.ref (h 0), .int a1, .int a2, .int a3, .int a4]) ++ List.replicate (6 - (lg_sl ([.ref (h 0), .int a1, .int a2, .int a3, .int a4])).length) Slot.unset).toArray = ls at hl ⊢
  have hl : lv_has ls 6 [(0, .ref (h 0)), (1, .int a1), (2, .int a2), (3, .int a3), (4, .int a4)] := hl
  refine lv_iload_n hx hb dX2_setFlags_0 rfl (lv_at hl 2 rfl) ?_
  refine wj (α := Int32) (D := (dC, dI)) (cl := vwCl) (A := AX 5 h s.heap.size) (H0 := s.heap) (if a2 = 0 then 0 else 1) (fun v2 => wsC h k σ) (fun v2 => [(0, .ref (h 0)), (1, .int a1), (2, .int a2), (3, .int a3), (4, .int a4)]) 6 (fun v2 ls => F0 m 9 ls [.int v2]) ?_ ?_
  · intro v2 ls H locs ev2 hl hP hD hS
    try dsimp only at hl hP hD ⊢
    refine lv_istore (lv' := [(5, .int v2), (0, .ref (h 0)), (1, .int a1), (2, .int a2), (3, .int a3), (4, .int a4)]) hx hb dX2_setFlags_9 hl (by decide) rfl (fun ls hl => ?_)
    refine lv_iload_n hx hb dX2_setFlags_11 rfl (lv_at hl 2 rfl) ?_
    refine wj (α := Int32) (D := (dC, dI)) (cl := vwCl) (A := AX 5 h s.heap.size) (H0 := s.heap) (if a1 = 0 then let x5 : Int32 := (v2 ||| (2 : Int32)); x5 else v2) (fun v4 => wsC h k σ) (fun v4 => [(5, .int v4), (0, .ref (h 0)), (1, .int a1), (2, .int a2), (3, .int a3), (4, .int a4)]) 6 (fun v4 ls => F0 m 21 ls []) ?_ ?_
    · intro v4 ls H locs ev4 hl hP hD hS
      try dsimp only at hl hP hD ⊢
      refine lv_iload_n hx hb dX2_setFlags_21 rfl (lv_at hl 2 rfl) ?_
      refine lv_iload hx hb dX2_setFlags_22 (lv_at hl 5 rfl) ?_
      refine callC_ip (va_runS (As := [.int a1, .int a4]) (rest := []) ⟨hx, hb, hml, hown, hts⟩ (c_X2_isHighestSet l dC dI h k g _ σ a1 a4) (va_cwS 2 hts gX2_setFlags_X2_isHighestSet rfl rfl rfl (by decide +kernel) ⟨Nat.le_of_ble_eq_true rfl, Nat.le_of_ble_eq_true rfl⟩) (preC_S hct hP hD hS) rfl rfl hl.1 rfl (lv_room (Nat.le_of_ble_eq_true rfl)) dX2_setFlags_24 ⟨Nat.le_of_ble_eq_true rfl, Nat.le_of_ble_eq_true rfl⟩) hS (fun x5 H locs ex5 hP hD hS => ?_)
      refine wj (α := Int32) (D := (dC, dI)) (cl := vwCl) (A := AX 5 h s.heap.size) (H0 := s.heap) (if x5 = 0 then v4 else let x8 : Int32 := (v4 ||| (4 : Int32)); x8) (fun v7 => wsC h k σ) (fun v7 => [(5, .int v7), (0, .ref (h 0)), (1, .int a1), (2, .int a2), (3, .int a3), (4, .int a4)]) 6 (fun v7 ls => F0 m 36 ls []) ?_ ?_
      · intro v7 ls H locs ev7 hl hP hD hS
        try dsimp only at hl hP hD ⊢
        refine lv_iload_n hx hb dX2_setFlags_36 rfl (lv_at hl 4 rfl) ?_
        refine wj (α := Int32) (D := (dC, dI)) (cl := vwCl) (A := AX 5 h s.heap.size) (H0 := s.heap) (if a3 = 0 then v7 else let x10 : Int32 := (v7 ||| (256 : Int32)); x10) (fun v9 => wsC h k σ) (fun v9 => [(5, .int v9), (0, .ref (h 0)), (1, .int a1), (2, .int a2), (3, .int a3), (4, .int a4)]) 6 (fun v9 ls => F0 m 48 ls []) ?_ ?_
        · intro v9 ls H locs ev9 hl hP hD hS
          try dsimp only at hl hP hD ⊢
          refine lv_aload_n hx hb dX2_setFlags_48 rfl (lv_at hl 1 rfl) ?_
          refine lv_iconst (v := 2) hx hb dX2_setFlags_49 (by decide) ?_
          refine lv_aload_n hx hb dX2_setFlags_50 rfl (lv_at hl 1 rfl) ?_
          refine va_get (D := (dC, dI)) (ci := 2) (v := .ref (h 2)) (C := RX2) (T := TX2) (N := 4) hx hb hts (fun _ h9 => List.mem_cons_of_mem _ (List.mem_append_right _ h9)) hown hK hP 0 rfl rfl 1 (by decide) (hts (.fieldLink RX2 16 "LowPowerCpu" "registers" "[I") (by decide +kernel)) (fun _ h9 => h9) rfl dX2_setFlags_51 ?_
          refine lv_iconst (v := 2) hx hb dX2_setFlags_54 (by decide) ?_
          refine va_iald hx hb hK hP 2 0 rfl rfl (in_c (by decide)) dX2_setFlags_55 ?_
          refine lv_sipush (v := (-264)) hx hb dX2_setFlags_56 (by decide) ?_
          refine lv_iand hx hb dX2_setFlags_59 ?_
          refine lv_iload hx hb dX2_setFlags_60 (lv_at hl 0 rfl) ?_
          refine lv_ior hx hb dX2_setFlags_62 ?_
          refine callC_v (va_runV (As := [.int 2, .int (((σ.1 (2 : Int32).toNatClampNeg) &&& ((-264) : Int32)) ||| v9)]) (rest := []) ⟨hx, hb, hml, hown, hts⟩ (c_X2_setRegister l dC dI h k g _ σ 2 (((σ.1 (2 : Int32).toNatClampNeg) &&& ((-264) : Int32)) ||| v9)) (cwV 2 hts gX2_setFlags_X2_setRegister rfl rfl rfl (by decide +kernel) ⟨Nat.le_of_ble_eq_true rfl, Nat.le_of_ble_eq_true rfl⟩) (preC_V (ci := 2) (q0 := 0) hct hP hD hS rfl rfl) rfl rfl hl.1 rfl (lv_room (Nat.le_of_ble_eq_true rfl)) dX2_setFlags_63 ⟨Nat.le_of_ble_eq_true rfl, Nat.le_of_ble_eq_true rfl⟩) hS (fun σ10 H locs eσ10 hP hD hS => ?_)
          exact retC_v hx hb hr hlocks (by subst eσ10; subst ev9; subst ev7; subst ex5; subst ev4; subst ev2; exact rfl) hP hD hS dX2_setFlags_66
        · intro J
          refine lv_if_eq (tgt := 48) hx hb dX2_setFlags_37 (by decide) (fun c8 => ?_) (fun c8 => ?_)
          · exact J (v7) ls _ _ (by exact (if_pos c8).symm) (lv_sub hl [0, 1, 2, 3, 4, 5] rfl) hP hD hS
          · refine lv_iload hx hb dX2_setFlags_40 (lv_at hl 0 rfl) ?_
            refine lv_sipush (v := 256) hx hb dX2_setFlags_42 (by decide) ?_
            refine lv_ior hx hb dX2_setFlags_45 ?_
            refine lv_topi (fun x11 ex11 => ?_)
            refine lv_istore (lv' := [(5, .int x11), (0, .ref (h 0)), (1, .int a1), (2, .int a2), (3, .int a3), (4, .int a4)]) hx hb dX2_setFlags_46 hl (by decide) rfl (fun ls hl => ?_)
            exact J (x11) ls _ _ (by subst ex11; exact (if_neg c8).symm) (lv_sub hl [0, 1, 2, 3, 4, 5] rfl) hP hD hS
      · intro J
        refine lv_if_eq (tgt := 36) hx hb dX2_setFlags_27 (by decide) (fun c6 => ?_) (fun c6 => ?_)
        · exact J (v4) ls _ _ (by exact (if_pos c6).symm) (lv_sub hl [0, 1, 2, 3, 4, 5] rfl) hP hD hS
        · refine lv_iload hx hb dX2_setFlags_30 (lv_at hl 0 rfl) ?_
          refine lv_iconst (v := 4) hx hb dX2_setFlags_32 (by decide) ?_
          refine lv_ior hx hb dX2_setFlags_33 ?_
          refine lv_topi (fun x12 ex12 => ?_)
          refine lv_istore (lv' := [(5, .int x12), (0, .ref (h 0)), (1, .int a1), (2, .int a2), (3, .int a3), (4, .int a4)]) hx hb dX2_setFlags_34 hl (by decide) rfl (fun ls hl => ?_)
          exact J (x12) ls _ _ (by subst ex12; exact (if_neg c6).symm) (lv_sub hl [0, 1, 2, 3, 4, 5] rfl) hP hD hS
    · intro J
      refine lv_if_ne (tgt := 21) hx hb dX2_setFlags_12 (by decide) (fun c3 => ?_) (fun c3 => ?_)
      · exact J (v2) ls _ _ (by exact (if_neg c3).symm) (lv_sub hl [0, 1, 2, 3, 4, 5] rfl) hP hD hS
      · refine lv_iload hx hb dX2_setFlags_15 (lv_at hl 0 rfl) ?_
        refine lv_iconst (v := 2) hx hb dX2_setFlags_17 (by decide) ?_
        refine lv_ior hx hb dX2_setFlags_18 ?_
        refine lv_topi (fun x13 ex13 => ?_)
        refine lv_istore (lv' := [(5, .int x13), (0, .ref (h 0)), (1, .int a1), (2, .int a2), (3, .int a3), (4, .int a4)]) hx hb dX2_setFlags_19 hl (by decide) rfl (fun ls hl => ?_)
        exact J (x13) ls _ _ (by subst ex13; exact (if_pos c3).symm) (lv_sub hl [0, 1, 2, 3, 4, 5] rfl) hP hD hS
  · intro J
    refine lv_if_eq (tgt := 8) hx hb dX2_setFlags_1 (by decide) (fun c1 => ?_) (fun c1 => ?_)
    · refine lv_iconst (v := 0) hx hb dX2_setFlags_8 (by decide) ?_
      exact J (0) ls _ _ (by exact (if_pos c1).symm) (lv_sub hl [0, 1, 2, 3, 4] rfl) hP hD hS
    · refine lv_iconst (v := 1) hx hb dX2_setFlags_4 (by decide) ?_
      refine lv_goto (tgt := 9) hx hb dX2_setFlags_5 (by decide) ?_
      exact J (1) ls _ _ (by exact (if_neg c1).symm) (lv_sub hl [0, 1, 2, 3, 4] rfl) hP hD hS

set_option maxHeartbeats 4000000 in
set_option maxRecDepth 100000 in
theorem c_X2_logical (l : Launch) (dC : Nat → ClassId) (dI : Nat → Nat → Nat) (h : Nat → Nat) (k : Nat → ClassId) (g : Nat → Nat) (sz : Nat) (σ : StC) (a1 : Int32) (a2 : Int32) (a3 : Int32) : Met l yX2_logical wsX2_logical ({ frames := 2, cells := 0, slots := 0, locals := 47 }) (PcC (dC, dI) h k g [.ref (h 0), .int a1, .int a2, .int a3] sz σ) (va_Qi (fun r u => (r, u) = (f_X2_logical σ a1 a2 a3)) (BC (dC, dI) h k (AX 5 h sz)) (AX 5 h sz)) 0 0 (AX 5 h sz) := by
  refine Met.ofW (cc := cX2_logical) (maxL := 4) (ret := (some .int)) (by decide) rfl ?_
  intro p e s m args below meth c s₁ B hml hv
  obtain ⟨rfl, rfl, hP, hct, hD⟩ := hv
  have hx := B.exec
  have hb := B.bytes
  have hr := B.returns
  have hts := atoms_spec (ws := wsX2_logical) B.pre
  have hown : s.vm.findClass RX2 = some m.cls := findClass_of_methodNamed B.named
  have hlocks := B.notSynchronized
  have hK := hct.1
  have hN := hct.2.1
  have hS : va_S (AX 5 h s.heap.size) s.heap s.heap [] := va_S.rf
  have hl := lv_entry ([.ref (h 0), .int a1, .int a2, .int a3]) (n := 4) (Nat.le_of_ble_eq_true rfl)
  rw [lg_entry_eq]
  generalize (lg_sl ([.ref (h 0), .int a1, .int a2, .int a3]) ++ List.replicate (4 - (lg_sl ([.ref (h 0), .int a1, .int a2, .int a3])).length) Slot.unset).toArray = ls at hl ⊢
  have hl : lv_has ls 4 [(0, .ref (h 0)), (1, .int a1), (2, .int a2), (3, .int a3)] := hl
  refine lv_aload_n hx hb dX2_logical_0 rfl (lv_at hl 0 rfl) ?_
  refine lv_iload_n hx hb dX2_logical_1 rfl (lv_at hl 1 rfl) ?_
  refine lv_iload_n hx hb dX2_logical_2 rfl (lv_at hl 1 rfl) ?_
  refine wj (α := Int32) (D := (dC, dI)) (cl := vwCl) (A := AX 5 h s.heap.size) (H0 := s.heap) (if a1 = 0 then 0 else 1) (fun v2 => wsC h k σ) (fun v2 => [(0, .ref (h 0)), (1, .int a1), (2, .int a2), (3, .int a3)]) 4 (fun v2 ls => F0 m 11 ls [.int v2, .int a1, .ref (h 0)]) ?_ ?_
  · intro v2 ls H locs ev2 hl hP hD hS
    try dsimp only at hl hP hD ⊢
    refine lv_iload_n hx hb dX2_logical_11 rfl (lv_at hl 2 rfl) ?_
    refine lv_iload_n hx hb dX2_logical_12 rfl (lv_at hl 3 rfl) ?_
    refine callC_v (va_runV (As := [.int a1, .int v2, .int a2, .int a3]) (rest := []) ⟨hx, hb, hml, hown, hts⟩ (c_X2_setFlags l dC dI h k g _ σ a1 v2 a2 a3) (cwV 4 hts gX2_logical_X2_setFlags rfl rfl rfl (by decide +kernel) ⟨Nat.le_of_ble_eq_true rfl, Nat.le_of_ble_eq_true rfl⟩) (preC_V (ci := 2) (q0 := 0) hct hP hD hS rfl rfl) rfl rfl hl.1 rfl (lv_room (Nat.le_of_ble_eq_true rfl)) dX2_logical_13 ⟨Nat.le_of_ble_eq_true rfl, Nat.le_of_ble_eq_true rfl⟩) hS (fun σ3 H locs eσ3 hP hD hS => ?_)
    refine lv_iload_n hx hb dX2_logical_16 rfl (lv_at hl 1 rfl) ?_
    exact retC_i hx hb hr hlocks (by subst eσ3; subst ev2; exact rfl) hP hD hS dX2_logical_17
  · intro J
    refine lv_if_eq (tgt := 10) hx hb dX2_logical_3 (by decide) (fun c1 => ?_) (fun c1 => ?_)
    · refine lv_iconst (v := 0) hx hb dX2_logical_10 (by decide) ?_
      exact J (0) ls _ _ (by exact (if_pos c1).symm) (lv_sub hl [0, 1, 2, 3] rfl) hP hD hS
    · refine lv_iconst (v := 1) hx hb dX2_logical_6 (by decide) ?_
      refine lv_goto (tgt := 11) hx hb dX2_logical_7 (by decide) ?_
      exact J (1) ls _ _ (by exact (if_neg c1).symm) (lv_sub hl [0, 1, 2, 3] rfl) hP hD hS

set_option maxHeartbeats 4000000 in
set_option maxRecDepth 100000 in
theorem c_X2_shifted (l : Launch) (dC : Nat → ClassId) (dI : Nat → Nat → Nat) (h : Nat → Nat) (k : Nat → ClassId) (g : Nat → Nat) (sz : Nat) (σ : StC) (a1 : Int32) (a2 : Int32) (a3 : Int32) : Met l yX2_shifted wsX2_shifted ({ frames := 2, cells := 0, slots := 0, locals := 47 }) (PcC (dC, dI) h k g [.ref (h 0), .int a1, .int a2, .int a3] sz σ) (va_Qi (fun r u => (r, u) = (f_X2_shifted σ a1 a2 a3)) (BC (dC, dI) h k (AX 5 h sz)) (AX 5 h sz)) 0 0 (AX 5 h sz) := by
  refine Met.ofW (cc := cX2_shifted) (maxL := 5) (ret := (some .int)) (by decide) rfl ?_
  intro p e s m args below meth c s₁ B hml hv
  obtain ⟨rfl, rfl, hP, hct, hD⟩ := hv
  have hx := B.exec
  have hb := B.bytes
  have hr := B.returns
  have hts := atoms_spec (ws := wsX2_shifted) B.pre
  have hown : s.vm.findClass RX2 = some m.cls := findClass_of_methodNamed B.named
  have hlocks := B.notSynchronized
  have hK := hct.1
  have hN := hct.2.1
  have hS : va_S (AX 5 h s.heap.size) s.heap s.heap [] := va_S.rf
  have hl := lv_entry ([.ref (h 0), .int a1, .int a2, .int a3]) (n := 5) (Nat.le_of_ble_eq_true rfl)
  rw [lg_entry_eq]
  generalize (lg_sl ([.ref (h 0), .int a1, .int a2, .int a3]) ++ List.replicate (5 - (lg_sl ([.ref (h 0), .int a1, .int a2, .int a3])).length) Slot.unset).toArray = ls at hl ⊢
  have hl : lv_has ls 5 [(0, .ref (h 0)), (1, .int a1), (2, .int a2), (3, .int a3)] := hl
  refine lv_iload_n hx hb dX2_shifted_0 rfl (lv_at hl 1 rfl) ?_
  refine lv_iconst (v := 1) hx hb dX2_shifted_1 (by decide) ?_
  refine lv_ishr hx hb dX2_shifted_2 ?_
  refine lv_iload_n hx hb dX2_shifted_3 rfl (lv_at hl 2 rfl) ?_
  refine lv_ior hx hb dX2_shifted_4 ?_
  refine lv_topi (fun x1 ex1 => ?_)
  refine lv_istore (lv' := [(4, .int x1), (0, .ref (h 0)), (1, .int a1), (2, .int a2), (3, .int a3)]) hx hb dX2_shifted_5 hl (by decide) rfl (fun ls hl => ?_)
  refine lv_aload_n hx hb dX2_shifted_7 rfl (lv_at hl 1 rfl) ?_
  refine lv_iload hx hb dX2_shifted_8 (lv_at hl 0 rfl) ?_
  refine lv_iload_n hx hb dX2_shifted_10 rfl (lv_at hl 2 rfl) ?_
  refine lv_iconst (v := 1) hx hb dX2_shifted_11 (by decide) ?_
  refine lv_iand hx hb dX2_shifted_12 ?_
  refine wj (α := Int32) (D := (dC, dI)) (cl := vwCl) (A := AX 5 h s.heap.size) (H0 := s.heap) (if (a1 &&& (1 : Int32)) = 0 then 0 else 1) (fun v3 => wsC h k σ) (fun v3 => [(4, .int x1), (0, .ref (h 0)), (1, .int a1), (2, .int a2), (3, .int a3)]) 5 (fun v3 ls => F0 m 21 ls [.int v3, .int x1, .ref (h 0)]) ?_ ?_
  · intro v3 ls H locs ev3 hl hP hD hS
    try dsimp only at hl hP hD ⊢
    refine lv_iconst (v := 0) hx hb dX2_shifted_21 (by decide) ?_
    refine lv_iload_n hx hb dX2_shifted_22 rfl (lv_at hl 4 rfl) ?_
    refine callC_v (va_runV (As := [.int x1, .int v3, .int 0, .int a3]) (rest := []) ⟨hx, hb, hml, hown, hts⟩ (c_X2_setFlags l dC dI h k g _ σ x1 v3 0 a3) (cwV 4 hts gX2_shifted_X2_setFlags rfl rfl rfl (by decide +kernel) ⟨Nat.le_of_ble_eq_true rfl, Nat.le_of_ble_eq_true rfl⟩) (preC_V (ci := 2) (q0 := 0) hct hP hD hS rfl rfl) rfl rfl hl.1 rfl (lv_room (Nat.le_of_ble_eq_true rfl)) dX2_shifted_23 ⟨Nat.le_of_ble_eq_true rfl, Nat.le_of_ble_eq_true rfl⟩) hS (fun σ4 H locs eσ4 hP hD hS => ?_)
    refine lv_iload hx hb dX2_shifted_26 (lv_at hl 0 rfl) ?_
    exact retC_i hx hb hr hlocks (by subst eσ4; subst ev3; subst ex1; exact rfl) hP hD hS dX2_shifted_28
  · intro J
    refine lv_if_eq (tgt := 20) hx hb dX2_shifted_13 (by decide) (fun c2 => ?_) (fun c2 => ?_)
    · refine lv_iconst (v := 0) hx hb dX2_shifted_20 (by decide) ?_
      exact J (0) ls _ _ (by exact (if_pos c2).symm) (lv_sub hl [0, 1, 2, 3, 4] rfl) hP hD hS
    · refine lv_iconst (v := 1) hx hb dX2_shifted_16 (by decide) ?_
      refine lv_goto (tgt := 21) hx hb dX2_shifted_17 (by decide) ?_
      exact J (1) ls _ _ (by exact (if_neg c2).symm) (lv_sub hl [0, 1, 2, 3, 4] rfl) hP hD hS

set_option maxHeartbeats 4000000 in
set_option maxRecDepth 100000 in
theorem c_X2_add (l : Launch) (dC : Nat → ClassId) (dI : Nat → Nat → Nat) (h : Nat → Nat) (k : Nat → ClassId) (g : Nat → Nat) (sz : Nat) (σ : StC) (a1 : Int32) (a2 : Int32) (a3 : Int32) (a4 : Int32) : Met l yX2_add wsX2_add ({ frames := 2, cells := 0, slots := 0, locals := 47 }) (PcC (dC, dI) h k g [.ref (h 0), .int a1, .int a2, .int a3, .int a4] sz σ) (va_Qi (fun r u => (r, u) = (f_X2_add σ a1 a2 a3 a4)) (BC (dC, dI) h k (AX 5 h sz)) (AX 5 h sz)) 0 0 (AX 5 h sz) := by
  refine Met.ofW (cc := cX2_add) (maxL := 8) (ret := (some .int)) (by decide) rfl ?_
  intro p e s m args below meth c s₁ B hml hv
  obtain ⟨rfl, rfl, hP, hct, hD⟩ := hv
  have hx := B.exec
  have hb := B.bytes
  have hr := B.returns
  have hts := atoms_spec (ws := wsX2_add) B.pre
  have hown : s.vm.findClass RX2 = some m.cls := findClass_of_methodNamed B.named
  have hlocks := B.notSynchronized
  have hK := hct.1
  have hN := hct.2.1
  have hS : va_S (AX 5 h s.heap.size) s.heap s.heap [] := va_S.rf
  have hl := lv_entry ([.ref (h 0), .int a1, .int a2, .int a3, .int a4]) (n := 8) (Nat.le_of_ble_eq_true rfl)
  rw [lg_entry_eq]
  generalize (lg_sl ([.ref (h 0), .int a1, .int a2, .int a3, .int a4]) ++ List.replicate (8 - (lg_sl ([.ref (h 0), .int a1, .int a2, .int a3, .int a4])).length) Slot.unset).toArray = ls at hl ⊢
  have hl : lv_has ls 8 [(0, .ref (h 0)), (1, .int a1), (2, .int a2), (3, .int a3), (4, .int a4)] := hl
  refine lv_iload_n hx hb dX2_add_0 rfl (lv_at hl 1 rfl) ?_
  refine lv_iload_n hx hb dX2_add_1 rfl (lv_at hl 2 rfl) ?_
  refine lv_iadd hx hb dX2_add_2 ?_
  refine lv_iload_n hx hb dX2_add_3 rfl (lv_at hl 3 rfl) ?_
  refine lv_iadd hx hb dX2_add_4 ?_
  refine lv_topi (fun x1 ex1 => ?_)
  refine lv_istore (lv' := [(5, .int x1), (0, .ref (h 0)), (1, .int a1), (2, .int a2), (3, .int a3), (4, .int a4)]) hx hb dX2_add_5 hl (by decide) rfl (fun ls hl => ?_)
  refine lv_iload hx hb dX2_add_7 (lv_at hl 0 rfl) ?_
  refine lv_iload hx hb dX2_add_9 (lv_at hl 5 rfl) ?_
  refine lv_iand hx hb dX2_add_11 ?_
  refine lv_topi (fun x2 ex2 => ?_)
  refine lv_istore (lv' := [(6, .int x2), (5, .int x1), (0, .ref (h 0)), (1, .int a1), (2, .int a2), (3, .int a3), (4, .int a4)]) hx hb dX2_add_12 hl (by decide) rfl (fun ls hl => ?_)
  refine lv_iload_n hx hb dX2_add_14 rfl (lv_at hl 3 rfl) ?_
  refine lv_iload_n hx hb dX2_add_15 rfl (lv_at hl 4 rfl) ?_
  refine lv_ixor hx hb dX2_add_16 ?_
  refine lv_iconst (v := (-1)) hx hb dX2_add_17 (by decide) ?_
  refine lv_ixor hx hb dX2_add_18 ?_
  refine lv_iload_n hx hb dX2_add_19 rfl (lv_at hl 3 rfl) ?_
  refine lv_iload hx hb dX2_add_20 (lv_at hl 0 rfl) ?_
  refine lv_ixor hx hb dX2_add_22 ?_
  refine lv_iand hx hb dX2_add_23 ?_
  refine lv_iload hx hb dX2_add_24 (lv_at hl 6 rfl) ?_
  refine callC_ip (va_runS (As := [.int (((a1 ^^^ a2) ^^^ ((-1) : Int32)) &&& (a1 ^^^ x2)), .int a4]) (rest := []) ⟨hx, hb, hml, hown, hts⟩ (c_X2_isHighestSet l dC dI h k g _ σ (((a1 ^^^ a2) ^^^ ((-1) : Int32)) &&& (a1 ^^^ x2)) a4) (va_cwS 2 hts gX2_add_X2_isHighestSet rfl rfl rfl (by decide +kernel) ⟨Nat.le_of_ble_eq_true rfl, Nat.le_of_ble_eq_true rfl⟩) (preC_S hct hP hD hS) rfl rfl hl.1 rfl (lv_room (Nat.le_of_ble_eq_true rfl)) dX2_add_26 ⟨Nat.le_of_ble_eq_true rfl, Nat.le_of_ble_eq_true rfl⟩) hS (fun x3 H locs ex3 hP hD hS => ?_)
  refine lv_istore (lv' := [(7, .int x3), (6, .int x2), (5, .int x1), (0, .ref (h 0)), (1, .int a1), (2, .int a2), (3, .int a3), (4, .int a4)]) hx hb dX2_add_29 hl (by decide) rfl (fun ls hl => ?_)
  refine lv_aload_n hx hb dX2_add_31 rfl (lv_at hl 3 rfl) ?_
  refine lv_iload hx hb dX2_add_32 (lv_at hl 1 rfl) ?_
  refine lv_iload hx hb dX2_add_34 (lv_at hl 2 rfl) ?_
  refine lv_iload hx hb dX2_add_36 (lv_at hl 7 rfl) ?_
  refine wj (α := Int32) (D := (dC, dI)) (cl := vwCl) (A := AX 5 h s.heap.size) (H0 := s.heap) (if x1 ≤ a4 then 0 else 1) (fun v5 => wsC h k σ) (fun v5 => [(7, .int x3), (6, .int x2), (5, .int x1), (0, .ref (h 0)), (1, .int a1), (2, .int a2), (3, .int a3), (4, .int a4)]) 8 (fun v5 ls => F0 m 46 ls [.int v5, .int x2, .ref (h 0)]) ?_ ?_
  · intro v5 ls H locs ev5 hl hP hD hS
    try dsimp only at hl hP hD ⊢
    refine lv_iload hx hb dX2_add_46 (lv_at hl 0 rfl) ?_
    refine lv_iload hx hb dX2_add_48 (lv_at hl 7 rfl) ?_
    refine callC_v (va_runV (As := [.int x2, .int v5, .int x3, .int a4]) (rest := []) ⟨hx, hb, hml, hown, hts⟩ (c_X2_setFlags l dC dI h k g _ σ x2 v5 x3 a4) (cwV 4 hts gX2_add_X2_setFlags rfl rfl rfl (by decide +kernel) ⟨Nat.le_of_ble_eq_true rfl, Nat.le_of_ble_eq_true rfl⟩) (preC_V (ci := 2) (q0 := 0) hct hP hD hS rfl rfl) rfl rfl hl.1 rfl (lv_room (Nat.le_of_ble_eq_true rfl)) dX2_add_50 ⟨Nat.le_of_ble_eq_true rfl, Nat.le_of_ble_eq_true rfl⟩) hS (fun σ6 H locs eσ6 hP hD hS => ?_)
    refine lv_iload hx hb dX2_add_53 (lv_at hl 1 rfl) ?_
    exact retC_i hx hb hr hlocks (by subst eσ6; subst ev5; subst ex3; subst ex2; subst ex1; exact rfl) hP hD hS dX2_add_55
  · intro J
    refine lv_icmp_le (tgt := 45) hx hb dX2_add_38 (by decide) (fun c4 => ?_) (fun c4 => ?_)
    · refine lv_iconst (v := 0) hx hb dX2_add_45 (by decide) ?_
      exact J (0) ls _ _ (by exact (if_pos c4).symm) (lv_sub hl [0, 1, 2, 3, 4, 5, 6, 7] rfl) hP hD hS
    · refine lv_iconst (v := 1) hx hb dX2_add_41 (by decide) ?_
      refine lv_goto (tgt := 46) hx hb dX2_add_42 (by decide) ?_
      exact J (1) ls _ _ (by exact (if_neg c4).symm) (lv_sub hl [0, 1, 2, 3, 4, 5, 6, 7] rfl) hP hD hS
