set_option maxHeartbeats 4000000 in
set_option maxRecDepth 100000 in
theorem c_X3_push (l : Launch) (dC : Nat → ClassId) (dI : Nat → Nat → Nat) (h : Nat → Nat) (k : Nat → ClassId) (sz : Nat) (σ : StR) (a1 : Int32) (hI : okR σ) : Met l yX3_push wsX3_push ({ frames := 4, cells := 0, slots := 0, locals := 96 }) (PcR (dC, dI) h k [.ref (h 0), .int a1] sz σ) (va_Qv (fun u => u = f_X3_push σ a1) (BR (dC, dI) h k (AX 4 h sz)) (AX 4 h sz)) 0 0 (AX 4 h sz) := by
  refine Met.ofW (cc := cX3_push) (maxL := 2) (ret := none) (by decide) rfl ?_
  intro p e s m args below meth c s₁ B hml hv
  obtain ⟨rfl, rfl, hP, hct, hD⟩ := hv
  have hx := B.exec
  have hb := B.bytes
  have hr := B.returns
  have hts := atoms_spec (ws := wsX3_push) B.pre
  have hown : s.vm.findClass RX3 = some m.cls := findClass_of_methodNamed B.named
  have hlocks := B.notSynchronized
  have hK := hct.1
  have hS : va_S (AX 4 h s.heap.size) s.heap s.heap [] := va_S.rf
  have hl := lv_entry ([.ref (h 0), .int a1]) (n := 2) (Nat.le_of_ble_eq_true rfl)
  rw [lg_entry_eq]
  generalize (lg_sl ([.ref (h 0), .int a1]) ++ List.replicate (2 - (lg_sl ([.ref (h 0), .int a1])).length) Slot.unset).toArray = ls at hl ⊢
  have hl : lv_has ls 2 [(0, .ref (h 0)), (1, .int a1)] := hl
  refine lv_aload_n hx hb dX3_push_0 rfl (lv_at hl 0 rfl) ?_
  refine lv_iconst (v := 1) hx hb dX3_push_1 (by decide) ?_
  refine lv_aload_n hx hb dX3_push_2 rfl (lv_at hl 0 rfl) ?_
  refine va_get (D := (dC, dI)) (ci := 3) (v := .ref (h 2)) (C := RX3) (T := TX3) (N := 9) hx hb hts (fun _ h9 => List.mem_cons_of_mem _ (List.mem_append_right _ h9)) hown hK hP 0 rfl rfl 1 (by decide) (hts (.fieldLink RX3 14 "LowPowerCpuModel" "\x72" "[I") (by decide +kernel)) (fun _ h9 => h9) rfl dX3_push_3 ?_
  refine lv_iconst (v := 1) hx hb dX3_push_6 (by decide) ?_
  refine va_iald hx hb hK hP 2 0 rfl rfl (in_c (by decide)) dX3_push_7 ?_
  refine lv_iconst (v := 2) hx hb dX3_push_8 (by decide) ?_
  refine lv_isub hx hb dX3_push_9 ?_
  refine callR_v (va_runV (As := [.int 1, .int ((σ.2.1 (1 : Int32).toNatClampNeg) - (2 : Int32))]) (rest := []) ⟨hx, hb, hml, hown, hts⟩ (c_X3_setRegister l dC dI h k _ σ 1 ((σ.2.1 (1 : Int32).toNatClampNeg) - (2 : Int32)) (in_c (by decide))) (cwV 2 hts gX3_push_X3_setRegister rfl rfl rfl (by decide +kernel) ⟨Nat.le_of_ble_eq_true rfl, Nat.le_of_ble_eq_true rfl⟩) (preR_V (ci := 3) (q0 := 0) hct hP hD hS rfl rfl) rfl rfl hl.1 rfl (lv_room (Nat.le_of_ble_eq_true rfl)) dX3_push_10 ⟨Nat.le_of_ble_eq_true rfl, Nat.le_of_ble_eq_true rfl⟩) hS (fun σ1 H locs eσ1 hP hD hS => ?_)
  have hIσ1 : okR σ1 := by rw [eσ1]; (repeat (first | with_reducible assumption | with_reducible exact okR_of hI rfl rfl rfl | with_reducible apply ok_X3_spend | with_reducible apply ok_X3_setRegister | with_reducible apply ok_X3_write | with_reducible apply ok_X3_number | with_reducible apply ok_X3_memory | with_reducible apply ok_X3_taken | with_reducible apply ok_X3_indexed | with_reducible apply ok_X3_joined | with_reducible apply ok_X3_push | with_reducible apply ok_X3_popped | with_reducible apply ok_X3_shifted | with_reducible apply ok_X3_register | with_reducible apply ok_X3_source | with_reducible apply in15 | (subst_vars; with_reducible apply in15)))
  refine lv_aload_n hx hb dX3_push_13 rfl (lv_at hl 0 rfl) ?_
  refine lv_ldc (v := 65536) hx hb hown (hts (.constant RX3 73 65536) (by decide +kernel)) dX3_push_14 ?_
  refine lv_aload_n hx hb dX3_push_16 rfl (lv_at hl 0 rfl) ?_
  refine va_get (D := (dC, dI)) (ci := 3) (v := .ref (h 2)) (C := RX3) (T := TX3) (N := 9) hx hb hts (fun _ h9 => List.mem_cons_of_mem _ (List.mem_append_right _ h9)) hown hK hP 0 rfl rfl 1 (by decide) (hts (.fieldLink RX3 14 "LowPowerCpuModel" "\x72" "[I") (by decide +kernel)) (fun _ h9 => h9) rfl dX3_push_17 ?_
  refine lv_iconst (v := 1) hx hb dX3_push_20 (by decide) ?_
  refine va_iald hx hb hK hP 2 0 rfl rfl (in_c (by decide)) dX3_push_21 ?_
  refine lv_iadd hx hb dX3_push_22 ?_
  refine lv_iload_n hx hb dX3_push_23 rfl (lv_at hl 1 rfl) ?_
  refine callR_v (va_runV (As := [.int ((65536 : Int32) + (σ1.2.1 (1 : Int32).toNatClampNeg)), .int a1]) (rest := []) ⟨hx, hb, hml, hown, hts⟩ (c_X3_write l dC dI h k _ σ1 ((65536 : Int32) + (σ1.2.1 (1 : Int32).toNatClampNeg)) a1 (at_in (hIσ1.1 _ (by decide)))) (cwV 2 hts gX3_push_X3_write rfl rfl rfl (by decide +kernel) ⟨Nat.le_of_ble_eq_true rfl, Nat.le_of_ble_eq_true rfl⟩) (preR_V (ci := 3) (q0 := 0) hct hP hD hS rfl rfl) rfl rfl hl.1 rfl (lv_room (Nat.le_of_ble_eq_true rfl)) dX3_push_24 ⟨Nat.le_of_ble_eq_true rfl, Nat.le_of_ble_eq_true rfl⟩) hS (fun σ2 H locs eσ2 hP hD hS => ?_)
  have hIσ2 : okR σ2 := by rw [eσ2]; (repeat (first | with_reducible assumption | with_reducible exact okR_of hI rfl rfl rfl | with_reducible apply ok_X3_spend | with_reducible apply ok_X3_setRegister | with_reducible apply ok_X3_write | with_reducible apply ok_X3_number | with_reducible apply ok_X3_memory | with_reducible apply ok_X3_taken | with_reducible apply ok_X3_indexed | with_reducible apply ok_X3_joined | with_reducible apply ok_X3_push | with_reducible apply ok_X3_popped | with_reducible apply ok_X3_shifted | with_reducible apply ok_X3_register | with_reducible apply ok_X3_source | with_reducible apply in15 | (subst_vars; with_reducible apply in15)))
  exact retR_v hx hb hr hlocks (by subst eσ2; subst eσ1; exact rfl) hP hD hS dX3_push_27

set_option maxHeartbeats 4000000 in
set_option maxRecDepth 100000 in
theorem c_X3_popped (l : Launch) (dC : Nat → ClassId) (dI : Nat → Nat → Nat) (h : Nat → Nat) (k : Nat → ClassId) (sz : Nat) (σ : StR) (hI : okR σ) : Met l yX3_popped wsX3_popped ({ frames := 2, cells := 0, slots := 0, locals := 41 }) (PcR (dC, dI) h k [.ref (h 0)] sz σ) (va_Qi (fun r u => (r, u) = (f_X3_popped σ)) (BR (dC, dI) h k (AX 4 h sz)) (AX 4 h sz)) 0 0 (AX 4 h sz) := by
  refine Met.ofW (cc := cX3_popped) (maxL := 2) (ret := (some .int)) (by decide) rfl ?_
  intro p e s m args below meth c s₁ B hml hv
  obtain ⟨rfl, rfl, hP, hct, hD⟩ := hv
  have hx := B.exec
  have hb := B.bytes
  have hr := B.returns
  have hts := atoms_spec (ws := wsX3_popped) B.pre
  have hown : s.vm.findClass RX3 = some m.cls := findClass_of_methodNamed B.named
  have hlocks := B.notSynchronized
  have hK := hct.1
  have hS : va_S (AX 4 h s.heap.size) s.heap s.heap [] := va_S.rf
  have hl := lv_entry ([.ref (h 0)]) (n := 2) (Nat.le_of_ble_eq_true rfl)
  rw [lg_entry_eq]
  generalize (lg_sl ([.ref (h 0)]) ++ List.replicate (2 - (lg_sl ([.ref (h 0)])).length) Slot.unset).toArray = ls at hl ⊢
  have hl : lv_has ls 2 [(0, .ref (h 0))] := hl
  refine lv_aload_n hx hb dX3_popped_0 rfl (lv_at hl 0 rfl) ?_
  refine lv_aload_n hx hb dX3_popped_1 rfl (lv_at hl 0 rfl) ?_
  refine va_get (D := (dC, dI)) (ci := 3) (v := .ref (h 2)) (C := RX3) (T := TX3) (N := 9) hx hb hts (fun _ h9 => List.mem_cons_of_mem _ (List.mem_append_right _ h9)) hown hK hP 0 rfl rfl 1 (by decide) (hts (.fieldLink RX3 14 "LowPowerCpuModel" "\x72" "[I") (by decide +kernel)) (fun _ h9 => h9) rfl dX3_popped_2 ?_
  refine lv_iconst (v := 1) hx hb dX3_popped_5 (by decide) ?_
  refine va_iald hx hb hK hP 2 0 rfl rfl (in_c (by decide)) dX3_popped_6 ?_
  refine callR_ip (va_runV (As := [.int (σ.2.1 (1 : Int32).toNatClampNeg)]) (rest := []) ⟨hx, hb, hml, hown, hts⟩ (c_X3_wordAt l dC dI h k _ σ (σ.2.1 (1 : Int32).toNatClampNeg) (hI.1 _ (by decide))) (cwV 1 hts gX3_popped_X3_wordAt rfl rfl rfl (by decide +kernel) ⟨Nat.le_of_ble_eq_true rfl, Nat.le_of_ble_eq_true rfl⟩) (preR_V (ci := 3) (q0 := 0) hct hP hD hS rfl rfl) rfl rfl hl.1 rfl (lv_room (Nat.le_of_ble_eq_true rfl)) dX3_popped_7 ⟨Nat.le_of_ble_eq_true rfl, Nat.le_of_ble_eq_true rfl⟩) hS (fun x1 H locs ex1 hP hD hS => ?_)
  refine lv_istore_n (lv' := [(1, .int x1), (0, .ref (h 0))]) hx hb dX3_popped_10 rfl hl (by decide) rfl (fun ls hl => ?_)
  refine lv_aload_n hx hb dX3_popped_11 rfl (lv_at hl 1 rfl) ?_
  refine lv_iconst (v := 1) hx hb dX3_popped_12 (by decide) ?_
  refine lv_aload_n hx hb dX3_popped_13 rfl (lv_at hl 1 rfl) ?_
  refine va_get (D := (dC, dI)) (ci := 3) (v := .ref (h 2)) (C := RX3) (T := TX3) (N := 9) hx hb hts (fun _ h9 => List.mem_cons_of_mem _ (List.mem_append_right _ h9)) hown hK hP 0 rfl rfl 1 (by decide) (hts (.fieldLink RX3 14 "LowPowerCpuModel" "\x72" "[I") (by decide +kernel)) (fun _ h9 => h9) rfl dX3_popped_14 ?_
  refine lv_iconst (v := 1) hx hb dX3_popped_17 (by decide) ?_
  refine va_iald hx hb hK hP 2 0 rfl rfl (in_c (by decide)) dX3_popped_18 ?_
  refine lv_iconst (v := 2) hx hb dX3_popped_19 (by decide) ?_
  refine lv_iadd hx hb dX3_popped_20 ?_
  refine callR_v (va_runV (As := [.int 1, .int ((σ.2.1 (1 : Int32).toNatClampNeg) + (2 : Int32))]) (rest := []) ⟨hx, hb, hml, hown, hts⟩ (c_X3_setRegister l dC dI h k _ σ 1 ((σ.2.1 (1 : Int32).toNatClampNeg) + (2 : Int32)) (in_c (by decide))) (cwV 2 hts gX3_popped_X3_setRegister rfl rfl rfl (by decide +kernel) ⟨Nat.le_of_ble_eq_true rfl, Nat.le_of_ble_eq_true rfl⟩) (preR_V (ci := 3) (q0 := 0) hct hP hD hS rfl rfl) rfl rfl hl.1 rfl (lv_room (Nat.le_of_ble_eq_true rfl)) dX3_popped_21 ⟨Nat.le_of_ble_eq_true rfl, Nat.le_of_ble_eq_true rfl⟩) hS (fun σ2 H locs eσ2 hP hD hS => ?_)
  have hIσ2 : okR σ2 := by rw [eσ2]; (repeat (first | with_reducible assumption | with_reducible exact okR_of hI rfl rfl rfl | with_reducible apply ok_X3_spend | with_reducible apply ok_X3_setRegister | with_reducible apply ok_X3_write | with_reducible apply ok_X3_number | with_reducible apply ok_X3_memory | with_reducible apply ok_X3_taken | with_reducible apply ok_X3_indexed | with_reducible apply ok_X3_joined | with_reducible apply ok_X3_push | with_reducible apply ok_X3_popped | with_reducible apply ok_X3_shifted | with_reducible apply ok_X3_register | with_reducible apply ok_X3_source | with_reducible apply in15 | (subst_vars; with_reducible apply in15)))
  refine lv_iload_n hx hb dX3_popped_24 rfl (lv_at hl 0 rfl) ?_
  exact retR_i hx hb hr hlocks (by subst eσ2; subst ex1; exact rfl) hP hD hS dX3_popped_25

set_option maxHeartbeats 4000000 in
set_option maxRecDepth 100000 in
theorem c_X3_shifted (l : Launch) (dC : Nat → ClassId) (dI : Nat → Nat → Nat) (h : Nat → Nat) (k : Nat → ClassId) (sz : Nat) (σ : StR) (a1 : Int32) (hI : okR σ) : Met l yX3_shifted wsX3_shifted ({ frames := 4, cells := 0, slots := 0, locals := 96 }) (PcR (dC, dI) h k [.ref (h 0), .int a1] sz σ) (va_Qv (fun u => u = f_X3_shifted σ a1) (BR (dC, dI) h k (AX 4 h sz)) (AX 4 h sz)) 0 0 (AX 4 h sz) := by
  refine Met.ofW (cc := cX3_shifted) (maxL := 5) (ret := none) (by decide) rfl ?_
  intro p e s m args below meth c s₁ B hml hv
  obtain ⟨rfl, rfl, hP, hct, hD⟩ := hv
  have hx := B.exec
  have hb := B.bytes
  have hr := B.returns
  have hts := atoms_spec (ws := wsX3_shifted) B.pre
  have hown : s.vm.findClass RX3 = some m.cls := findClass_of_methodNamed B.named
  have hlocks := B.notSynchronized
  have hK := hct.1
  have hS : va_S (AX 4 h s.heap.size) s.heap s.heap [] := va_S.rf
  have hl := lv_entry ([.ref (h 0), .int a1]) (n := 5) (Nat.le_of_ble_eq_true rfl)
  rw [lg_entry_eq]
  generalize (lg_sl ([.ref (h 0), .int a1]) ++ List.replicate (5 - (lg_sl ([.ref (h 0), .int a1])).length) Slot.unset).toArray = ls at hl ⊢
  have hl : lv_has ls 5 [(0, .ref (h 0)), (1, .int a1)] := hl
  refine lv_aload_n hx hb dX3_shifted_0 rfl (lv_at hl 0 rfl) ?_
  refine va_get (D := (dC, dI)) (ci := 3) (v := .int σ.2.2.2.2.2.2.1) (C := RX3) (T := TX3) (N := 9) hx hb hts (fun _ h9 => List.mem_cons_of_mem _ (List.mem_append_right _ h9)) hown hK hP 0 rfl rfl 6 (by decide) (hts (.fieldLink RX3 80 "LowPowerCpuModel" "part" "I") (by decide +kernel)) (fun _ h9 => h9) rfl dX3_shifted_1 ?_
  refine lv_istore_n (lv' := [(2, .int σ.2.2.2.2.2.2.1), (0, .ref (h 0)), (1, .int a1)]) hx hb dX3_shifted_4 rfl hl (by decide) rfl (fun ls hl => ?_)
  refine lv_aload_n hx hb dX3_shifted_5 rfl (lv_at hl 1 rfl) ?_
  refine va_get (D := (dC, dI)) (ci := 3) (v := .int σ.2.2.2.2.2.2.2.1) (C := RX3) (T := TX3) (N := 9) hx hb hts (fun _ h9 => List.mem_cons_of_mem _ (List.mem_append_right _ h9)) hown hK hP 0 rfl rfl 7 (by decide) (hts (.fieldLink RX3 83 "LowPowerCpuModel" "where" "I") (by decide +kernel)) (fun _ h9 => h9) rfl dX3_shifted_6 ?_
  refine lv_istore_n (lv' := [(3, .int σ.2.2.2.2.2.2.2.1), (2, .int σ.2.2.2.2.2.2.1), (0, .ref (h 0)), (1, .int a1)]) hx hb dX3_shifted_9 rfl hl (by decide) rfl (fun ls hl => ?_)
  refine lv_iload_n hx hb dX3_shifted_10 rfl (lv_at hl 3 rfl) ?_
  refine lv_iconst (v := 1) hx hb dX3_shifted_11 (by decide) ?_
  refine lv_icmp_ne (tgt := 33) hx hb dX3_shifted_12 (by decide) (fun c1 => ?_) (fun c1 => ?_)
  · refine lv_iload_n hx hb dX3_shifted_33 rfl (lv_at hl 1 rfl) ?_
    refine lv_iconst (v := 1) hx hb dX3_shifted_34 (by decide) ?_
    refine lv_ishr hx hb dX3_shifted_35 ?_
    refine lv_iload_n hx hb dX3_shifted_36 rfl (lv_at hl 3 rfl) ?_
    refine wj (α := Int32) (D := (dC, dI)) (cl := vwCl) (A := AX 4 h s.heap.size) (H0 := s.heap) (if a1 = 0 then let x5 : Int32 := (f_X3_flag σ 1); let x6 : Int32 := (f_X3_high σ); x5 * x6 else let x4 : Int32 := (f_X3_high σ); σ.2.2.2.2.2.2.1 &&& x4) (fun v3 => wsR h k σ) (fun v3 => [(3, .int σ.2.2.2.2.2.2.2.1), (2, .int σ.2.2.2.2.2.2.1), (0, .ref (h 0)), (1, .int a1)]) 5 (fun v3 ls => F0 m 59 ls [.int v3, .int (σ.2.2.2.2.2.2.1 >>> ((1 : Int32) &&& 31))]) ?_ ?_
    · intro v3 ls H locs ev3 hl hP hD hS
      try dsimp only at hl hP hD ⊢
      refine lv_ior hx hb dX3_shifted_59 ?_
      refine lv_topi (fun x4 ex4 => ?_)
      refine lv_istore (lv' := [(4, .int x4), (3, .int σ.2.2.2.2.2.2.2.1), (2, .int σ.2.2.2.2.2.2.1), (0, .ref (h 0)), (1, .int a1)]) hx hb dX3_shifted_60 hl (by decide) rfl (fun ls hl => ?_)
      refine lv_iload_n hx hb dX3_shifted_62 rfl (lv_at hl 4 rfl) ?_
      refine lv_iconst (v := 3) hx hb dX3_shifted_63 (by decide) ?_
      refine wj (α := Int32) (D := (dC, dI)) (cl := vwCl) (A := AX 4 h s.heap.size) (H0 := s.heap) (if a1 = 3 then let x7 : Int32 := (σ.2.2.2.2.2.2.1.toInt8.toInt32 &&& (65535 : Int32)); x7 else x4) (fun v6 => wsR h k σ) (fun v6 => [(4, .int v6), (3, .int σ.2.2.2.2.2.2.2.1), (2, .int σ.2.2.2.2.2.2.1), (0, .ref (h 0)), (1, .int a1)]) 5 (fun v6 ls => F0 m 74 ls []) ?_ ?_
      · intro v6 ls H locs ev6 hl hP hD hS
        try dsimp only at hl hP hD ⊢
        refine lv_aload_n hx hb dX3_shifted_74 rfl (lv_at hl 3 rfl) ?_
        refine lv_iload hx hb dX3_shifted_75 (lv_at hl 0 rfl) ?_
        refine lv_iload_n hx hb dX3_shifted_77 rfl (lv_at hl 4 rfl) ?_
        refine lv_iconst (v := 3) hx hb dX3_shifted_78 (by decide) ?_
        refine wj (α := Int32) (D := (dC, dI)) (cl := vwCl) (A := AX 4 h s.heap.size) (H0 := s.heap) (if a1 = 3 then if v6 = 0 then 0 else 1 else if (σ.2.2.2.2.2.2.1 &&& (1 : Int32)) = 0 then 0 else 1) (fun v8 => wsR h k σ) (fun v8 => [(4, .int v6), (3, .int σ.2.2.2.2.2.2.2.1), (2, .int σ.2.2.2.2.2.2.1), (0, .ref (h 0)), (1, .int a1)]) 5 (fun v8 ls => F0 m 106 ls [.int v8, .int v6, .ref (h 0)]) ?_ ?_
        · intro v8 ls H locs ev8 hl hP hD hS
          try dsimp only at hl hP hD ⊢
          refine lv_iconst (v := 0) hx hb dX3_shifted_106 (by decide) ?_
          refine callR_v (va_runV (As := [.int v6, .int v8, .int 0]) (rest := []) ⟨hx, hb, hml, hown, hts⟩ (c_X3_flags l dC dI h k _ σ v6 v8 0) (cwV 3 hts gX3_shifted_X3_flags rfl rfl rfl (by decide +kernel) ⟨Nat.le_of_ble_eq_true rfl, Nat.le_of_ble_eq_true rfl⟩) (preR_V (ci := 3) (q0 := 0) hct hP hD hS rfl rfl) rfl rfl hl.1 rfl (lv_room (Nat.le_of_ble_eq_true rfl)) dX3_shifted_107 ⟨Nat.le_of_ble_eq_true rfl, Nat.le_of_ble_eq_true rfl⟩) hS (fun σ9 H locs eσ9 hP hD hS => ?_)
          refine lv_aload_n hx hb dX3_shifted_110 rfl (lv_at hl 3 rfl) ?_
          refine lv_iload_n hx hb dX3_shifted_111 rfl (lv_at hl 1 rfl) ?_
          refine lv_iload hx hb dX3_shifted_112 (lv_at hl 0 rfl) ?_
          refine callR_v (va_runV (As := [.int σ.2.2.2.2.2.2.2.1, .int v6]) (rest := []) ⟨hx, hb, hml, hown, hts⟩ (c_X3_write l dC dI h k _ σ9 σ.2.2.2.2.2.2.2.1 v6 (by subst_vars; exact hI.2.1)) (cwV 2 hts gX3_shifted_X3_write rfl rfl rfl (by decide +kernel) ⟨Nat.le_of_ble_eq_true rfl, Nat.le_of_ble_eq_true rfl⟩) (preR_V (ci := 3) (q0 := 0) hct hP hD hS rfl rfl) rfl rfl hl.1 rfl (lv_room (Nat.le_of_ble_eq_true rfl)) dX3_shifted_114 ⟨Nat.le_of_ble_eq_true rfl, Nat.le_of_ble_eq_true rfl⟩) hS (fun σ10 H locs eσ10 hP hD hS => ?_)
          exact retR_v hx hb hr hlocks (by subst eσ10; subst eσ9; subst ev8; subst ev6; subst ex4; subst ev3; exact if_neg c1) hP hD hS dX3_shifted_117
        · intro J
          refine lv_icmp_ne (tgt := 95) hx hb dX3_shifted_79 (by decide) (fun c7 => ?_) (fun c7 => ?_)
          · refine lv_iload_n hx hb dX3_shifted_95 rfl (lv_at hl 2 rfl) ?_
            refine lv_iconst (v := 1) hx hb dX3_shifted_96 (by decide) ?_
            refine lv_iand hx hb dX3_shifted_97 ?_
            refine lv_if_eq (tgt := 105) hx hb dX3_shifted_98 (by decide) (fun c11 => ?_) (fun c11 => ?_)
            · refine lv_iconst (v := 0) hx hb dX3_shifted_105 (by decide) ?_
              exact J (0) ls _ _ (by exact ((if_neg c7).trans (if_pos c11)).symm) (lv_sub hl [0, 1, 2, 3, 4] rfl) hP hD hS
            · refine lv_iconst (v := 1) hx hb dX3_shifted_101 (by decide) ?_
              refine lv_goto (tgt := 106) hx hb dX3_shifted_102 (by decide) ?_
              exact J (1) ls _ _ (by exact ((if_neg c7).trans (if_neg c11)).symm) (lv_sub hl [0, 1, 2, 3, 4] rfl) hP hD hS
          · refine lv_iload hx hb dX3_shifted_82 (lv_at hl 0 rfl) ?_
            refine lv_if_eq (tgt := 91) hx hb dX3_shifted_84 (by decide) (fun c12 => ?_) (fun c12 => ?_)
            · refine lv_iconst (v := 0) hx hb dX3_shifted_91 (by decide) ?_
              refine lv_goto (tgt := 106) hx hb dX3_shifted_92 (by decide) ?_
              exact J (0) ls _ _ (by exact ((if_pos c7).trans (if_pos c12)).symm) (lv_sub hl [0, 1, 2, 3, 4] rfl) hP hD hS
            · refine lv_iconst (v := 1) hx hb dX3_shifted_87 (by decide) ?_
              refine lv_goto (tgt := 106) hx hb dX3_shifted_88 (by decide) ?_
              exact J (1) ls _ _ (by exact ((if_pos c7).trans (if_neg c12)).symm) (lv_sub hl [0, 1, 2, 3, 4] rfl) hP hD hS
      · intro J
        refine lv_icmp_ne (tgt := 74) hx hb dX3_shifted_64 (by decide) (fun c5 => ?_) (fun c5 => ?_)
        · exact J (x4) ls _ _ (by exact (if_neg c5).symm) (lv_sub hl [0, 1, 2, 3, 4] rfl) hP hD hS
        · refine lv_iload_n hx hb dX3_shifted_67 rfl (lv_at hl 2 rfl) ?_
          refine lv_i2b hx hb dX3_shifted_68 rfl ?_
          refine lv_ldc (v := 65535) hx hb hown (hts (.constant RX3 50 65535) (by decide +kernel)) dX3_shifted_69 ?_
          refine lv_iand hx hb dX3_shifted_71 ?_
          refine lv_topi (fun x13 ex13 => ?_)
          refine lv_istore (lv' := [(4, .int x13), (3, .int σ.2.2.2.2.2.2.2.1), (2, .int σ.2.2.2.2.2.2.1), (0, .ref (h 0)), (1, .int a1)]) hx hb dX3_shifted_72 hl (by decide) rfl (fun ls hl => ?_)
          exact J (x13) ls _ _ (by subst ex13; exact (if_pos c5).symm) (lv_sub hl [0, 1, 2, 3, 4] rfl) hP hD hS
    · intro J
      refine lv_if_ne (tgt := 53) hx hb dX3_shifted_37 (by decide) (fun c2 => ?_) (fun c2 => ?_)
      · refine lv_iload_n hx hb dX3_shifted_53 rfl (lv_at hl 1 rfl) ?_
        refine lv_aload_n hx hb dX3_shifted_54 rfl (lv_at hl 2 rfl) ?_
        refine callR_ip (va_runV (As := []) (rest := [.int σ.2.2.2.2.2.2.1, .int (σ.2.2.2.2.2.2.1 >>> ((1 : Int32) &&& 31))]) ⟨hx, hb, hml, hown, hts⟩ (c_X3_high l dC dI h k _ σ ) (cwV 0 hts gX3_shifted_X3_high rfl rfl rfl (by decide +kernel) ⟨Nat.le_of_ble_eq_true rfl, Nat.le_of_ble_eq_true rfl⟩) (preR_V (ci := 3) (q0 := 0) hct hP hD hS rfl rfl) rfl rfl hl.1 rfl (lv_room (Nat.le_of_ble_eq_true rfl)) dX3_shifted_55 ⟨Nat.le_of_ble_eq_true rfl, Nat.le_of_ble_eq_true rfl⟩) hS (fun x14 H locs ex14 hP hD hS => ?_)
        refine lv_iand hx hb dX3_shifted_58 ?_
        exact J (σ.2.2.2.2.2.2.1 &&& x14) ls _ _ (by subst ex14; exact (if_neg c2).symm) (lv_sub hl [0, 1, 2, 3] rfl) hP hD hS
      · refine lv_aload_n hx hb dX3_shifted_40 rfl (lv_at hl 2 rfl) ?_
        refine lv_iconst (v := 1) hx hb dX3_shifted_41 (by decide) ?_
        refine callR_ip (va_runV (As := [.int 1]) (rest := [.int (σ.2.2.2.2.2.2.1 >>> ((1 : Int32) &&& 31))]) ⟨hx, hb, hml, hown, hts⟩ (c_X3_flag l dC dI h k _ σ 1) (cwV 1 hts gX3_shifted_X3_flag rfl rfl rfl (by decide +kernel) ⟨Nat.le_of_ble_eq_true rfl, Nat.le_of_ble_eq_true rfl⟩) (preR_V (ci := 3) (q0 := 0) hct hP hD hS rfl rfl) rfl rfl hl.1 rfl (lv_room (Nat.le_of_ble_eq_true rfl)) dX3_shifted_42 ⟨Nat.le_of_ble_eq_true rfl, Nat.le_of_ble_eq_true rfl⟩) hS (fun x15 H locs ex15 hP hD hS => ?_)
        refine lv_aload_n hx hb dX3_shifted_45 rfl (lv_at hl 2 rfl) ?_
        refine callR_ip (va_runV (As := []) (rest := [.int x15, .int (σ.2.2.2.2.2.2.1 >>> ((1 : Int32) &&& 31))]) ⟨hx, hb, hml, hown, hts⟩ (c_X3_high l dC dI h k _ σ ) (cwV 0 hts gX3_shifted_X3_high rfl rfl rfl (by decide +kernel) ⟨Nat.le_of_ble_eq_true rfl, Nat.le_of_ble_eq_true rfl⟩) (preR_V (ci := 3) (q0 := 0) hct hP hD hS rfl rfl) rfl rfl hl.1 rfl (lv_room (Nat.le_of_ble_eq_true rfl)) dX3_shifted_46 ⟨Nat.le_of_ble_eq_true rfl, Nat.le_of_ble_eq_true rfl⟩) hS (fun x16 H locs ex16 hP hD hS => ?_)
        refine lv_imul hx hb dX3_shifted_49 ?_
        refine lv_goto (tgt := 59) hx hb dX3_shifted_50 (by decide) ?_
        exact J (x15 * x16) ls _ _ (by subst ex16; subst ex15; exact (if_pos c2).symm) (lv_sub hl [0, 1, 2, 3] rfl) hP hD hS
  · refine lv_aload_n hx hb dX3_shifted_15 rfl (lv_at hl 2 rfl) ?_
    refine lv_iload_n hx hb dX3_shifted_16 rfl (lv_at hl 0 rfl) ?_
    refine lv_iload_n hx hb dX3_shifted_17 rfl (lv_at hl 1 rfl) ?_
    refine lv_bipush (v := 8) hx hb dX3_shifted_18 (by decide) ?_
    refine lv_ishl hx hb dX3_shifted_20 ?_
    refine lv_iload_n hx hb dX3_shifted_21 rfl (lv_at hl 1 rfl) ?_
    refine lv_bipush (v := 8) hx hb dX3_shifted_22 (by decide) ?_
    refine lv_ishr hx hb dX3_shifted_24 ?_
    refine lv_ior hx hb dX3_shifted_25 ?_
    refine lv_ldc (v := 65535) hx hb hown (hts (.constant RX3 50 65535) (by decide +kernel)) dX3_shifted_26 ?_
    refine lv_iand hx hb dX3_shifted_28 ?_
    refine callR_v (va_runV (As := [.int σ.2.2.2.2.2.2.2.1, .int (((σ.2.2.2.2.2.2.1 <<< ((8 : Int32) &&& 31)) ||| (σ.2.2.2.2.2.2.1 >>> ((8 : Int32) &&& 31))) &&& (65535 : Int32))]) (rest := []) ⟨hx, hb, hml, hown, hts⟩ (c_X3_write l dC dI h k _ σ σ.2.2.2.2.2.2.2.1 (((σ.2.2.2.2.2.2.1 <<< ((8 : Int32) &&& 31)) ||| (σ.2.2.2.2.2.2.1 >>> ((8 : Int32) &&& 31))) &&& (65535 : Int32)) (by subst_vars; exact hI.2.1)) (cwV 2 hts gX3_shifted_X3_write rfl rfl rfl (by decide +kernel) ⟨Nat.le_of_ble_eq_true rfl, Nat.le_of_ble_eq_true rfl⟩) (preR_V (ci := 3) (q0 := 0) hct hP hD hS rfl rfl) rfl rfl hl.1 rfl (lv_room (Nat.le_of_ble_eq_true rfl)) dX3_shifted_29 ⟨Nat.le_of_ble_eq_true rfl, Nat.le_of_ble_eq_true rfl⟩) hS (fun σ17 H locs eσ17 hP hD hS => ?_)
    exact retR_v hx hb hr hlocks (by subst eσ17; exact if_pos c1) hP hD hS dX3_shifted_32

set_option maxHeartbeats 4000000 in
set_option maxRecDepth 100000 in
theorem c_X3_twoParts (l : Launch) (dC : Nat → ClassId) (dI : Nat → Nat → Nat) (h : Nat → Nat) (k : Nat → ClassId) (sz : Nat) (σ : StR) (a1 : Int32) (hI : okR σ) : Met l yX3_twoParts wsX3_twoParts ({ frames := 7, cells := 0, slots := 0, locals := 148 }) (PcR (dC, dI) h k [.ref (h 0), .int a1] sz σ) (va_Qv (fun u => u = f_X3_twoParts σ a1) (BR (dC, dI) h k (AX 4 h sz)) (AX 4 h sz)) 0 0 (AX 4 h sz) := by
  refine Met.ofW (cc := cX3_twoParts) (maxL := 9) (ret := none) (by decide) rfl ?_
  intro p e s m args below meth c s₁ B hml hv
  obtain ⟨rfl, rfl, hP, hct, hD⟩ := hv
  have hx := B.exec
  have hb := B.bytes
  have hr := B.returns
  have hts := atoms_spec (ws := wsX3_twoParts) B.pre
  have hown : s.vm.findClass RX3 = some m.cls := findClass_of_methodNamed B.named
  have hlocks := B.notSynchronized
  have hK := hct.1
  have hS : va_S (AX 4 h s.heap.size) s.heap s.heap [] := va_S.rf
  have hl := lv_entry ([.ref (h 0), .int a1]) (n := 9) (Nat.le_of_ble_eq_true rfl)
  rw [lg_entry_eq]
  generalize (lg_sl ([.ref (h 0), .int a1]) ++ List.replicate (9 - (lg_sl ([.ref (h 0), .int a1])).length) Slot.unset).toArray = ls at hl ⊢
  have hl : lv_has ls 9 [(0, .ref (h 0)), (1, .int a1)] := hl
  refine lv_iload_n hx hb dX3_twoParts_0 rfl (lv_at hl 1 rfl) ?_
  refine lv_iconst (v := 4) hx hb dX3_twoParts_1 (by decide) ?_
  refine lv_ishr hx hb dX3_twoParts_2 ?_
  refine lv_iconst (v := 3) hx hb dX3_twoParts_3 (by decide) ?_
  refine lv_iand hx hb dX3_twoParts_4 ?_
  refine lv_topi (fun x1 ex1 => ?_)
  refine lv_istore_n (lv' := [(2, .int x1), (0, .ref (h 0)), (1, .int a1)]) hx hb dX3_twoParts_5 rfl hl (by decide) rfl (fun ls hl => ?_)
  refine lv_iload_n hx hb dX3_twoParts_6 rfl (lv_at hl 2 rfl) ?_
  refine lv_bipush (v := 8) hx hb dX3_twoParts_7 (by decide) ?_
  refine lv_ishr hx hb dX3_twoParts_9 ?_
  refine lv_bipush (v := 15) hx hb dX3_twoParts_10 (by decide) ?_
  refine lv_iand hx hb dX3_twoParts_12 ?_
  refine lv_topi (fun x2 ex2 => ?_)
  refine lv_istore_n (lv' := [(3, .int x2), (2, .int x1), (0, .ref (h 0)), (1, .int a1)]) hx hb dX3_twoParts_13 rfl hl (by decide) rfl (fun ls hl => ?_)
  refine lv_iload_n hx hb dX3_twoParts_14 rfl (lv_at hl 3 rfl) ?_
  refine lv_bipush (v := 15) hx hb dX3_twoParts_15 (by decide) ?_
  refine lv_iand hx hb dX3_twoParts_17 ?_
  refine lv_topi (fun x3 ex3 => ?_)
  refine lv_istore (lv' := [(4, .int x3), (3, .int x2), (2, .int x1), (0, .ref (h 0)), (1, .int a1)]) hx hb dX3_twoParts_18 hl (by decide) rfl (fun ls hl => ?_)
  refine lv_iload_n hx hb dX3_twoParts_20 rfl (lv_at hl 4 rfl) ?_
  refine lv_sipush (v := 128) hx hb dX3_twoParts_21 (by decide) ?_
  refine lv_iand hx hb dX3_twoParts_24 ?_
  refine wj (α := Int32) (D := (dC, dI)) (cl := vwCl) (A := AX 4 h s.heap.size) (H0 := s.heap) (if (a1 &&& (128 : Int32)) = 0 then 0 else 1) (fun v5 => wsR h k σ) (fun v5 => [(4, .int x3), (3, .int x2), (2, .int x1), (0, .ref (h 0)), (1, .int a1)]) 9 (fun v5 ls => F0 m 33 ls [.int v5]) ?_ ?_
  · intro v5 ls H locs ev5 hl hP hD hS
    try dsimp only at hl hP hD ⊢
    refine lv_istore (lv' := [(5, .int v5), (4, .int x3), (3, .int x2), (2, .int x1), (0, .ref (h 0)), (1, .int a1)]) hx hb dX3_twoParts_33 hl (by decide) rfl (fun ls hl => ?_)
    refine lv_aload_n hx hb dX3_twoParts_35 rfl (lv_at hl 4 rfl) ?_
    refine lv_iload_n hx hb dX3_twoParts_36 rfl (lv_at hl 3 rfl) ?_
    refine lv_iload_n hx hb dX3_twoParts_37 rfl (lv_at hl 2 rfl) ?_
    refine callR_v (va_runV (As := [.int x1, .int x2]) (rest := []) ⟨hx, hb, hml, hown, hts⟩ (c_X3_source l dC dI h k _ σ x1 x2 (by subst_vars; exact pk_andIn _ 4 (by decide) (by decide)) hI) (cwV 2 hts gX3_twoParts_X3_source rfl rfl rfl (by decide +kernel) ⟨Nat.le_of_ble_eq_true rfl, Nat.le_of_ble_eq_true rfl⟩) (preR_V (ci := 3) (q0 := 0) hct hP hD hS rfl rfl) rfl rfl hl.1 rfl (lv_room (Nat.le_of_ble_eq_true rfl)) dX3_twoParts_38 ⟨Nat.le_of_ble_eq_true rfl, Nat.le_of_ble_eq_true rfl⟩) hS (fun σ6 H locs eσ6 hP hD hS => ?_)
    have hIσ6 : okR σ6 := by rw [eσ6]; (repeat (first | with_reducible assumption | with_reducible exact okR_of hI rfl rfl rfl | with_reducible apply ok_X3_spend | with_reducible apply ok_X3_setRegister | with_reducible apply ok_X3_write | with_reducible apply ok_X3_number | with_reducible apply ok_X3_memory | with_reducible apply ok_X3_taken | with_reducible apply ok_X3_indexed | with_reducible apply ok_X3_joined | with_reducible apply ok_X3_push | with_reducible apply ok_X3_popped | with_reducible apply ok_X3_shifted | with_reducible apply ok_X3_register | with_reducible apply ok_X3_source | with_reducible apply in15 | (subst_vars; with_reducible apply in15)))
    refine lv_aload_n hx hb dX3_twoParts_41 rfl (lv_at hl 4 rfl) ?_
    refine va_get (D := (dC, dI)) (ci := 3) (v := .int σ6.2.2.2.2.2.2.1) (C := RX3) (T := TX3) (N := 9) hx hb hts (fun _ h9 => List.mem_cons_of_mem _ (List.mem_append_right _ h9)) hown hK hP 0 rfl rfl 6 (by decide) (hts (.fieldLink RX3 80 "LowPowerCpuModel" "part" "I") (by decide +kernel)) (fun _ h9 => h9) rfl dX3_twoParts_42 ?_
    refine lv_istore (lv' := [(6, .int σ6.2.2.2.2.2.2.1), (5, .int v5), (4, .int x3), (3, .int x2), (2, .int x1), (0, .ref (h 0)), (1, .int a1)]) hx hb dX3_twoParts_45 hl (by decide) rfl (fun ls hl => ?_)
    refine lv_iload hx hb dX3_twoParts_47 (lv_at hl 1 rfl) ?_
    refine wj (α := StR) (D := (dC, dI)) (cl := vwCl) (A := AX 4 h s.heap.size) (H0 := s.heap) (if v5 = 0 then let σ9 : StR := (f_X3_register σ6 x3); σ9 else let σ10 : StR := (f_X3_indexed σ6 x3); σ10) (fun v8 => wsR h k v8) (fun v8 => [(6, .int σ6.2.2.2.2.2.2.1), (5, .int v5), (4, .int x3), (3, .int x2), (2, .int x1), (0, .ref (h 0)), (1, .int a1)]) 9 (fun v8 ls => F0 m 67 ls []) ?_ ?_
    · intro v8 ls H locs ev8 hl hP hD hS
      try dsimp only at hl hP hD ⊢
      have hIv8 : okR v8 := by rw [ev8]; dsimp only; (repeat (first | with_reducible assumption | with_reducible apply ok_ite | with_reducible exact okR_of hI rfl rfl rfl | with_reducible apply ok_X3_spend | with_reducible apply ok_X3_setRegister | with_reducible apply ok_X3_write | with_reducible apply ok_X3_number | with_reducible apply ok_X3_memory | with_reducible apply ok_X3_taken | with_reducible apply ok_X3_indexed | with_reducible apply ok_X3_joined | with_reducible apply ok_X3_push | with_reducible apply ok_X3_popped | with_reducible apply ok_X3_shifted | with_reducible apply ok_X3_register | with_reducible apply ok_X3_source | with_reducible apply in15 | (subst_vars; with_reducible apply in15)))
      refine lv_iload_n hx hb dX3_twoParts_67 rfl (lv_at hl 6 rfl) ?_
      refine lv_bipush (v := 12) hx hb dX3_twoParts_68 (by decide) ?_
      refine lv_ishr hx hb dX3_twoParts_70 ?_
      refine lv_topi (fun x9 ex9 => ?_)
      refine lv_istore (lv' := [(7, .int x9), (6, .int σ6.2.2.2.2.2.2.1), (5, .int v5), (4, .int x3), (3, .int x2), (2, .int x1), (0, .ref (h 0)), (1, .int a1)]) hx hb dX3_twoParts_71 hl (by decide) rfl (fun ls hl => ?_)
      refine lv_aload_n hx hb dX3_twoParts_73 rfl (lv_at hl 6 rfl) ?_
      refine lv_iload hx hb dX3_twoParts_74 (lv_at hl 0 rfl) ?_
      refine lv_iload hx hb dX3_twoParts_76 (lv_at hl 1 rfl) ?_
      refine lv_aload_n hx hb dX3_twoParts_78 rfl (lv_at hl 6 rfl) ?_
      refine va_get (D := (dC, dI)) (ci := 3) (v := .int v8.2.2.2.2.2.2.1) (C := RX3) (T := TX3) (N := 9) hx hb hts (fun _ h9 => List.mem_cons_of_mem _ (List.mem_append_right _ h9)) hown hK hP 0 rfl rfl 6 (by decide) (hts (.fieldLink RX3 80 "LowPowerCpuModel" "part" "I") (by decide +kernel)) (fun _ h9 => h9) rfl dX3_twoParts_79 ?_
      refine callR_i (va_runV (As := [.int x9, .int σ6.2.2.2.2.2.2.1, .int v8.2.2.2.2.2.2.1]) (rest := []) ⟨hx, hb, hml, hown, hts⟩ (c_X3_joined l dC dI h k _ v8 x9 σ6.2.2.2.2.2.2.1 v8.2.2.2.2.2.2.1) (cwV 3 hts gX3_twoParts_X3_joined rfl rfl rfl (by decide +kernel) ⟨Nat.le_of_ble_eq_true rfl, Nat.le_of_ble_eq_true rfl⟩) (preR_V (ci := 3) (q0 := 0) hct hP hD hS rfl rfl) rfl rfl hl.1 rfl (lv_room (Nat.le_of_ble_eq_true rfl)) dX3_twoParts_82 ⟨Nat.le_of_ble_eq_true rfl, Nat.le_of_ble_eq_true rfl⟩) hS (fun x10 σ11 H locs ex10 eσ11 hP hD hS => ?_)
      have hIσ11 : okR σ11 := by rw [eσ11]; (repeat (first | with_reducible assumption | with_reducible exact okR_of hI rfl rfl rfl | with_reducible apply ok_X3_spend | with_reducible apply ok_X3_setRegister | with_reducible apply ok_X3_write | with_reducible apply ok_X3_number | with_reducible apply ok_X3_memory | with_reducible apply ok_X3_taken | with_reducible apply ok_X3_indexed | with_reducible apply ok_X3_joined | with_reducible apply ok_X3_push | with_reducible apply ok_X3_popped | with_reducible apply ok_X3_shifted | with_reducible apply ok_X3_register | with_reducible apply ok_X3_source | with_reducible apply in15 | (subst_vars; with_reducible apply in15)))
      refine lv_istore (lv' := [(8, .int x10), (7, .int x9), (6, .int σ6.2.2.2.2.2.2.1), (5, .int v5), (4, .int x3), (3, .int x2), (2, .int x1), (0, .ref (h 0)), (1, .int a1)]) hx hb dX3_twoParts_85 hl (by decide) rfl (fun ls hl => ?_)
      refine lv_iload hx hb dX3_twoParts_87 (lv_at hl 1 rfl) ?_
      refine lv_bipush (v := 9) hx hb dX3_twoParts_89 (by decide) ?_
      refine wj (α := StR) (D := (dC, dI)) (cl := vwCl) (A := AX 4 h s.heap.size) (H0 := s.heap) (if x9 = 9 then σ11 else if x9 = 11 then σ11 else let σ15 : StR := (f_X3_write σ11 σ11.2.2.2.2.2.2.2.1 x10); σ15) (fun v13 => wsR h k v13) (fun v13 => [(8, .int x10), (7, .int x9), (6, .int σ6.2.2.2.2.2.2.1), (5, .int v5), (4, .int x3), (3, .int x2), (2, .int x1), (0, .ref (h 0)), (1, .int a1)]) 9 (fun v13 ls => F0 m 111 ls []) ?_ ?_
      · intro v13 ls H locs ev13 hl hP hD hS
        try dsimp only at hl hP hD ⊢
        have hIv13 : okR v13 := by rw [ev13]; dsimp only; (repeat (first | with_reducible assumption | with_reducible apply ok_ite | with_reducible exact okR_of hI rfl rfl rfl | with_reducible apply ok_X3_spend | with_reducible apply ok_X3_setRegister | with_reducible apply ok_X3_write | with_reducible apply ok_X3_number | with_reducible apply ok_X3_memory | with_reducible apply ok_X3_taken | with_reducible apply ok_X3_indexed | with_reducible apply ok_X3_joined | with_reducible apply ok_X3_push | with_reducible apply ok_X3_popped | with_reducible apply ok_X3_shifted | with_reducible apply ok_X3_register | with_reducible apply ok_X3_source | with_reducible apply in15 | (subst_vars; with_reducible apply in15)))
        refine lv_aload_n hx hb dX3_twoParts_111 rfl (lv_at hl 7 rfl) ?_
        refine lv_iload hx hb dX3_twoParts_112 (lv_at hl 3 rfl) ?_
        refine wj (α := Int32) (D := (dC, dI)) (cl := vwCl) (A := AX 4 h s.heap.size) (H0 := s.heap) (if v5 = 0 then if x3 = 0 then 13090 else 12833 else 25940) (fun v15 => wsR h k v13) (fun v15 => [(8, .int x10), (7, .int x9), (6, .int σ6.2.2.2.2.2.2.1), (5, .int v5), (4, .int x3), (3, .int x2), (2, .int x1), (0, .ref (h 0)), (1, .int a1)]) 9 (fun v15 ls => F0 m 137 ls [.int v15, .ref (h 0)]) ?_ ?_
        · intro v15 ls H locs ev15 hl hP hD hS
          try dsimp only at hl hP hD ⊢
          refine lv_iload_n hx hb dX3_twoParts_137 rfl (lv_at hl 6 rfl) ?_
          refine lv_iload_n hx hb dX3_twoParts_138 rfl (lv_at hl 5 rfl) ?_
          refine callR_ip (va_runS (As := [.int x1, .int x2]) (rest := [.int v15, .ref (h 0)]) ⟨hx, hb, hml, hown, hts⟩ (c_X3_sort l dC dI h k _ v13 x1 x2) (va_cwS 2 hts gX3_twoParts_X3_sort rfl rfl rfl (by decide +kernel) ⟨Nat.le_of_ble_eq_true rfl, Nat.le_of_ble_eq_true rfl⟩) (preR_S hct hP hD hS) rfl rfl hl.1 rfl (lv_room (Nat.le_of_ble_eq_true rfl)) dX3_twoParts_139 ⟨Nat.le_of_ble_eq_true rfl, Nat.le_of_ble_eq_true rfl⟩) hS (fun x16 H locs ex16 hP hD hS => ?_)
          refine callR_ip (va_runS (As := [.int v15, .int x16]) (rest := [.ref (h 0)]) ⟨hx, hb, hml, hown, hts⟩ (c_X3_pick l dC dI h k _ v13 v15 x16) (va_cwS 2 hts gX3_twoParts_X3_pick rfl rfl rfl (by decide +kernel) ⟨Nat.le_of_ble_eq_true rfl, Nat.le_of_ble_eq_true rfl⟩) (preR_S hct hP hD hS) rfl rfl hl.1 rfl (lv_room (Nat.le_of_ble_eq_true rfl)) dX3_twoParts_142 ⟨Nat.le_of_ble_eq_true rfl, Nat.le_of_ble_eq_true rfl⟩) hS (fun x17 H locs ex17 hP hD hS => ?_)
          refine callR_v (va_runV (As := [.int x17]) (rest := []) ⟨hx, hb, hml, hown, hts⟩ (c_X3_spend l dC dI h k _ v13 x17) (cwV 1 hts gX3_twoParts_X3_spend rfl rfl rfl (by decide +kernel) ⟨Nat.le_of_ble_eq_true rfl, Nat.le_of_ble_eq_true rfl⟩) (preR_V (ci := 3) (q0 := 0) hct hP hD hS rfl rfl) rfl rfl hl.1 rfl (lv_room (Nat.le_of_ble_eq_true rfl)) dX3_twoParts_145 ⟨Nat.le_of_ble_eq_true rfl, Nat.le_of_ble_eq_true rfl⟩) hS (fun σ18 H locs eσ18 hP hD hS => ?_)
          have hIσ18 : okR σ18 := by rw [eσ18]; (repeat (first | with_reducible assumption | with_reducible exact okR_of hI rfl rfl rfl | with_reducible apply ok_X3_spend | with_reducible apply ok_X3_setRegister | with_reducible apply ok_X3_write | with_reducible apply ok_X3_number | with_reducible apply ok_X3_memory | with_reducible apply ok_X3_taken | with_reducible apply ok_X3_indexed | with_reducible apply ok_X3_joined | with_reducible apply ok_X3_push | with_reducible apply ok_X3_popped | with_reducible apply ok_X3_shifted | with_reducible apply ok_X3_register | with_reducible apply ok_X3_source | with_reducible apply in15 | (subst_vars; with_reducible apply in15)))
          exact retR_v hx hb hr hlocks (by subst eσ18; subst ex17; subst ex16; subst ev15; subst ev13; subst eσ11; subst ex10; subst ex9; subst ev8; subst eσ6; subst ev5; subst ex3; subst ex2; subst ex1; exact rfl) hP hD hS dX3_twoParts_148
        · intro J
          refine lv_if_eq (tgt := 123) hx hb dX3_twoParts_114 (by decide) (fun c14 => ?_) (fun c14 => ?_)
          · refine lv_iload hx hb dX3_twoParts_123 (lv_at hl 4 rfl) ?_
            refine lv_if_ne (tgt := 134) hx hb dX3_twoParts_125 (by decide) (fun c19 => ?_) (fun c19 => ?_)
            · refine lv_sipush (v := 12833) hx hb dX3_twoParts_134 (by decide) ?_
              exact J (12833) ls _ _ (by exact ((if_pos c14).trans (if_neg c19)).symm) (lv_sub hl [0, 1, 2, 3, 4, 5, 6, 7, 8] rfl) hP hD hS
            · refine lv_sipush (v := 13090) hx hb dX3_twoParts_128 (by decide) ?_
              refine lv_goto (tgt := 137) hx hb dX3_twoParts_131 (by decide) ?_
              exact J (13090) ls _ _ (by exact ((if_pos c14).trans (if_pos c19)).symm) (lv_sub hl [0, 1, 2, 3, 4, 5, 6, 7, 8] rfl) hP hD hS
          · refine lv_sipush (v := 25940) hx hb dX3_twoParts_117 (by decide) ?_
            refine lv_goto (tgt := 137) hx hb dX3_twoParts_120 (by decide) ?_
            exact J (25940) ls _ _ (by exact (if_neg c14).symm) (lv_sub hl [0, 1, 2, 3, 4, 5, 6, 7, 8] rfl) hP hD hS
      · intro J
        refine lv_icmp_eq (tgt := 111) hx hb dX3_twoParts_91 (by decide) (fun c12 => ?_) (fun c12 => ?_)
        · exact J (σ11) ls _ _ (by exact (if_pos c12).symm) (lv_sub hl [0, 1, 2, 3, 4, 5, 6, 7, 8] rfl) hP hD hS
        · refine lv_iload hx hb dX3_twoParts_94 (lv_at hl 1 rfl) ?_
          refine lv_bipush (v := 11) hx hb dX3_twoParts_96 (by decide) ?_
          refine lv_icmp_eq (tgt := 111) hx hb dX3_twoParts_98 (by decide) (fun c20 => ?_) (fun c20 => ?_)
          · exact J (σ11) ls _ _ (by exact ((if_neg c12).trans (if_pos c20)).symm) (lv_sub hl [0, 1, 2, 3, 4, 5, 6, 7, 8] rfl) hP hD hS
          · refine lv_aload_n hx hb dX3_twoParts_101 rfl (lv_at hl 7 rfl) ?_
            refine lv_aload_n hx hb dX3_twoParts_102 rfl (lv_at hl 7 rfl) ?_
            refine va_get (D := (dC, dI)) (ci := 3) (v := .int σ11.2.2.2.2.2.2.2.1) (C := RX3) (T := TX3) (N := 9) hx hb hts (fun _ h9 => List.mem_cons_of_mem _ (List.mem_append_right _ h9)) hown hK hP 0 rfl rfl 7 (by decide) (hts (.fieldLink RX3 83 "LowPowerCpuModel" "where" "I") (by decide +kernel)) (fun _ h9 => h9) rfl dX3_twoParts_103 ?_
            refine lv_iload hx hb dX3_twoParts_106 (lv_at hl 0 rfl) ?_
            refine callR_v (va_runV (As := [.int σ11.2.2.2.2.2.2.2.1, .int x10]) (rest := []) ⟨hx, hb, hml, hown, hts⟩ (c_X3_write l dC dI h k _ σ11 σ11.2.2.2.2.2.2.2.1 x10 hIσ11.2.1) (cwV 2 hts gX3_twoParts_X3_write rfl rfl rfl (by decide +kernel) ⟨Nat.le_of_ble_eq_true rfl, Nat.le_of_ble_eq_true rfl⟩) (preR_V (ci := 3) (q0 := 0) hct hP hD hS rfl rfl) rfl rfl hl.1 rfl (lv_room (Nat.le_of_ble_eq_true rfl)) dX3_twoParts_108 ⟨Nat.le_of_ble_eq_true rfl, Nat.le_of_ble_eq_true rfl⟩) hS (fun σ21 H locs eσ21 hP hD hS => ?_)
            have hIσ21 : okR σ21 := by rw [eσ21]; (repeat (first | with_reducible assumption | with_reducible exact okR_of hI rfl rfl rfl | with_reducible apply ok_X3_spend | with_reducible apply ok_X3_setRegister | with_reducible apply ok_X3_write | with_reducible apply ok_X3_number | with_reducible apply ok_X3_memory | with_reducible apply ok_X3_taken | with_reducible apply ok_X3_indexed | with_reducible apply ok_X3_joined | with_reducible apply ok_X3_push | with_reducible apply ok_X3_popped | with_reducible apply ok_X3_shifted | with_reducible apply ok_X3_register | with_reducible apply ok_X3_source | with_reducible apply in15 | (subst_vars; with_reducible apply in15)))
            exact J (σ21) ls _ _ (by subst eσ21; exact ((if_neg c12).trans (if_neg c20)).symm) (lv_sub hl [0, 1, 2, 3, 4, 5, 6, 7, 8] rfl) hP hD hS
    · intro J
      refine lv_if_eq (tgt := 61) hx hb dX3_twoParts_49 (by decide) (fun c7 => ?_) (fun c7 => ?_)
      · refine lv_aload_n hx hb dX3_twoParts_61 rfl (lv_at hl 5 rfl) ?_
        refine lv_iload hx hb dX3_twoParts_62 (lv_at hl 2 rfl) ?_
        refine callR_v (va_runV (As := [.int x3]) (rest := []) ⟨hx, hb, hml, hown, hts⟩ (c_X3_register l dC dI h k _ σ6 x3 (by subst_vars; exact pk_andIn _ 4 (by decide) (by decide))) (cwV 1 hts gX3_twoParts_X3_register rfl rfl rfl (by decide +kernel) ⟨Nat.le_of_ble_eq_true rfl, Nat.le_of_ble_eq_true rfl⟩) (preR_V (ci := 3) (q0 := 0) hct hP hD hS rfl rfl) rfl rfl hl.1 rfl (lv_room (Nat.le_of_ble_eq_true rfl)) dX3_twoParts_64 ⟨Nat.le_of_ble_eq_true rfl, Nat.le_of_ble_eq_true rfl⟩) hS (fun σ22 H locs eσ22 hP hD hS => ?_)
        have hIσ22 : okR σ22 := by rw [eσ22]; (repeat (first | with_reducible assumption | with_reducible exact okR_of hI rfl rfl rfl | with_reducible apply ok_X3_spend | with_reducible apply ok_X3_setRegister | with_reducible apply ok_X3_write | with_reducible apply ok_X3_number | with_reducible apply ok_X3_memory | with_reducible apply ok_X3_taken | with_reducible apply ok_X3_indexed | with_reducible apply ok_X3_joined | with_reducible apply ok_X3_push | with_reducible apply ok_X3_popped | with_reducible apply ok_X3_shifted | with_reducible apply ok_X3_register | with_reducible apply ok_X3_source | with_reducible apply in15 | (subst_vars; with_reducible apply in15)))
        exact J (σ22) ls _ _ (by subst eσ22; exact (if_pos c7).symm) (lv_sub hl [0, 1, 2, 3, 4, 5, 6] rfl) hP hD hS
      · refine lv_aload_n hx hb dX3_twoParts_52 rfl (lv_at hl 5 rfl) ?_
        refine lv_iload hx hb dX3_twoParts_53 (lv_at hl 2 rfl) ?_
        refine callR_v (va_runV (As := [.int x3]) (rest := []) ⟨hx, hb, hml, hown, hts⟩ (c_X3_indexed l dC dI h k _ σ6 x3 (by subst_vars; exact pk_andIn _ 4 (by decide) (by decide)) hIσ6) (cwV 1 hts gX3_twoParts_X3_indexed rfl rfl rfl (by decide +kernel) ⟨Nat.le_of_ble_eq_true rfl, Nat.le_of_ble_eq_true rfl⟩) (preR_V (ci := 3) (q0 := 0) hct hP hD hS rfl rfl) rfl rfl hl.1 rfl (lv_room (Nat.le_of_ble_eq_true rfl)) dX3_twoParts_55 ⟨Nat.le_of_ble_eq_true rfl, Nat.le_of_ble_eq_true rfl⟩) hS (fun σ23 H locs eσ23 hP hD hS => ?_)
        have hIσ23 : okR σ23 := by rw [eσ23]; (repeat (first | with_reducible assumption | with_reducible exact okR_of hI rfl rfl rfl | with_reducible apply ok_X3_spend | with_reducible apply ok_X3_setRegister | with_reducible apply ok_X3_write | with_reducible apply ok_X3_number | with_reducible apply ok_X3_memory | with_reducible apply ok_X3_taken | with_reducible apply ok_X3_indexed | with_reducible apply ok_X3_joined | with_reducible apply ok_X3_push | with_reducible apply ok_X3_popped | with_reducible apply ok_X3_shifted | with_reducible apply ok_X3_register | with_reducible apply ok_X3_source | with_reducible apply in15 | (subst_vars; with_reducible apply in15)))
        refine lv_goto (tgt := 67) hx hb dX3_twoParts_58 (by decide) ?_
        exact J (σ23) ls _ _ (by subst eσ23; exact (if_neg c7).symm) (lv_sub hl [0, 1, 2, 3, 4, 5, 6] rfl) hP hD hS
  · intro J
    refine lv_if_eq (tgt := 32) hx hb dX3_twoParts_25 (by decide) (fun c4 => ?_) (fun c4 => ?_)
    · refine lv_iconst (v := 0) hx hb dX3_twoParts_32 (by decide) ?_
      exact J (0) ls _ _ (by exact (if_pos c4).symm) (lv_sub hl [0, 1, 2, 3, 4] rfl) hP hD hS
    · refine lv_iconst (v := 1) hx hb dX3_twoParts_28 (by decide) ?_
      refine lv_goto (tgt := 33) hx hb dX3_twoParts_29 (by decide) ?_
      exact J (1) ls _ _ (by exact (if_neg c4).symm) (lv_sub hl [0, 1, 2, 3, 4] rfl) hP hD hS

set_option maxHeartbeats 4000000 in
set_option maxRecDepth 100000 in
theorem c_X3_onePart (l : Launch) (dC : Nat → ClassId) (dI : Nat → Nat → Nat) (h : Nat → Nat) (k : Nat → ClassId) (sz : Nat) (σ : StR) (a1 : Int32) (hI : okR σ) : Met l yX3_onePart wsX3_onePart ({ frames := 7, cells := 0, slots := 0, locals := 148 }) (PcR (dC, dI) h k [.ref (h 0), .int a1] sz σ) (va_Qv (fun u => u = f_X3_onePart σ a1) (BR (dC, dI) h k (AX 4 h sz)) (AX 4 h sz)) 0 0 (AX 4 h sz) := by
  refine Met.ofW (cc := cX3_onePart) (maxL := 7) (ret := none) (by decide) rfl ?_
  intro p e s m args below meth c s₁ B hml hv
  obtain ⟨rfl, rfl, hP, hct, hD⟩ := hv
  have hx := B.exec
  have hb := B.bytes
  have hr := B.returns
  have hts := atoms_spec (ws := wsX3_onePart) B.pre
  have hown : s.vm.findClass RX3 = some m.cls := findClass_of_methodNamed B.named
  have hlocks := B.notSynchronized
  have hK := hct.1
  have hS : va_S (AX 4 h s.heap.size) s.heap s.heap [] := va_S.rf
  have hl := lv_entry ([.ref (h 0), .int a1]) (n := 7) (Nat.le_of_ble_eq_true rfl)
  rw [lg_entry_eq]
  generalize (lg_sl ([.ref (h 0), .int a1]) ++ List.replicate (7 - (lg_sl ([.ref (h 0), .int a1])).length) Slot.unset).toArray = ls at hl ⊢
  have hl : lv_has ls 7 [(0, .ref (h 0)), (1, .int a1)] := hl
  refine lv_iload_n hx hb dX3_onePart_0 rfl (lv_at hl 1 rfl) ?_
  refine lv_bipush (v := 7) hx hb dX3_onePart_1 (by decide) ?_
  refine lv_ishr hx hb dX3_onePart_3 ?_
  refine lv_bipush (v := 7) hx hb dX3_onePart_4 (by decide) ?_
  refine lv_iand hx hb dX3_onePart_6 ?_
  refine lv_topi (fun x1 ex1 => ?_)
  refine lv_istore_n (lv' := [(2, .int x1), (0, .ref (h 0)), (1, .int a1)]) hx hb dX3_onePart_7 rfl hl (by decide) rfl (fun ls hl => ?_)
  refine lv_iload_n hx hb dX3_onePart_8 rfl (lv_at hl 2 rfl) ?_
  refine lv_iconst (v := 4) hx hb dX3_onePart_9 (by decide) ?_
  refine lv_ishr hx hb dX3_onePart_10 ?_
  refine lv_iconst (v := 3) hx hb dX3_onePart_11 (by decide) ?_
  refine lv_iand hx hb dX3_onePart_12 ?_
  refine lv_topi (fun x2 ex2 => ?_)
  refine lv_istore_n (lv' := [(3, .int x2), (2, .int x1), (0, .ref (h 0)), (1, .int a1)]) hx hb dX3_onePart_13 rfl hl (by decide) rfl (fun ls hl => ?_)
  refine lv_iload_n hx hb dX3_onePart_14 rfl (lv_at hl 3 rfl) ?_
  refine lv_bipush (v := 15) hx hb dX3_onePart_15 (by decide) ?_
  refine lv_iand hx hb dX3_onePart_17 ?_
  refine lv_topi (fun x3 ex3 => ?_)
  refine lv_istore (lv' := [(4, .int x3), (3, .int x2), (2, .int x1), (0, .ref (h 0)), (1, .int a1)]) hx hb dX3_onePart_18 hl (by decide) rfl (fun ls hl => ?_)
  refine lv_iload_n hx hb dX3_onePart_20 rfl (lv_at hl 2 rfl) ?_
  refine lv_bipush (v := 6) hx hb dX3_onePart_21 (by decide) ?_
  refine lv_icmp_ne (tgt := 50) hx hb dX3_onePart_23 (by decide) (fun c4 => ?_) (fun c4 => ?_)
  · refine lv_aload_n hx hb dX3_onePart_50 rfl (lv_at hl 3 rfl) ?_
    refine lv_iload_n hx hb dX3_onePart_51 rfl (lv_at hl 1 rfl) ?_
    refine lv_iload hx hb dX3_onePart_52 (lv_at hl 0 rfl) ?_
    refine callR_v (va_runV (As := [.int x2, .int x3]) (rest := []) ⟨hx, hb, hml, hown, hts⟩ (c_X3_source l dC dI h k _ σ x2 x3 (by subst_vars; exact pk_andIn _ 4 (by decide) (by decide)) hI) (cwV 2 hts gX3_onePart_X3_source rfl rfl rfl (by decide +kernel) ⟨Nat.le_of_ble_eq_true rfl, Nat.le_of_ble_eq_true rfl⟩) (preR_V (ci := 3) (q0 := 0) hct hP hD hS rfl rfl) rfl rfl hl.1 rfl (lv_room (Nat.le_of_ble_eq_true rfl)) dX3_onePart_54 ⟨Nat.le_of_ble_eq_true rfl, Nat.le_of_ble_eq_true rfl⟩) hS (fun σ5 H locs eσ5 hP hD hS => ?_)
    have hIσ5 : okR σ5 := by rw [eσ5]; (repeat (first | with_reducible assumption | with_reducible exact okR_of hI rfl rfl rfl | with_reducible apply ok_X3_spend | with_reducible apply ok_X3_setRegister | with_reducible apply ok_X3_write | with_reducible apply ok_X3_number | with_reducible apply ok_X3_memory | with_reducible apply ok_X3_taken | with_reducible apply ok_X3_indexed | with_reducible apply ok_X3_joined | with_reducible apply ok_X3_push | with_reducible apply ok_X3_popped | with_reducible apply ok_X3_shifted | with_reducible apply ok_X3_register | with_reducible apply ok_X3_source | with_reducible apply in15 | (subst_vars; with_reducible apply in15)))
    refine lv_iload_n hx hb dX3_onePart_57 rfl (lv_at hl 1 rfl) ?_
    refine lv_iload hx hb dX3_onePart_58 (lv_at hl 0 rfl) ?_
    refine callR_ip (va_runS (As := [.int x2, .int x3]) (rest := []) ⟨hx, hb, hml, hown, hts⟩ (c_X3_sort l dC dI h k _ σ5 x2 x3) (va_cwS 2 hts gX3_onePart_X3_sort rfl rfl rfl (by decide +kernel) ⟨Nat.le_of_ble_eq_true rfl, Nat.le_of_ble_eq_true rfl⟩) (preR_S hct hP hD hS) rfl rfl hl.1 rfl (lv_room (Nat.le_of_ble_eq_true rfl)) dX3_onePart_60 ⟨Nat.le_of_ble_eq_true rfl, Nat.le_of_ble_eq_true rfl⟩) hS (fun x6 H locs ex6 hP hD hS => ?_)
    refine lv_istore (lv' := [(5, .int x6), (4, .int x3), (3, .int x2), (2, .int x1), (0, .ref (h 0)), (1, .int a1)]) hx hb dX3_onePart_63 hl (by decide) rfl (fun ls hl => ?_)
    refine lv_iload_n hx hb dX3_onePart_65 rfl (lv_at hl 3 rfl) ?_
    refine lv_iconst (v := 4) hx hb dX3_onePart_66 (by decide) ?_
    refine lv_icmp_ge (tgt := 90) hx hb dX3_onePart_67 (by decide) (fun c7 => ?_) (fun c7 => ?_)
    · refine lv_iload_n hx hb dX3_onePart_90 rfl (lv_at hl 3 rfl) ?_
      refine lv_iconst (v := 4) hx hb dX3_onePart_91 (by decide) ?_
      refine lv_icmp_ne (tgt := 132) hx hb dX3_onePart_92 (by decide) (fun c8 => ?_) (fun c8 => ?_)
      · refine lv_aload_n hx hb dX3_onePart_132 rfl (lv_at hl 4 rfl) ?_
        refine va_get (D := (dC, dI)) (ci := 3) (v := .int σ5.2.2.2.2.2.2.1) (C := RX3) (T := TX3) (N := 9) hx hb hts (fun _ h9 => List.mem_cons_of_mem _ (List.mem_append_right _ h9)) hown hK hP 0 rfl rfl 6 (by decide) (hts (.fieldLink RX3 80 "LowPowerCpuModel" "part" "I") (by decide +kernel)) (fun _ h9 => h9) rfl dX3_onePart_133 ?_
        refine lv_istore (lv' := [(6, .int σ5.2.2.2.2.2.2.1), (5, .int x6), (4, .int x3), (3, .int x2), (2, .int x1), (0, .ref (h 0)), (1, .int a1)]) hx hb dX3_onePart_136 hl (by decide) rfl (fun ls hl => ?_)
        refine lv_aload_n hx hb dX3_onePart_138 rfl (lv_at hl 5 rfl) ?_
        refine lv_aload_n hx hb dX3_onePart_139 rfl (lv_at hl 5 rfl) ?_
        refine va_get (D := (dC, dI)) (ci := 3) (v := .ref (h 2)) (C := RX3) (T := TX3) (N := 9) hx hb hts (fun _ h9 => List.mem_cons_of_mem _ (List.mem_append_right _ h9)) hown hK hP 0 rfl rfl 1 (by decide) (hts (.fieldLink RX3 14 "LowPowerCpuModel" "\x72" "[I") (by decide +kernel)) (fun _ h9 => h9) rfl dX3_onePart_140 ?_
        refine lv_iconst (v := 0) hx hb dX3_onePart_143 (by decide) ?_
        refine va_iald hx hb hK hP 2 0 rfl rfl (in_c (by decide)) dX3_onePart_144 ?_
        refine callR_v (va_runV (As := [.int (σ5.2.1 (0 : Int32).toNatClampNeg)]) (rest := []) ⟨hx, hb, hml, hown, hts⟩ (c_X3_push l dC dI h k _ σ5 (σ5.2.1 (0 : Int32).toNatClampNeg) hIσ5) (cwV 1 hts gX3_onePart_X3_push rfl rfl rfl (by decide +kernel) ⟨Nat.le_of_ble_eq_true rfl, Nat.le_of_ble_eq_true rfl⟩) (preR_V (ci := 3) (q0 := 0) hct hP hD hS rfl rfl) rfl rfl hl.1 rfl (lv_room (Nat.le_of_ble_eq_true rfl)) dX3_onePart_145 ⟨Nat.le_of_ble_eq_true rfl, Nat.le_of_ble_eq_true rfl⟩) hS (fun σ9 H locs eσ9 hP hD hS => ?_)
        have hIσ9 : okR σ9 := by rw [eσ9]; (repeat (first | with_reducible assumption | with_reducible exact okR_of hI rfl rfl rfl | with_reducible apply ok_X3_spend | with_reducible apply ok_X3_setRegister | with_reducible apply ok_X3_write | with_reducible apply ok_X3_number | with_reducible apply ok_X3_memory | with_reducible apply ok_X3_taken | with_reducible apply ok_X3_indexed | with_reducible apply ok_X3_joined | with_reducible apply ok_X3_push | with_reducible apply ok_X3_popped | with_reducible apply ok_X3_shifted | with_reducible apply ok_X3_register | with_reducible apply ok_X3_source | with_reducible apply in15 | (subst_vars; with_reducible apply in15)))
        refine lv_aload_n hx hb dX3_onePart_148 rfl (lv_at hl 5 rfl) ?_
        refine lv_iconst (v := 0) hx hb dX3_onePart_149 (by decide) ?_
        refine lv_iload hx hb dX3_onePart_150 (lv_at hl 0 rfl) ?_
        refine callR_v (va_runV (As := [.int 0, .int σ5.2.2.2.2.2.2.1]) (rest := []) ⟨hx, hb, hml, hown, hts⟩ (c_X3_setRegister l dC dI h k _ σ9 0 σ5.2.2.2.2.2.2.1 (in_c (by decide))) (cwV 2 hts gX3_onePart_X3_setRegister rfl rfl rfl (by decide +kernel) ⟨Nat.le_of_ble_eq_true rfl, Nat.le_of_ble_eq_true rfl⟩) (preR_V (ci := 3) (q0 := 0) hct hP hD hS rfl rfl) rfl rfl hl.1 rfl (lv_room (Nat.le_of_ble_eq_true rfl)) dX3_onePart_152 ⟨Nat.le_of_ble_eq_true rfl, Nat.le_of_ble_eq_true rfl⟩) hS (fun σ10 H locs eσ10 hP hD hS => ?_)
        have hIσ10 : okR σ10 := by rw [eσ10]; (repeat (first | with_reducible assumption | with_reducible exact okR_of hI rfl rfl rfl | with_reducible apply ok_X3_spend | with_reducible apply ok_X3_setRegister | with_reducible apply ok_X3_write | with_reducible apply ok_X3_number | with_reducible apply ok_X3_memory | with_reducible apply ok_X3_taken | with_reducible apply ok_X3_indexed | with_reducible apply ok_X3_joined | with_reducible apply ok_X3_push | with_reducible apply ok_X3_popped | with_reducible apply ok_X3_shifted | with_reducible apply ok_X3_register | with_reducible apply ok_X3_source | with_reducible apply in15 | (subst_vars; with_reducible apply in15)))
        refine lv_aload_n hx hb dX3_onePart_155 rfl (lv_at hl 5 rfl) ?_
        refine lv_sipush (v := 21828) hx hb dX3_onePart_156 (by decide) ?_
        refine lv_iload hx hb dX3_onePart_159 (lv_at hl 1 rfl) ?_
        refine callR_ip (va_runS (As := [.int 21828, .int x6]) (rest := [.ref (h 0)]) ⟨hx, hb, hml, hown, hts⟩ (c_X3_pick l dC dI h k _ σ10 21828 x6) (va_cwS 2 hts gX3_onePart_X3_pick rfl rfl rfl (by decide +kernel) ⟨Nat.le_of_ble_eq_true rfl, Nat.le_of_ble_eq_true rfl⟩) (preR_S hct hP hD hS) rfl rfl hl.1 rfl (lv_room (Nat.le_of_ble_eq_true rfl)) dX3_onePart_161 ⟨Nat.le_of_ble_eq_true rfl, Nat.le_of_ble_eq_true rfl⟩) hS (fun x11 H locs ex11 hP hD hS => ?_)
        refine callR_v (va_runV (As := [.int x11]) (rest := []) ⟨hx, hb, hml, hown, hts⟩ (c_X3_spend l dC dI h k _ σ10 x11) (cwV 1 hts gX3_onePart_X3_spend rfl rfl rfl (by decide +kernel) ⟨Nat.le_of_ble_eq_true rfl, Nat.le_of_ble_eq_true rfl⟩) (preR_V (ci := 3) (q0 := 0) hct hP hD hS rfl rfl) rfl rfl hl.1 rfl (lv_room (Nat.le_of_ble_eq_true rfl)) dX3_onePart_164 ⟨Nat.le_of_ble_eq_true rfl, Nat.le_of_ble_eq_true rfl⟩) hS (fun σ12 H locs eσ12 hP hD hS => ?_)
        have hIσ12 : okR σ12 := by rw [eσ12]; (repeat (first | with_reducible assumption | with_reducible exact okR_of hI rfl rfl rfl | with_reducible apply ok_X3_spend | with_reducible apply ok_X3_setRegister | with_reducible apply ok_X3_write | with_reducible apply ok_X3_number | with_reducible apply ok_X3_memory | with_reducible apply ok_X3_taken | with_reducible apply ok_X3_indexed | with_reducible apply ok_X3_joined | with_reducible apply ok_X3_push | with_reducible apply ok_X3_popped | with_reducible apply ok_X3_shifted | with_reducible apply ok_X3_register | with_reducible apply ok_X3_source | with_reducible apply in15 | (subst_vars; with_reducible apply in15)))
        exact retR_v hx hb hr hlocks (by subst eσ12; subst ex11; subst eσ10; subst eσ9; subst ex6; subst eσ5; subst ex3; subst ex2; subst ex1; exact (if_neg c4).trans ((if_pos c7).trans (if_neg c8))) hP hD hS dX3_onePart_167
      · refine lv_aload_n hx hb dX3_onePart_95 rfl (lv_at hl 4 rfl) ?_
        refine lv_aload_n hx hb dX3_onePart_96 rfl (lv_at hl 4 rfl) ?_
        refine va_get (D := (dC, dI)) (ci := 3) (v := .int σ5.2.2.2.2.2.2.1) (C := RX3) (T := TX3) (N := 9) hx hb hts (fun _ h9 => List.mem_cons_of_mem _ (List.mem_append_right _ h9)) hown hK hP 0 rfl rfl 6 (by decide) (hts (.fieldLink RX3 80 "LowPowerCpuModel" "part" "I") (by decide +kernel)) (fun _ h9 => h9) rfl dX3_onePart_97 ?_
        refine callR_v (va_runV (As := [.int σ5.2.2.2.2.2.2.1]) (rest := []) ⟨hx, hb, hml, hown, hts⟩ (c_X3_push l dC dI h k _ σ5 σ5.2.2.2.2.2.2.1 hIσ5) (cwV 1 hts gX3_onePart_X3_push rfl rfl rfl (by decide +kernel) ⟨Nat.le_of_ble_eq_true rfl, Nat.le_of_ble_eq_true rfl⟩) (preR_V (ci := 3) (q0 := 0) hct hP hD hS rfl rfl) rfl rfl hl.1 rfl (lv_room (Nat.le_of_ble_eq_true rfl)) dX3_onePart_100 ⟨Nat.le_of_ble_eq_true rfl, Nat.le_of_ble_eq_true rfl⟩) hS (fun σ13 H locs eσ13 hP hD hS => ?_)
        have hIσ13 : okR σ13 := by rw [eσ13]; (repeat (first | with_reducible assumption | with_reducible exact okR_of hI rfl rfl rfl | with_reducible apply ok_X3_spend | with_reducible apply ok_X3_setRegister | with_reducible apply ok_X3_write | with_reducible apply ok_X3_number | with_reducible apply ok_X3_memory | with_reducible apply ok_X3_taken | with_reducible apply ok_X3_indexed | with_reducible apply ok_X3_joined | with_reducible apply ok_X3_push | with_reducible apply ok_X3_popped | with_reducible apply ok_X3_shifted | with_reducible apply ok_X3_register | with_reducible apply ok_X3_source | with_reducible apply in15 | (subst_vars; with_reducible apply in15)))
        refine lv_aload_n hx hb dX3_onePart_103 rfl (lv_at hl 4 rfl) ?_
        refine lv_iload_n hx hb dX3_onePart_104 rfl (lv_at hl 2 rfl) ?_
        refine lv_iconst (v := 3) hx hb dX3_onePart_105 (by decide) ?_
        refine wj (α := Int32) (D := (dC, dI)) (cl := vwCl) (A := AX 4 h s.heap.size) (H0 := s.heap) (if x2 = 3 then if x3 = 0 then 4 else let x18 : Int32 := (f_X3_pick 21827 x6); x18 else let x16 : Int32 := (f_X3_pick 21827 x6); x16) (fun v15 => wsR h k σ13) (fun v15 => [(5, .int x6), (4, .int x3), (3, .int x2), (2, .int x1), (0, .ref (h 0)), (1, .int a1)]) 7 (fun v15 ls => F0 m 126 ls [.int v15, .ref (h 0)]) ?_ ?_
        · intro v15 ls H locs ev15 hl hP hD hS
          try dsimp only at hl hP hD ⊢
          refine callR_v (va_runV (As := [.int v15]) (rest := []) ⟨hx, hb, hml, hown, hts⟩ (c_X3_spend l dC dI h k _ σ13 v15) (cwV 1 hts gX3_onePart_X3_spend rfl rfl rfl (by decide +kernel) ⟨Nat.le_of_ble_eq_true rfl, Nat.le_of_ble_eq_true rfl⟩) (preR_V (ci := 3) (q0 := 0) hct hP hD hS rfl rfl) rfl rfl hl.1 rfl (lv_room (Nat.le_of_ble_eq_true rfl)) dX3_onePart_126 ⟨Nat.le_of_ble_eq_true rfl, Nat.le_of_ble_eq_true rfl⟩) hS (fun σ16 H locs eσ16 hP hD hS => ?_)
          have hIσ16 : okR σ16 := by rw [eσ16]; (repeat (first | with_reducible assumption | with_reducible exact okR_of hI rfl rfl rfl | with_reducible apply ok_X3_spend | with_reducible apply ok_X3_setRegister | with_reducible apply ok_X3_write | with_reducible apply ok_X3_number | with_reducible apply ok_X3_memory | with_reducible apply ok_X3_taken | with_reducible apply ok_X3_indexed | with_reducible apply ok_X3_joined | with_reducible apply ok_X3_push | with_reducible apply ok_X3_popped | with_reducible apply ok_X3_shifted | with_reducible apply ok_X3_register | with_reducible apply ok_X3_source | with_reducible apply in15 | (subst_vars; with_reducible apply in15)))
          refine lv_goto (tgt := 167) hx hb dX3_onePart_129 (by decide) ?_
          exact retR_v hx hb hr hlocks (by subst eσ16; subst ev15; subst eσ13; subst ex6; subst eσ5; subst ex3; subst ex2; subst ex1; exact (if_neg c4).trans ((if_pos c7).trans (if_pos c8))) hP hD hS dX3_onePart_167
        · intro J
          refine lv_icmp_ne (tgt := 118) hx hb dX3_onePart_106 (by decide) (fun c14 => ?_) (fun c14 => ?_)
          · refine lv_sipush (v := 21827) hx hb dX3_onePart_118 (by decide) ?_
            refine lv_iload hx hb dX3_onePart_121 (lv_at hl 0 rfl) ?_
            refine callR_ip (va_runS (As := [.int 21827, .int x6]) (rest := [.ref (h 0)]) ⟨hx, hb, hml, hown, hts⟩ (c_X3_pick l dC dI h k _ σ13 21827 x6) (va_cwS 2 hts gX3_onePart_X3_pick rfl rfl rfl (by decide +kernel) ⟨Nat.le_of_ble_eq_true rfl, Nat.le_of_ble_eq_true rfl⟩) (preR_S hct hP hD hS) rfl rfl hl.1 rfl (lv_room (Nat.le_of_ble_eq_true rfl)) dX3_onePart_123 ⟨Nat.le_of_ble_eq_true rfl, Nat.le_of_ble_eq_true rfl⟩) hS (fun x17 H locs ex17 hP hD hS => ?_)
            exact J (x17) ls _ _ (by subst ex17; exact (if_neg c14).symm) (lv_sub hl [0, 1, 2, 3, 4, 5] rfl) hP hD hS
          · refine lv_iload hx hb dX3_onePart_109 (lv_at hl 1 rfl) ?_
            refine lv_if_ne (tgt := 118) hx hb dX3_onePart_111 (by decide) (fun c18 => ?_) (fun c18 => ?_)
            · refine lv_sipush (v := 21827) hx hb dX3_onePart_118 (by decide) ?_
              refine lv_iload hx hb dX3_onePart_121 (lv_at hl 0 rfl) ?_
              refine callR_ip (va_runS (As := [.int 21827, .int x6]) (rest := [.ref (h 0)]) ⟨hx, hb, hml, hown, hts⟩ (c_X3_pick l dC dI h k _ σ13 21827 x6) (va_cwS 2 hts gX3_onePart_X3_pick rfl rfl rfl (by decide +kernel) ⟨Nat.le_of_ble_eq_true rfl, Nat.le_of_ble_eq_true rfl⟩) (preR_S hct hP hD hS) rfl rfl hl.1 rfl (lv_room (Nat.le_of_ble_eq_true rfl)) dX3_onePart_123 ⟨Nat.le_of_ble_eq_true rfl, Nat.le_of_ble_eq_true rfl⟩) hS (fun x19 H locs ex19 hP hD hS => ?_)
              exact J (x19) ls _ _ (by subst ex19; exact ((if_pos c14).trans (if_neg c18)).symm) (lv_sub hl [0, 1, 2, 3, 4, 5] rfl) hP hD hS
            · refine lv_iconst (v := 4) hx hb dX3_onePart_114 (by decide) ?_
              refine lv_goto (tgt := 126) hx hb dX3_onePart_115 (by decide) ?_
              exact J (4) ls _ _ (by exact ((if_pos c14).trans (if_pos c18)).symm) (lv_sub hl [0, 1, 2, 3, 4, 5] rfl) hP hD hS
    · refine lv_aload_n hx hb dX3_onePart_70 rfl (lv_at hl 4 rfl) ?_
      refine lv_iload_n hx hb dX3_onePart_71 rfl (lv_at hl 3 rfl) ?_
      refine callR_v (va_runV (As := [.int x1]) (rest := []) ⟨hx, hb, hml, hown, hts⟩ (c_X3_shifted l dC dI h k _ σ5 x1 hIσ5) (cwV 1 hts gX3_onePart_X3_shifted rfl rfl rfl (by decide +kernel) ⟨Nat.le_of_ble_eq_true rfl, Nat.le_of_ble_eq_true rfl⟩) (preR_V (ci := 3) (q0 := 0) hct hP hD hS rfl rfl) rfl rfl hl.1 rfl (lv_room (Nat.le_of_ble_eq_true rfl)) dX3_onePart_72 ⟨Nat.le_of_ble_eq_true rfl, Nat.le_of_ble_eq_true rfl⟩) hS (fun σ20 H locs eσ20 hP hD hS => ?_)
      have hIσ20 : okR σ20 := by rw [eσ20]; (repeat (first | with_reducible assumption | with_reducible exact okR_of hI rfl rfl rfl | with_reducible apply ok_X3_spend | with_reducible apply ok_X3_setRegister | with_reducible apply ok_X3_write | with_reducible apply ok_X3_number | with_reducible apply ok_X3_memory | with_reducible apply ok_X3_taken | with_reducible apply ok_X3_indexed | with_reducible apply ok_X3_joined | with_reducible apply ok_X3_push | with_reducible apply ok_X3_popped | with_reducible apply ok_X3_shifted | with_reducible apply ok_X3_register | with_reducible apply ok_X3_source | with_reducible apply in15 | (subst_vars; with_reducible apply in15)))
      refine lv_aload_n hx hb dX3_onePart_75 rfl (lv_at hl 4 rfl) ?_
      refine lv_sipush (v := 17201) hx hb dX3_onePart_76 (by decide) ?_
      refine lv_iload hx hb dX3_onePart_79 (lv_at hl 0 rfl) ?_
      refine callR_ip (va_runS (As := [.int 17201, .int x6]) (rest := [.ref (h 0)]) ⟨hx, hb, hml, hown, hts⟩ (c_X3_pick l dC dI h k _ σ20 17201 x6) (va_cwS 2 hts gX3_onePart_X3_pick rfl rfl rfl (by decide +kernel) ⟨Nat.le_of_ble_eq_true rfl, Nat.le_of_ble_eq_true rfl⟩) (preR_S hct hP hD hS) rfl rfl hl.1 rfl (lv_room (Nat.le_of_ble_eq_true rfl)) dX3_onePart_81 ⟨Nat.le_of_ble_eq_true rfl, Nat.le_of_ble_eq_true rfl⟩) hS (fun x21 H locs ex21 hP hD hS => ?_)
      refine callR_v (va_runV (As := [.int x21]) (rest := []) ⟨hx, hb, hml, hown, hts⟩ (c_X3_spend l dC dI h k _ σ20 x21) (cwV 1 hts gX3_onePart_X3_spend rfl rfl rfl (by decide +kernel) ⟨Nat.le_of_ble_eq_true rfl, Nat.le_of_ble_eq_true rfl⟩) (preR_V (ci := 3) (q0 := 0) hct hP hD hS rfl rfl) rfl rfl hl.1 rfl (lv_room (Nat.le_of_ble_eq_true rfl)) dX3_onePart_84 ⟨Nat.le_of_ble_eq_true rfl, Nat.le_of_ble_eq_true rfl⟩) hS (fun σ22 H locs eσ22 hP hD hS => ?_)
      have hIσ22 : okR σ22 := by rw [eσ22]; (repeat (first | with_reducible assumption | with_reducible exact okR_of hI rfl rfl rfl | with_reducible apply ok_X3_spend | with_reducible apply ok_X3_setRegister | with_reducible apply ok_X3_write | with_reducible apply ok_X3_number | with_reducible apply ok_X3_memory | with_reducible apply ok_X3_taken | with_reducible apply ok_X3_indexed | with_reducible apply ok_X3_joined | with_reducible apply ok_X3_push | with_reducible apply ok_X3_popped | with_reducible apply ok_X3_shifted | with_reducible apply ok_X3_register | with_reducible apply ok_X3_source | with_reducible apply in15 | (subst_vars; with_reducible apply in15)))
      refine lv_goto (tgt := 167) hx hb dX3_onePart_87 (by decide) ?_
      exact retR_v hx hb hr hlocks (by subst eσ22; subst ex21; subst eσ20; subst ex6; subst eσ5; subst ex3; subst ex2; subst ex1; exact (if_neg c4).trans (if_neg c7)) hP hD hS dX3_onePart_167
  · refine lv_aload_n hx hb dX3_onePart_26 rfl (lv_at hl 3 rfl) ?_
    refine lv_iconst (v := 2) hx hb dX3_onePart_27 (by decide) ?_
    refine lv_aload_n hx hb dX3_onePart_28 rfl (lv_at hl 3 rfl) ?_
    refine callR_i (va_runV (As := []) (rest := [.int 2, .ref (h 0)]) ⟨hx, hb, hml, hown, hts⟩ (c_X3_popped l dC dI h k _ σ  hI) (cwV 0 hts gX3_onePart_X3_popped rfl rfl rfl (by decide +kernel) ⟨Nat.le_of_ble_eq_true rfl, Nat.le_of_ble_eq_true rfl⟩) (preR_V (ci := 3) (q0 := 0) hct hP hD hS rfl rfl) rfl rfl hl.1 rfl (lv_room (Nat.le_of_ble_eq_true rfl)) dX3_onePart_29 ⟨Nat.le_of_ble_eq_true rfl, Nat.le_of_ble_eq_true rfl⟩) hS (fun x23 σ24 H locs ex23 eσ24 hP hD hS => ?_)
    have hIσ24 : okR σ24 := by rw [eσ24]; (repeat (first | with_reducible assumption | with_reducible exact okR_of hI rfl rfl rfl | with_reducible apply ok_X3_spend | with_reducible apply ok_X3_setRegister | with_reducible apply ok_X3_write | with_reducible apply ok_X3_number | with_reducible apply ok_X3_memory | with_reducible apply ok_X3_taken | with_reducible apply ok_X3_indexed | with_reducible apply ok_X3_joined | with_reducible apply ok_X3_push | with_reducible apply ok_X3_popped | with_reducible apply ok_X3_shifted | with_reducible apply ok_X3_register | with_reducible apply ok_X3_source | with_reducible apply in15 | (subst_vars; with_reducible apply in15)))
    refine callR_v (va_runV (As := [.int 2, .int x23]) (rest := []) ⟨hx, hb, hml, hown, hts⟩ (c_X3_setRegister l dC dI h k _ σ24 2 x23 (in_c (by decide))) (cwV 2 hts gX3_onePart_X3_setRegister rfl rfl rfl (by decide +kernel) ⟨Nat.le_of_ble_eq_true rfl, Nat.le_of_ble_eq_true rfl⟩) (preR_V (ci := 3) (q0 := 0) hct hP hD hS rfl rfl) rfl rfl hl.1 rfl (lv_room (Nat.le_of_ble_eq_true rfl)) dX3_onePart_32 ⟨Nat.le_of_ble_eq_true rfl, Nat.le_of_ble_eq_true rfl⟩) hS (fun σ25 H locs eσ25 hP hD hS => ?_)
    have hIσ25 : okR σ25 := by rw [eσ25]; (repeat (first | with_reducible assumption | with_reducible exact okR_of hI rfl rfl rfl | with_reducible apply ok_X3_spend | with_reducible apply ok_X3_setRegister | with_reducible apply ok_X3_write | with_reducible apply ok_X3_number | with_reducible apply ok_X3_memory | with_reducible apply ok_X3_taken | with_reducible apply ok_X3_indexed | with_reducible apply ok_X3_joined | with_reducible apply ok_X3_push | with_reducible apply ok_X3_popped | with_reducible apply ok_X3_shifted | with_reducible apply ok_X3_register | with_reducible apply ok_X3_source | with_reducible apply in15 | (subst_vars; with_reducible apply in15)))
    refine lv_aload_n hx hb dX3_onePart_35 rfl (lv_at hl 3 rfl) ?_
    refine lv_iconst (v := 0) hx hb dX3_onePart_36 (by decide) ?_
    refine lv_aload_n hx hb dX3_onePart_37 rfl (lv_at hl 3 rfl) ?_
    refine callR_i (va_runV (As := []) (rest := [.int 0, .ref (h 0)]) ⟨hx, hb, hml, hown, hts⟩ (c_X3_popped l dC dI h k _ σ25  hIσ25) (cwV 0 hts gX3_onePart_X3_popped rfl rfl rfl (by decide +kernel) ⟨Nat.le_of_ble_eq_true rfl, Nat.le_of_ble_eq_true rfl⟩) (preR_V (ci := 3) (q0 := 0) hct hP hD hS rfl rfl) rfl rfl hl.1 rfl (lv_room (Nat.le_of_ble_eq_true rfl)) dX3_onePart_38 ⟨Nat.le_of_ble_eq_true rfl, Nat.le_of_ble_eq_true rfl⟩) hS (fun x26 σ27 H locs ex26 eσ27 hP hD hS => ?_)
    have hIσ27 : okR σ27 := by rw [eσ27]; (repeat (first | with_reducible assumption | with_reducible exact okR_of hI rfl rfl rfl | with_reducible apply ok_X3_spend | with_reducible apply ok_X3_setRegister | with_reducible apply ok_X3_write | with_reducible apply ok_X3_number | with_reducible apply ok_X3_memory | with_reducible apply ok_X3_taken | with_reducible apply ok_X3_indexed | with_reducible apply ok_X3_joined | with_reducible apply ok_X3_push | with_reducible apply ok_X3_popped | with_reducible apply ok_X3_shifted | with_reducible apply ok_X3_register | with_reducible apply ok_X3_source | with_reducible apply in15 | (subst_vars; with_reducible apply in15)))
    refine callR_v (va_runV (As := [.int 0, .int x26]) (rest := []) ⟨hx, hb, hml, hown, hts⟩ (c_X3_setRegister l dC dI h k _ σ27 0 x26 (in_c (by decide))) (cwV 2 hts gX3_onePart_X3_setRegister rfl rfl rfl (by decide +kernel) ⟨Nat.le_of_ble_eq_true rfl, Nat.le_of_ble_eq_true rfl⟩) (preR_V (ci := 3) (q0 := 0) hct hP hD hS rfl rfl) rfl rfl hl.1 rfl (lv_room (Nat.le_of_ble_eq_true rfl)) dX3_onePart_41 ⟨Nat.le_of_ble_eq_true rfl, Nat.le_of_ble_eq_true rfl⟩) hS (fun σ28 H locs eσ28 hP hD hS => ?_)
    have hIσ28 : okR σ28 := by rw [eσ28]; (repeat (first | with_reducible assumption | with_reducible exact okR_of hI rfl rfl rfl | with_reducible apply ok_X3_spend | with_reducible apply ok_X3_setRegister | with_reducible apply ok_X3_write | with_reducible apply ok_X3_number | with_reducible apply ok_X3_memory | with_reducible apply ok_X3_taken | with_reducible apply ok_X3_indexed | with_reducible apply ok_X3_joined | with_reducible apply ok_X3_push | with_reducible apply ok_X3_popped | with_reducible apply ok_X3_shifted | with_reducible apply ok_X3_register | with_reducible apply ok_X3_source | with_reducible apply in15 | (subst_vars; with_reducible apply in15)))
    refine lv_aload_n hx hb dX3_onePart_44 rfl (lv_at hl 3 rfl) ?_
    refine lv_iconst (v := 5) hx hb dX3_onePart_45 (by decide) ?_
    refine callR_v (va_runV (As := [.int 5]) (rest := []) ⟨hx, hb, hml, hown, hts⟩ (c_X3_spend l dC dI h k _ σ28 5) (cwV 1 hts gX3_onePart_X3_spend rfl rfl rfl (by decide +kernel) ⟨Nat.le_of_ble_eq_true rfl, Nat.le_of_ble_eq_true rfl⟩) (preR_V (ci := 3) (q0 := 0) hct hP hD hS rfl rfl) rfl rfl hl.1 rfl (lv_room (Nat.le_of_ble_eq_true rfl)) dX3_onePart_46 ⟨Nat.le_of_ble_eq_true rfl, Nat.le_of_ble_eq_true rfl⟩) hS (fun σ29 H locs eσ29 hP hD hS => ?_)
    have hIσ29 : okR σ29 := by rw [eσ29]; (repeat (first | with_reducible assumption | with_reducible exact okR_of hI rfl rfl rfl | with_reducible apply ok_X3_spend | with_reducible apply ok_X3_setRegister | with_reducible apply ok_X3_write | with_reducible apply ok_X3_number | with_reducible apply ok_X3_memory | with_reducible apply ok_X3_taken | with_reducible apply ok_X3_indexed | with_reducible apply ok_X3_joined | with_reducible apply ok_X3_push | with_reducible apply ok_X3_popped | with_reducible apply ok_X3_shifted | with_reducible apply ok_X3_register | with_reducible apply ok_X3_source | with_reducible apply in15 | (subst_vars; with_reducible apply in15)))
    exact retR_v hx hb hr hlocks (by subst eσ29; subst eσ28; subst eσ27; subst ex26; subst eσ25; subst eσ24; subst ex23; subst ex3; subst ex2; subst ex1; exact if_pos c4) hP hD hS dX3_onePart_49

set_option maxHeartbeats 4000000 in
set_option maxRecDepth 100000 in
theorem c_X3_jumps (l : Launch) (dC : Nat → ClassId) (dI : Nat → Nat → Nat) (h : Nat → Nat) (k : Nat → ClassId) (sz : Nat) (σ : StR) (a1 : Int32) : Met l yX3_jumps wsX3_jumps ({ frames := 1, cells := 0, slots := 0, locals := 21 }) (PcR (dC, dI) h k [.ref (h 0), .int a1] sz σ) (va_Qi (fun r u => (r, u) = (f_X3_jumps σ a1, σ)) (BR (dC, dI) h k (AX 4 h sz)) (AX 4 h sz)) 0 0 (AX 4 h sz) := by
  refine Met.ofW (cc := cX3_jumps) (maxL := 2) (ret := (some .boolean)) (by decide) rfl ?_
  intro p e s m args below meth c s₁ B hml hv
  obtain ⟨rfl, rfl, hP, hct, hD⟩ := hv
  have hx := B.exec
  have hb := B.bytes
  have hr := B.returns
  have hts := atoms_spec (ws := wsX3_jumps) B.pre
  have hown : s.vm.findClass RX3 = some m.cls := findClass_of_methodNamed B.named
  have hlocks := B.notSynchronized
  have hK := hct.1
  have hS : va_S (AX 4 h s.heap.size) s.heap s.heap [] := va_S.rf
  have hl := lv_entry ([.ref (h 0), .int a1]) (n := 2) (Nat.le_of_ble_eq_true rfl)
  rw [lg_entry_eq]
  generalize (lg_sl ([.ref (h 0), .int a1]) ++ List.replicate (2 - (lg_sl ([.ref (h 0), .int a1])).length) Slot.unset).toArray = ls at hl ⊢
  have hl : lv_has ls 2 [(0, .ref (h 0)), (1, .int a1)] := hl
  refine lv_iload_n hx hb dX3_jumps_0 rfl (lv_at hl 1 rfl) ?_
  rcases Classical.em (a1 = 0) with c1 | c1
  · refine lv_tableIn (tgt := 44) hx hb dX3_jumps_1 (by rw [c1]; decide) (by rw [c1]; decide) (by rw [c1]; rfl) (by decide) ?_
    refine lv_aload_n hx hb dX3_jumps_44 rfl (lv_at hl 0 rfl) ?_
    refine lv_iconst (v := 2) hx hb dX3_jumps_45 (by decide) ?_
    refine callR_ip (va_runV (As := [.int 2]) (rest := []) ⟨hx, hb, hml, hown, hts⟩ (c_X3_flag l dC dI h k _ σ 2) (cwV 1 hts gX3_jumps_X3_flag rfl rfl rfl (by decide +kernel) ⟨Nat.le_of_ble_eq_true rfl, Nat.le_of_ble_eq_true rfl⟩) (preR_V (ci := 3) (q0 := 0) hct hP hD hS rfl rfl) rfl rfl hl.1 rfl (lv_room (Nat.le_of_ble_eq_true rfl)) dX3_jumps_46 ⟨Nat.le_of_ble_eq_true rfl, Nat.le_of_ble_eq_true rfl⟩) hS (fun x2 H locs ex2 hP hD hS => ?_)
    refine lv_if_ne (tgt := 56) hx hb dX3_jumps_49 (by decide) (fun c3 => ?_) (fun c3 => ?_)
    · refine lv_iconst (v := 0) hx hb dX3_jumps_56 (by decide) ?_
      exact retR_zp hx hb hr hlocks rfl (by subst ex2; exact (if_pos c1).trans (if_neg c3)) hP hD hS dX3_jumps_57
    · refine lv_iconst (v := 1) hx hb dX3_jumps_52 (by decide) ?_
      refine lv_goto (tgt := 57) hx hb dX3_jumps_53 (by decide) ?_
      exact retR_zp hx hb hr hlocks rfl (by subst ex2; exact (if_pos c1).trans (if_pos c3)) hP hD hS dX3_jumps_57
  · skip
    rcases Classical.em (a1 = 1) with c4 | c4
    · refine lv_tableIn (tgt := 58) hx hb dX3_jumps_1 (by rw [c4]; decide) (by rw [c4]; decide) (by rw [c4]; rfl) (by decide) ?_
      refine lv_aload_n hx hb dX3_jumps_58 rfl (lv_at hl 0 rfl) ?_
      refine lv_iconst (v := 2) hx hb dX3_jumps_59 (by decide) ?_
      refine callR_ip (va_runV (As := [.int 2]) (rest := []) ⟨hx, hb, hml, hown, hts⟩ (c_X3_flag l dC dI h k _ σ 2) (cwV 1 hts gX3_jumps_X3_flag rfl rfl rfl (by decide +kernel) ⟨Nat.le_of_ble_eq_true rfl, Nat.le_of_ble_eq_true rfl⟩) (preR_V (ci := 3) (q0 := 0) hct hP hD hS rfl rfl) rfl rfl hl.1 rfl (lv_room (Nat.le_of_ble_eq_true rfl)) dX3_jumps_60 ⟨Nat.le_of_ble_eq_true rfl, Nat.le_of_ble_eq_true rfl⟩) hS (fun x5 H locs ex5 hP hD hS => ?_)
      refine lv_iconst (v := 1) hx hb dX3_jumps_63 (by decide) ?_
      refine lv_icmp_ne (tgt := 71) hx hb dX3_jumps_64 (by decide) (fun c6 => ?_) (fun c6 => ?_)
      · refine lv_iconst (v := 0) hx hb dX3_jumps_71 (by decide) ?_
        exact retR_zp hx hb hr hlocks rfl (by subst ex5; exact (if_neg c1).trans ((if_pos c4).trans (if_neg c6))) hP hD hS dX3_jumps_72
      · refine lv_iconst (v := 1) hx hb dX3_jumps_67 (by decide) ?_
        refine lv_goto (tgt := 72) hx hb dX3_jumps_68 (by decide) ?_
        exact retR_zp hx hb hr hlocks rfl (by subst ex5; exact (if_neg c1).trans ((if_pos c4).trans (if_pos c6))) hP hD hS dX3_jumps_72
    · skip
      rcases Classical.em (a1 = 2) with c7 | c7
      · refine lv_tableIn (tgt := 73) hx hb dX3_jumps_1 (by rw [c7]; decide) (by rw [c7]; decide) (by rw [c7]; rfl) (by decide) ?_
        refine lv_aload_n hx hb dX3_jumps_73 rfl (lv_at hl 0 rfl) ?_
        refine lv_iconst (v := 1) hx hb dX3_jumps_74 (by decide) ?_
        refine callR_ip (va_runV (As := [.int 1]) (rest := []) ⟨hx, hb, hml, hown, hts⟩ (c_X3_flag l dC dI h k _ σ 1) (cwV 1 hts gX3_jumps_X3_flag rfl rfl rfl (by decide +kernel) ⟨Nat.le_of_ble_eq_true rfl, Nat.le_of_ble_eq_true rfl⟩) (preR_V (ci := 3) (q0 := 0) hct hP hD hS rfl rfl) rfl rfl hl.1 rfl (lv_room (Nat.le_of_ble_eq_true rfl)) dX3_jumps_75 ⟨Nat.le_of_ble_eq_true rfl, Nat.le_of_ble_eq_true rfl⟩) hS (fun x8 H locs ex8 hP hD hS => ?_)
        refine lv_if_ne (tgt := 85) hx hb dX3_jumps_78 (by decide) (fun c9 => ?_) (fun c9 => ?_)
        · refine lv_iconst (v := 0) hx hb dX3_jumps_85 (by decide) ?_
          exact retR_zp hx hb hr hlocks rfl (by subst ex8; exact (if_neg c1).trans ((if_neg c4).trans ((if_pos c7).trans (if_neg c9)))) hP hD hS dX3_jumps_86
        · refine lv_iconst (v := 1) hx hb dX3_jumps_81 (by decide) ?_
          refine lv_goto (tgt := 86) hx hb dX3_jumps_82 (by decide) ?_
          exact retR_zp hx hb hr hlocks rfl (by subst ex8; exact (if_neg c1).trans ((if_neg c4).trans ((if_pos c7).trans (if_pos c9)))) hP hD hS dX3_jumps_86
      · skip
        rcases Classical.em (a1 = 3) with c10 | c10
        · refine lv_tableIn (tgt := 87) hx hb dX3_jumps_1 (by rw [c10]; decide) (by rw [c10]; decide) (by rw [c10]; rfl) (by decide) ?_
          refine lv_aload_n hx hb dX3_jumps_87 rfl (lv_at hl 0 rfl) ?_
          refine lv_iconst (v := 1) hx hb dX3_jumps_88 (by decide) ?_
          refine callR_ip (va_runV (As := [.int 1]) (rest := []) ⟨hx, hb, hml, hown, hts⟩ (c_X3_flag l dC dI h k _ σ 1) (cwV 1 hts gX3_jumps_X3_flag rfl rfl rfl (by decide +kernel) ⟨Nat.le_of_ble_eq_true rfl, Nat.le_of_ble_eq_true rfl⟩) (preR_V (ci := 3) (q0 := 0) hct hP hD hS rfl rfl) rfl rfl hl.1 rfl (lv_room (Nat.le_of_ble_eq_true rfl)) dX3_jumps_89 ⟨Nat.le_of_ble_eq_true rfl, Nat.le_of_ble_eq_true rfl⟩) hS (fun x11 H locs ex11 hP hD hS => ?_)
          refine lv_iconst (v := 1) hx hb dX3_jumps_92 (by decide) ?_
          refine lv_icmp_ne (tgt := 100) hx hb dX3_jumps_93 (by decide) (fun c12 => ?_) (fun c12 => ?_)
          · refine lv_iconst (v := 0) hx hb dX3_jumps_100 (by decide) ?_
            exact retR_zp hx hb hr hlocks rfl (by subst ex11; exact (if_neg c1).trans ((if_neg c4).trans ((if_neg c7).trans ((if_pos c10).trans (if_neg c12))))) hP hD hS dX3_jumps_101
          · refine lv_iconst (v := 1) hx hb dX3_jumps_96 (by decide) ?_
            refine lv_goto (tgt := 101) hx hb dX3_jumps_97 (by decide) ?_
            exact retR_zp hx hb hr hlocks rfl (by subst ex11; exact (if_neg c1).trans ((if_neg c4).trans ((if_neg c7).trans ((if_pos c10).trans (if_pos c12))))) hP hD hS dX3_jumps_101
        · skip
          rcases Classical.em (a1 = 4) with c13 | c13
          · refine lv_tableIn (tgt := 102) hx hb dX3_jumps_1 (by rw [c13]; decide) (by rw [c13]; decide) (by rw [c13]; rfl) (by decide) ?_
            refine lv_aload_n hx hb dX3_jumps_102 rfl (lv_at hl 0 rfl) ?_
            refine lv_iconst (v := 4) hx hb dX3_jumps_103 (by decide) ?_
            refine callR_ip (va_runV (As := [.int 4]) (rest := []) ⟨hx, hb, hml, hown, hts⟩ (c_X3_flag l dC dI h k _ σ 4) (cwV 1 hts gX3_jumps_X3_flag rfl rfl rfl (by decide +kernel) ⟨Nat.le_of_ble_eq_true rfl, Nat.le_of_ble_eq_true rfl⟩) (preR_V (ci := 3) (q0 := 0) hct hP hD hS rfl rfl) rfl rfl hl.1 rfl (lv_room (Nat.le_of_ble_eq_true rfl)) dX3_jumps_104 ⟨Nat.le_of_ble_eq_true rfl, Nat.le_of_ble_eq_true rfl⟩) hS (fun x14 H locs ex14 hP hD hS => ?_)
            refine lv_iconst (v := 1) hx hb dX3_jumps_107 (by decide) ?_
            refine lv_icmp_ne (tgt := 115) hx hb dX3_jumps_108 (by decide) (fun c15 => ?_) (fun c15 => ?_)
            · refine lv_iconst (v := 0) hx hb dX3_jumps_115 (by decide) ?_
              exact retR_zp hx hb hr hlocks rfl (by subst ex14; exact (if_neg c1).trans ((if_neg c4).trans ((if_neg c7).trans ((if_neg c10).trans ((if_pos c13).trans (if_neg c15)))))) hP hD hS dX3_jumps_116
            · refine lv_iconst (v := 1) hx hb dX3_jumps_111 (by decide) ?_
              refine lv_goto (tgt := 116) hx hb dX3_jumps_112 (by decide) ?_
              exact retR_zp hx hb hr hlocks rfl (by subst ex14; exact (if_neg c1).trans ((if_neg c4).trans ((if_neg c7).trans ((if_neg c10).trans ((if_pos c13).trans (if_pos c15)))))) hP hD hS dX3_jumps_116
          · skip
            rcases Classical.em (a1 = 5) with c16 | c16
            · refine lv_tableIn (tgt := 117) hx hb dX3_jumps_1 (by rw [c16]; decide) (by rw [c16]; decide) (by rw [c16]; rfl) (by decide) ?_
              refine lv_aload_n hx hb dX3_jumps_117 rfl (lv_at hl 0 rfl) ?_
              refine lv_iconst (v := 4) hx hb dX3_jumps_118 (by decide) ?_
              refine callR_ip (va_runV (As := [.int 4]) (rest := []) ⟨hx, hb, hml, hown, hts⟩ (c_X3_flag l dC dI h k _ σ 4) (cwV 1 hts gX3_jumps_X3_flag rfl rfl rfl (by decide +kernel) ⟨Nat.le_of_ble_eq_true rfl, Nat.le_of_ble_eq_true rfl⟩) (preR_V (ci := 3) (q0 := 0) hct hP hD hS rfl rfl) rfl rfl hl.1 rfl (lv_room (Nat.le_of_ble_eq_true rfl)) dX3_jumps_119 ⟨Nat.le_of_ble_eq_true rfl, Nat.le_of_ble_eq_true rfl⟩) hS (fun x17 H locs ex17 hP hD hS => ?_)
              refine lv_aload_n hx hb dX3_jumps_122 rfl (lv_at hl 0 rfl) ?_
              refine lv_sipush (v := 256) hx hb dX3_jumps_123 (by decide) ?_
              refine callR_ip (va_runV (As := [.int 256]) (rest := [.int x17]) ⟨hx, hb, hml, hown, hts⟩ (c_X3_flag l dC dI h k _ σ 256) (cwV 1 hts gX3_jumps_X3_flag rfl rfl rfl (by decide +kernel) ⟨Nat.le_of_ble_eq_true rfl, Nat.le_of_ble_eq_true rfl⟩) (preR_V (ci := 3) (q0 := 0) hct hP hD hS rfl rfl) rfl rfl hl.1 rfl (lv_room (Nat.le_of_ble_eq_true rfl)) dX3_jumps_126 ⟨Nat.le_of_ble_eq_true rfl, Nat.le_of_ble_eq_true rfl⟩) hS (fun x18 H locs ex18 hP hD hS => ?_)
              refine lv_icmp_ne (tgt := 136) hx hb dX3_jumps_129 (by decide) (fun c19 => ?_) (fun c19 => ?_)
              · refine lv_iconst (v := 0) hx hb dX3_jumps_136 (by decide) ?_
                exact retR_zp hx hb hr hlocks rfl (by subst ex18; subst ex17; exact (if_neg c1).trans ((if_neg c4).trans ((if_neg c7).trans ((if_neg c10).trans ((if_neg c13).trans ((if_pos c16).trans (if_neg c19))))))) hP hD hS dX3_jumps_137
              · refine lv_iconst (v := 1) hx hb dX3_jumps_132 (by decide) ?_
                refine lv_goto (tgt := 137) hx hb dX3_jumps_133 (by decide) ?_
                exact retR_zp hx hb hr hlocks rfl (by subst ex18; subst ex17; exact (if_neg c1).trans ((if_neg c4).trans ((if_neg c7).trans ((if_neg c10).trans ((if_neg c13).trans ((if_pos c16).trans (if_pos c19))))))) hP hD hS dX3_jumps_137
            · skip
              rcases Classical.em (a1 = 6) with c20 | c20
              · refine lv_tableIn (tgt := 138) hx hb dX3_jumps_1 (by rw [c20]; decide) (by rw [c20]; decide) (by rw [c20]; rfl) (by decide) ?_
                refine lv_aload_n hx hb dX3_jumps_138 rfl (lv_at hl 0 rfl) ?_
                refine lv_iconst (v := 4) hx hb dX3_jumps_139 (by decide) ?_
                refine callR_ip (va_runV (As := [.int 4]) (rest := []) ⟨hx, hb, hml, hown, hts⟩ (c_X3_flag l dC dI h k _ σ 4) (cwV 1 hts gX3_jumps_X3_flag rfl rfl rfl (by decide +kernel) ⟨Nat.le_of_ble_eq_true rfl, Nat.le_of_ble_eq_true rfl⟩) (preR_V (ci := 3) (q0 := 0) hct hP hD hS rfl rfl) rfl rfl hl.1 rfl (lv_room (Nat.le_of_ble_eq_true rfl)) dX3_jumps_140 ⟨Nat.le_of_ble_eq_true rfl, Nat.le_of_ble_eq_true rfl⟩) hS (fun x21 H locs ex21 hP hD hS => ?_)
                refine lv_aload_n hx hb dX3_jumps_143 rfl (lv_at hl 0 rfl) ?_
                refine lv_sipush (v := 256) hx hb dX3_jumps_144 (by decide) ?_
                refine callR_ip (va_runV (As := [.int 256]) (rest := [.int x21]) ⟨hx, hb, hml, hown, hts⟩ (c_X3_flag l dC dI h k _ σ 256) (cwV 1 hts gX3_jumps_X3_flag rfl rfl rfl (by decide +kernel) ⟨Nat.le_of_ble_eq_true rfl, Nat.le_of_ble_eq_true rfl⟩) (preR_V (ci := 3) (q0 := 0) hct hP hD hS rfl rfl) rfl rfl hl.1 rfl (lv_room (Nat.le_of_ble_eq_true rfl)) dX3_jumps_147 ⟨Nat.le_of_ble_eq_true rfl, Nat.le_of_ble_eq_true rfl⟩) hS (fun x22 H locs ex22 hP hD hS => ?_)
                refine lv_icmp_eq (tgt := 157) hx hb dX3_jumps_150 (by decide) (fun c23 => ?_) (fun c23 => ?_)
                · refine lv_iconst (v := 0) hx hb dX3_jumps_157 (by decide) ?_
                  exact retR_zp hx hb hr hlocks rfl (by subst ex22; subst ex21; exact (if_neg c1).trans ((if_neg c4).trans ((if_neg c7).trans ((if_neg c10).trans ((if_neg c13).trans ((if_neg c16).trans ((if_pos c20).trans (if_pos c23)))))))) hP hD hS dX3_jumps_158
                · refine lv_iconst (v := 1) hx hb dX3_jumps_153 (by decide) ?_
                  refine lv_goto (tgt := 158) hx hb dX3_jumps_154 (by decide) ?_
                  exact retR_zp hx hb hr hlocks rfl (by subst ex22; subst ex21; exact (if_neg c1).trans ((if_neg c4).trans ((if_neg c7).trans ((if_neg c10).trans ((if_neg c13).trans ((if_neg c16).trans ((if_pos c20).trans (if_neg c23)))))))) hP hD hS dX3_jumps_158
              · skip
                have nc1 := i32ne (n := 0) (by decide) c1
                have nc4 := i32ne (n := 1) (by decide) c4
                have nc7 := i32ne (n := 2) (by decide) c7
                have nc10 := i32ne (n := 3) (by decide) c10
                have nc13 := i32ne (n := 4) (by decide) c13
                have nc16 := i32ne (n := 5) (by decide) c16
                have nc20 := i32ne (n := 6) (by decide) c20
                refine lv_tableOut (tgt := 159) hx hb dX3_jumps_1 (by omega) (by decide) ?_
                refine lv_iconst (v := 1) hx hb dX3_jumps_159 (by decide) ?_
                exact retR_zp hx hb hr hlocks rfl (by exact (if_neg c1).trans ((if_neg c4).trans ((if_neg c7).trans ((if_neg c10).trans ((if_neg c13).trans ((if_neg c16).trans (if_neg c20))))))) hP hD hS dX3_jumps_160

set_option maxHeartbeats 4000000 in
set_option maxRecDepth 100000 in
theorem c_X3_jump (l : Launch) (dC : Nat → ClassId) (dI : Nat → Nat → Nat) (h : Nat → Nat) (k : Nat → ClassId) (sz : Nat) (σ : StR) (a1 : Int32) : Met l yX3_jump wsX3_jump ({ frames := 2, cells := 0, slots := 0, locals := 42 }) (PcR (dC, dI) h k [.ref (h 0), .int a1] sz σ) (va_Qv (fun u => u = f_X3_jump σ a1) (BR (dC, dI) h k (AX 4 h sz)) (AX 4 h sz)) 0 0 (AX 4 h sz) := by
  refine Met.ofW (cc := cX3_jump) (maxL := 3) (ret := none) (by decide) rfl ?_
  intro p e s m args below meth c s₁ B hml hv
  obtain ⟨rfl, rfl, hP, hct, hD⟩ := hv
  have hx := B.exec
  have hb := B.bytes
  have hr := B.returns
  have hts := atoms_spec (ws := wsX3_jump) B.pre
  have hown : s.vm.findClass RX3 = some m.cls := findClass_of_methodNamed B.named
  have hlocks := B.notSynchronized
  have hK := hct.1
  have hS : va_S (AX 4 h s.heap.size) s.heap s.heap [] := va_S.rf
  have hl := lv_entry ([.ref (h 0), .int a1]) (n := 3) (Nat.le_of_ble_eq_true rfl)
  rw [lg_entry_eq]
  generalize (lg_sl ([.ref (h 0), .int a1]) ++ List.replicate (3 - (lg_sl ([.ref (h 0), .int a1])).length) Slot.unset).toArray = ls at hl ⊢
  have hl : lv_has ls 3 [(0, .ref (h 0)), (1, .int a1)] := hl
  refine lv_iload_n hx hb dX3_jump_0 rfl (lv_at hl 1 rfl) ?_
  refine lv_sipush (v := 1023) hx hb dX3_jump_1 (by decide) ?_
  refine lv_iand hx hb dX3_jump_4 ?_
  refine lv_iconst (v := 2) hx hb dX3_jump_5 (by decide) ?_
  refine lv_iload_n hx hb dX3_jump_6 rfl (lv_at hl 1 rfl) ?_
  refine lv_sipush (v := 512) hx hb dX3_jump_7 (by decide) ?_
  refine lv_iand hx hb dX3_jump_10 ?_
  refine lv_imul hx hb dX3_jump_11 ?_
  refine lv_isub hx hb dX3_jump_12 ?_
  refine lv_topi (fun x1 ex1 => ?_)
  refine lv_istore_n (lv' := [(2, .int x1), (0, .ref (h 0)), (1, .int a1)]) hx hb dX3_jump_13 rfl hl (by decide) rfl (fun ls hl => ?_)
  refine lv_aload_n hx hb dX3_jump_14 rfl (lv_at hl 1 rfl) ?_
  refine lv_iload_n hx hb dX3_jump_15 rfl (lv_at hl 2 rfl) ?_
  refine lv_bipush (v := 10) hx hb dX3_jump_16 (by decide) ?_
  refine lv_ishr hx hb dX3_jump_18 ?_
  refine lv_bipush (v := 7) hx hb dX3_jump_19 (by decide) ?_
  refine lv_iand hx hb dX3_jump_21 ?_
  refine callR_ip (va_runV (As := [.int ((a1 >>> ((10 : Int32) &&& 31)) &&& (7 : Int32))]) (rest := []) ⟨hx, hb, hml, hown, hts⟩ (c_X3_jumps l dC dI h k _ σ ((a1 >>> ((10 : Int32) &&& 31)) &&& (7 : Int32))) (cwV 1 hts gX3_jump_X3_jumps rfl rfl rfl (by decide +kernel) ⟨Nat.le_of_ble_eq_true rfl, Nat.le_of_ble_eq_true rfl⟩) (preR_V (ci := 3) (q0 := 0) hct hP hD hS rfl rfl) rfl rfl hl.1 rfl (lv_room (Nat.le_of_ble_eq_true rfl)) dX3_jump_22 ⟨Nat.le_of_ble_eq_true rfl, Nat.le_of_ble_eq_true rfl⟩) hS (fun x2 H locs ex2 hP hD hS => ?_)
  refine wj (α := StR) (D := (dC, dI)) (cl := vwCl) (A := AX 4 h s.heap.size) (H0 := s.heap) (if x2 = 0 then σ else let σ5 : StR := (f_X3_setRegister σ 0 ((σ.2.1 (0 : Int32).toNatClampNeg) + ((2 : Int32) * x1))); σ5) (fun v4 => wsR h k v4) (fun v4 => [(2, .int x1), (0, .ref (h 0)), (1, .int a1)]) 3 (fun v4 ls => F0 m 43 ls []) ?_ ?_
  · intro v4 ls H locs ev4 hl hP hD hS
    try dsimp only at hl hP hD ⊢
    refine lv_aload_n hx hb dX3_jump_43 rfl (lv_at hl 1 rfl) ?_
    refine lv_iconst (v := 2) hx hb dX3_jump_44 (by decide) ?_
    refine callR_v (va_runV (As := [.int 2]) (rest := []) ⟨hx, hb, hml, hown, hts⟩ (c_X3_spend l dC dI h k _ v4 2) (cwV 1 hts gX3_jump_X3_spend rfl rfl rfl (by decide +kernel) ⟨Nat.le_of_ble_eq_true rfl, Nat.le_of_ble_eq_true rfl⟩) (preR_V (ci := 3) (q0 := 0) hct hP hD hS rfl rfl) rfl rfl hl.1 rfl (lv_room (Nat.le_of_ble_eq_true rfl)) dX3_jump_45 ⟨Nat.le_of_ble_eq_true rfl, Nat.le_of_ble_eq_true rfl⟩) hS (fun σ5 H locs eσ5 hP hD hS => ?_)
    exact retR_v hx hb hr hlocks (by subst eσ5; subst ev4; subst ex2; subst ex1; exact rfl) hP hD hS dX3_jump_48
  · intro J
    refine lv_if_eq (tgt := 43) hx hb dX3_jump_25 (by decide) (fun c3 => ?_) (fun c3 => ?_)
    · exact J (σ) ls _ _ (by exact (if_pos c3).symm) (lv_sub hl [0, 1, 2] rfl) hP hD hS
    · refine lv_aload_n hx hb dX3_jump_28 rfl (lv_at hl 1 rfl) ?_
      refine lv_iconst (v := 0) hx hb dX3_jump_29 (by decide) ?_
      refine lv_aload_n hx hb dX3_jump_30 rfl (lv_at hl 1 rfl) ?_
      refine va_get (D := (dC, dI)) (ci := 3) (v := .ref (h 2)) (C := RX3) (T := TX3) (N := 9) hx hb hts (fun _ h9 => List.mem_cons_of_mem _ (List.mem_append_right _ h9)) hown hK hP 0 rfl rfl 1 (by decide) (hts (.fieldLink RX3 14 "LowPowerCpuModel" "\x72" "[I") (by decide +kernel)) (fun _ h9 => h9) rfl dX3_jump_31 ?_
      refine lv_iconst (v := 0) hx hb dX3_jump_34 (by decide) ?_
      refine va_iald hx hb hK hP 2 0 rfl rfl (in_c (by decide)) dX3_jump_35 ?_
      refine lv_iconst (v := 2) hx hb dX3_jump_36 (by decide) ?_
      refine lv_iload_n hx hb dX3_jump_37 rfl (lv_at hl 0 rfl) ?_
      refine lv_imul hx hb dX3_jump_38 ?_
      refine lv_iadd hx hb dX3_jump_39 ?_
      refine callR_v (va_runV (As := [.int 0, .int ((σ.2.1 (0 : Int32).toNatClampNeg) + ((2 : Int32) * x1))]) (rest := []) ⟨hx, hb, hml, hown, hts⟩ (c_X3_setRegister l dC dI h k _ σ 0 ((σ.2.1 (0 : Int32).toNatClampNeg) + ((2 : Int32) * x1)) (in_c (by decide))) (cwV 2 hts gX3_jump_X3_setRegister rfl rfl rfl (by decide +kernel) ⟨Nat.le_of_ble_eq_true rfl, Nat.le_of_ble_eq_true rfl⟩) (preR_V (ci := 3) (q0 := 0) hct hP hD hS rfl rfl) rfl rfl hl.1 rfl (lv_room (Nat.le_of_ble_eq_true rfl)) dX3_jump_40 ⟨Nat.le_of_ble_eq_true rfl, Nat.le_of_ble_eq_true rfl⟩) hS (fun σ6 H locs eσ6 hP hD hS => ?_)
      exact J (σ6) ls _ _ (by subst eσ6; exact (if_neg c3).symm) (lv_sub hl [0, 1, 2] rfl) hP hD hS

set_option maxHeartbeats 4000000 in
set_option maxRecDepth 100000 in
theorem c_X3_interrupt (l : Launch) (dC : Nat → ClassId) (dI : Nat → Nat → Nat) (h : Nat → Nat) (k : Nat → ClassId) (sz : Nat) (σ : StR) (hL : ¬ σ.2.2.2.2.1 = 0) (hI : okR σ) : Met l yX3_interrupt wsX3_interrupt ({ frames := 5, cells := 0, slots := 0, locals := 117 }) (PcR (dC, dI) h k [.ref (h 0)] sz σ) (va_Qv (fun u => u = f_X3_interrupt σ) (BR (dC, dI) h k (AX 4 h sz)) (AX 4 h sz)) 0 0 (AX 4 h sz) := by
  refine Met.ofW (cc := cX3_interrupt) (maxL := 2) (ret := none) (by decide) rfl ?_
  intro p e s m args below meth c s₁ B hml hv
  obtain ⟨rfl, rfl, hP, hct, hD⟩ := hv
  have hx := B.exec
  have hb := B.bytes
  have hr := B.returns
  have hts := atoms_spec (ws := wsX3_interrupt) B.pre
  have hown : s.vm.findClass RX3 = some m.cls := findClass_of_methodNamed B.named
  have hlocks := B.notSynchronized
  have hK := hct.1
  have hS : va_S (AX 4 h s.heap.size) s.heap s.heap [] := va_S.rf
  have hl := lv_entry ([.ref (h 0)]) (n := 2) (Nat.le_of_ble_eq_true rfl)
  rw [lg_entry_eq]
  generalize (lg_sl ([.ref (h 0)]) ++ List.replicate (2 - (lg_sl ([.ref (h 0)])).length) Slot.unset).toArray = ls at hl ⊢
  have hl : lv_has ls 2 [(0, .ref (h 0))] := hl
  refine lv_bipush (v := 13) hx hb dX3_interrupt_0 (by decide) ?_
  refine lv_istore_n (lv' := [(1, .int 13), (0, .ref (h 0))]) hx hb dX3_interrupt_2 rfl hl (by decide) rfl (fun ls hl => ?_)
  refine lv_aload_n hx hb dX3_interrupt_3 rfl (lv_at hl 1 rfl) ?_
  refine va_get (D := (dC, dI)) (ci := 3) (v := .int σ.2.2.2.2.1) (C := RX3) (T := TX3) (N := 9) hx hb hts (fun _ h9 => List.mem_cons_of_mem _ (List.mem_append_right _ h9)) hown hK hP 0 rfl rfl 4 (by decide) (hts (.fieldLink RX3 28 "LowPowerCpuModel" "lines" "I") (by decide +kernel)) (fun _ h9 => h9) rfl dX3_interrupt_4 ?_
  refine lv_iload_n hx hb dX3_interrupt_7 rfl (lv_at hl 0 rfl) ?_
  refine lv_ishr hx hb dX3_interrupt_8 ?_
  refine lv_iconst (v := 1) hx hb dX3_interrupt_9 (by decide) ?_
  refine lv_iand hx hb dX3_interrupt_10 ?_
  refine wj (α := Int32) (D := (dC, dI)) (cl := vwCl) (A := AX 4 h s.heap.size) (H0 := s.heap) (if ((σ.2.2.2.2.1 >>> ((13 : Int32) &&& 31)) &&& (1 : Int32)) = 0 then if ((σ.2.2.2.2.1 >>> ((12 : Int32) &&& 31)) &&& (1 : Int32)) = 0 then if ((σ.2.2.2.2.1 >>> ((11 : Int32) &&& 31)) &&& (1 : Int32)) = 0 then if ((σ.2.2.2.2.1 >>> ((10 : Int32) &&& 31)) &&& (1 : Int32)) = 0 then if ((σ.2.2.2.2.1 >>> ((9 : Int32) &&& 31)) &&& (1 : Int32)) = 0 then if ((σ.2.2.2.2.1 >>> ((8 : Int32) &&& 31)) &&& (1 : Int32)) = 0 then if ((σ.2.2.2.2.1 >>> ((7 : Int32) &&& 31)) &&& (1 : Int32)) = 0 then if ((σ.2.2.2.2.1 >>> ((6 : Int32) &&& 31)) &&& (1 : Int32)) = 0 then if ((σ.2.2.2.2.1 >>> ((5 : Int32) &&& 31)) &&& (1 : Int32)) = 0 then if ((σ.2.2.2.2.1 >>> ((4 : Int32) &&& 31)) &&& (1 : Int32)) = 0 then if ((σ.2.2.2.2.1 >>> ((3 : Int32) &&& 31)) &&& (1 : Int32)) = 0 then if ((σ.2.2.2.2.1 >>> ((2 : Int32) &&& 31)) &&& (1 : Int32)) = 0 then if ((σ.2.2.2.2.1 >>> ((1 : Int32) &&& 31)) &&& (1 : Int32)) = 0 then 0 else 1 else 2 else 3 else 4 else 5 else 6 else 7 else 8 else 9 else 10 else 11 else 12 else 13) (fun v2 => wsR h k σ) (fun v2 => [(1, .int v2), (0, .ref (h 0))]) 2 (fun v2 ls => F0 m 20 ls []) ?_ ?_
  · intro v2 ls H locs ev2 hl hP hD hS
    try dsimp only at hl hP hD ⊢
    refine lv_aload_n hx hb dX3_interrupt_20 rfl (lv_at hl 1 rfl) ?_
    refine lv_iconst (v := 0) hx hb dX3_interrupt_21 (by decide) ?_
    refine va_put (D := (dC, dI)) (ci := 3) (v := .int 0) (ty := .boolean) (C := RX3) (T := TX3) (N := 9) hx hb hts (fun _ h9 => List.mem_cons_of_mem _ (List.mem_append_right _ h9)) tyX3 tyX3_ok nmX3 hown hK hP hD hS 0 rfl rfl 8 (by decide) (hts (.fieldLink RX3 51 "LowPowerCpuModel" "bytes" "Z") (by decide +kernel)) (fun _ h9 => h9) rfl (by decide +kernel) rfl rfl (Nat.le_of_ble_eq_true rfl) dX3_interrupt_22 (fun H locs hP hD hS => ?_)
    have hP : va_P (dC, dI) vwCl (wsR h k (σ.1, σ.2.1, σ.2.2.1, σ.2.2.2.1, σ.2.2.2.2.1, σ.2.2.2.2.2.1, σ.2.2.2.2.2.2.1, σ.2.2.2.2.2.2.2.1, 0)) H := hP
    have hD : va_D (AX 4 h s.heap.size) (wsR h k (σ.1, σ.2.1, σ.2.2.1, σ.2.2.2.1, σ.2.2.2.2.1, σ.2.2.2.2.2.1, σ.2.2.2.2.2.2.1, σ.2.2.2.2.2.2.2.1, 0)) := hD
    refine lv_aload_n hx hb dX3_interrupt_25 rfl (lv_at hl 1 rfl) ?_
    refine lv_aload_n hx hb dX3_interrupt_26 rfl (lv_at hl 1 rfl) ?_
    refine va_get (D := (dC, dI)) (ci := 3) (v := .ref (h 2)) (C := RX3) (T := TX3) (N := 9) hx hb hts (fun _ h9 => List.mem_cons_of_mem _ (List.mem_append_right _ h9)) hown hK hP 0 rfl rfl 1 (by decide) (hts (.fieldLink RX3 14 "LowPowerCpuModel" "\x72" "[I") (by decide +kernel)) (fun _ h9 => h9) rfl dX3_interrupt_27 ?_
    refine lv_iconst (v := 0) hx hb dX3_interrupt_30 (by decide) ?_
    refine va_iald hx hb hK hP 2 0 rfl rfl (in_c (by decide)) dX3_interrupt_31 ?_
    refine callR_v (va_runV (As := [.int (σ.2.1 (0 : Int32).toNatClampNeg)]) (rest := []) ⟨hx, hb, hml, hown, hts⟩ (c_X3_push l dC dI h k _ (σ.1, σ.2.1, σ.2.2.1, σ.2.2.2.1, σ.2.2.2.2.1, σ.2.2.2.2.2.1, σ.2.2.2.2.2.2.1, σ.2.2.2.2.2.2.2.1, 0) (σ.2.1 (0 : Int32).toNatClampNeg) (okR_of hI rfl rfl rfl)) (cwV 1 hts gX3_interrupt_X3_push rfl rfl rfl (by decide +kernel) ⟨Nat.le_of_ble_eq_true rfl, Nat.le_of_ble_eq_true rfl⟩) (preR_V (ci := 3) (q0 := 0) hct hP hD hS rfl rfl) rfl rfl hl.1 rfl (lv_room (Nat.le_of_ble_eq_true rfl)) dX3_interrupt_32 ⟨Nat.le_of_ble_eq_true rfl, Nat.le_of_ble_eq_true rfl⟩) hS (fun σ3 H locs eσ3 hP hD hS => ?_)
    have hIσ3 : okR σ3 := by rw [eσ3]; (repeat (first | with_reducible assumption | with_reducible exact okR_of hI rfl rfl rfl | with_reducible apply ok_X3_spend | with_reducible apply ok_X3_setRegister | with_reducible apply ok_X3_write | with_reducible apply ok_X3_number | with_reducible apply ok_X3_memory | with_reducible apply ok_X3_taken | with_reducible apply ok_X3_indexed | with_reducible apply ok_X3_joined | with_reducible apply ok_X3_push | with_reducible apply ok_X3_popped | with_reducible apply ok_X3_shifted | with_reducible apply ok_X3_register | with_reducible apply ok_X3_source | with_reducible apply in15 | (subst_vars; with_reducible apply in15)))
    refine lv_aload_n hx hb dX3_interrupt_35 rfl (lv_at hl 1 rfl) ?_
    refine lv_aload_n hx hb dX3_interrupt_36 rfl (lv_at hl 1 rfl) ?_
    refine va_get (D := (dC, dI)) (ci := 3) (v := .ref (h 2)) (C := RX3) (T := TX3) (N := 9) hx hb hts (fun _ h9 => List.mem_cons_of_mem _ (List.mem_append_right _ h9)) hown hK hP 0 rfl rfl 1 (by decide) (hts (.fieldLink RX3 14 "LowPowerCpuModel" "\x72" "[I") (by decide +kernel)) (fun _ h9 => h9) rfl dX3_interrupt_37 ?_
    refine lv_iconst (v := 2) hx hb dX3_interrupt_40 (by decide) ?_
    refine va_iald hx hb hK hP 2 0 rfl rfl (in_c (by decide)) dX3_interrupt_41 ?_
    refine callR_v (va_runV (As := [.int (σ3.2.1 (2 : Int32).toNatClampNeg)]) (rest := []) ⟨hx, hb, hml, hown, hts⟩ (c_X3_push l dC dI h k _ σ3 (σ3.2.1 (2 : Int32).toNatClampNeg) hIσ3) (cwV 1 hts gX3_interrupt_X3_push rfl rfl rfl (by decide +kernel) ⟨Nat.le_of_ble_eq_true rfl, Nat.le_of_ble_eq_true rfl⟩) (preR_V (ci := 3) (q0 := 0) hct hP hD hS rfl rfl) rfl rfl hl.1 rfl (lv_room (Nat.le_of_ble_eq_true rfl)) dX3_interrupt_42 ⟨Nat.le_of_ble_eq_true rfl, Nat.le_of_ble_eq_true rfl⟩) hS (fun σ4 H locs eσ4 hP hD hS => ?_)
    have hIσ4 : okR σ4 := by rw [eσ4]; (repeat (first | with_reducible assumption | with_reducible exact okR_of hI rfl rfl rfl | with_reducible apply ok_X3_spend | with_reducible apply ok_X3_setRegister | with_reducible apply ok_X3_write | with_reducible apply ok_X3_number | with_reducible apply ok_X3_memory | with_reducible apply ok_X3_taken | with_reducible apply ok_X3_indexed | with_reducible apply ok_X3_joined | with_reducible apply ok_X3_push | with_reducible apply ok_X3_popped | with_reducible apply ok_X3_shifted | with_reducible apply ok_X3_register | with_reducible apply ok_X3_source | with_reducible apply in15 | (subst_vars; with_reducible apply in15)))
    refine lv_aload_n hx hb dX3_interrupt_45 rfl (lv_at hl 1 rfl) ?_
    refine lv_dup hx hb dX3_interrupt_46 rfl ?_
    refine va_get (D := (dC, dI)) (ci := 3) (v := .int σ4.2.2.2.2.1) (C := RX3) (T := TX3) (N := 9) hx hb hts (fun _ h9 => List.mem_cons_of_mem _ (List.mem_append_right _ h9)) hown hK hP 0 rfl rfl 4 (by decide) (hts (.fieldLink RX3 28 "LowPowerCpuModel" "lines" "I") (by decide +kernel)) (fun _ h9 => h9) rfl dX3_interrupt_47 ?_
    refine lv_iconst (v := 1) hx hb dX3_interrupt_50 (by decide) ?_
    refine lv_iload_n hx hb dX3_interrupt_51 rfl (lv_at hl 0 rfl) ?_
    refine lv_ishl hx hb dX3_interrupt_52 ?_
    refine lv_ixor hx hb dX3_interrupt_53 ?_
    refine lv_topi (fun x5 ex5 => ?_)
    refine va_put (D := (dC, dI)) (ci := 3) (v := .int x5) (ty := .int) (C := RX3) (T := TX3) (N := 9) hx hb hts (fun _ h9 => List.mem_cons_of_mem _ (List.mem_append_right _ h9)) tyX3 tyX3_ok nmX3 hown hK hP hD hS 0 rfl rfl 4 (by decide) (hts (.fieldLink RX3 28 "LowPowerCpuModel" "lines" "I") (by decide +kernel)) (fun _ h9 => h9) rfl (by decide +kernel) rfl rfl (Nat.le_of_ble_eq_true rfl) dX3_interrupt_54 (fun H locs hP hD hS => ?_)
    have hP : va_P (dC, dI) vwCl (wsR h k (σ4.1, σ4.2.1, σ4.2.2.1, σ4.2.2.2.1, x5, σ4.2.2.2.2.2.1, σ4.2.2.2.2.2.2.1, σ4.2.2.2.2.2.2.2.1, σ4.2.2.2.2.2.2.2.2)) H := hP
    have hD : va_D (AX 4 h s.heap.size) (wsR h k (σ4.1, σ4.2.1, σ4.2.2.1, σ4.2.2.2.1, x5, σ4.2.2.2.2.2.1, σ4.2.2.2.2.2.2.1, σ4.2.2.2.2.2.2.2.1, σ4.2.2.2.2.2.2.2.2)) := hD
    refine lv_aload_n hx hb dX3_interrupt_57 rfl (lv_at hl 1 rfl) ?_
    refine va_get (D := (dC, dI)) (ci := 3) (v := .ref (h 2)) (C := RX3) (T := TX3) (N := 9) hx hb hts (fun _ h9 => List.mem_cons_of_mem _ (List.mem_append_right _ h9)) hown hK hP 0 rfl rfl 1 (by decide) (hts (.fieldLink RX3 14 "LowPowerCpuModel" "\x72" "[I") (by decide +kernel)) (fun _ h9 => h9) rfl dX3_interrupt_58 ?_
    refine lv_iconst (v := 2) hx hb dX3_interrupt_61 (by decide) ?_
    refine lv_dup2_11 hx hb dX3_interrupt_62 rfl rfl ?_
    refine va_iald hx hb hK hP 2 0 rfl rfl (in_c (by decide)) dX3_interrupt_63 ?_
    refine lv_bipush (v := 64) hx hb dX3_interrupt_64 (by decide) ?_
    refine lv_iand hx hb dX3_interrupt_66 ?_
    refine lv_topi (fun x6 ex6 => ?_)
    refine va_iast hx hb hK hP hD hS 2 0 rfl rfl (in_c (by decide)) dX3_interrupt_67 (fun H locs hP hD hS => ?_)
    have hP : va_P (dC, dI) vwCl (wsR h k (σ4.1, upd σ4.2.1 ((2 : Int32).toNatClampNeg) x6, σ4.2.2.1, σ4.2.2.2.1, x5, σ4.2.2.2.2.2.1, σ4.2.2.2.2.2.2.1, σ4.2.2.2.2.2.2.2.1, σ4.2.2.2.2.2.2.2.2)) H := hP
    have hD : va_D (AX 4 h s.heap.size) (wsR h k (σ4.1, upd σ4.2.1 ((2 : Int32).toNatClampNeg) x6, σ4.2.2.1, σ4.2.2.2.1, x5, σ4.2.2.2.2.2.1, σ4.2.2.2.2.2.2.1, σ4.2.2.2.2.2.2.2.1, σ4.2.2.2.2.2.2.2.2)) := hD
    refine lv_aload_n hx hb dX3_interrupt_68 rfl (lv_at hl 1 rfl) ?_
    refine lv_iconst (v := 0) hx hb dX3_interrupt_69 (by decide) ?_
    refine lv_aload_n hx hb dX3_interrupt_70 rfl (lv_at hl 1 rfl) ?_
    refine lv_ldc (v := 65504) hx hb hown (hts (.constant RX3 161 65504) (by decide +kernel)) dX3_interrupt_71 ?_
    refine lv_iconst (v := 2) hx hb dX3_interrupt_73 (by decide) ?_
    refine lv_iload_n hx hb dX3_interrupt_74 rfl (lv_at hl 0 rfl) ?_
    refine lv_imul hx hb dX3_interrupt_75 ?_
    refine lv_iadd hx hb dX3_interrupt_76 ?_
    refine callR_ip (va_runV (As := [.int ((65504 : Int32) + ((2 : Int32) * v2))]) (rest := [.int 0, .ref (h 0)]) ⟨hx, hb, hml, hown, hts⟩ (c_X3_wordAt l dC dI h k _ (σ4.1, upd σ4.2.1 ((2 : Int32).toNatClampNeg) x6, σ4.2.2.1, σ4.2.2.2.1, x5, σ4.2.2.2.2.2.1, σ4.2.2.2.2.2.2.1, σ4.2.2.2.2.2.2.2.1, σ4.2.2.2.2.2.2.2.2) ((65504 : Int32) + ((2 : Int32) * v2)) (by rw [ev2]; repeat' (first | exact in_c (by decide) | refine ite_p (fun z : Int32 => vp_in ((65504 : Int32) + ((2 : Int32) * z)) 65536) ?_ ?_))) (cwV 1 hts gX3_interrupt_X3_wordAt rfl rfl rfl (by decide +kernel) ⟨Nat.le_of_ble_eq_true rfl, Nat.le_of_ble_eq_true rfl⟩) (preR_V (ci := 3) (q0 := 0) hct hP hD hS rfl rfl) rfl rfl hl.1 rfl (lv_room (Nat.le_of_ble_eq_true rfl)) dX3_interrupt_77 ⟨Nat.le_of_ble_eq_true rfl, Nat.le_of_ble_eq_true rfl⟩) hS (fun x7 H locs ex7 hP hD hS => ?_)
    refine callR_v (va_runV (As := [.int 0, .int x7]) (rest := []) ⟨hx, hb, hml, hown, hts⟩ (c_X3_setRegister l dC dI h k _ (σ4.1, upd σ4.2.1 ((2 : Int32).toNatClampNeg) x6, σ4.2.2.1, σ4.2.2.2.1, x5, σ4.2.2.2.2.2.1, σ4.2.2.2.2.2.2.1, σ4.2.2.2.2.2.2.2.1, σ4.2.2.2.2.2.2.2.2) 0 x7 (in_c (by decide))) (cwV 2 hts gX3_interrupt_X3_setRegister rfl rfl rfl (by decide +kernel) ⟨Nat.le_of_ble_eq_true rfl, Nat.le_of_ble_eq_true rfl⟩) (preR_V (ci := 3) (q0 := 0) hct hP hD hS rfl rfl) rfl rfl hl.1 rfl (lv_room (Nat.le_of_ble_eq_true rfl)) dX3_interrupt_80 ⟨Nat.le_of_ble_eq_true rfl, Nat.le_of_ble_eq_true rfl⟩) hS (fun σ8 H locs eσ8 hP hD hS => ?_)
    refine lv_aload_n hx hb dX3_interrupt_83 rfl (lv_at hl 1 rfl) ?_
    refine lv_bipush (v := 6) hx hb dX3_interrupt_84 (by decide) ?_
    refine callR_v (va_runV (As := [.int 6]) (rest := []) ⟨hx, hb, hml, hown, hts⟩ (c_X3_spend l dC dI h k _ σ8 6) (cwV 1 hts gX3_interrupt_X3_spend rfl rfl rfl (by decide +kernel) ⟨Nat.le_of_ble_eq_true rfl, Nat.le_of_ble_eq_true rfl⟩) (preR_V (ci := 3) (q0 := 0) hct hP hD hS rfl rfl) rfl rfl hl.1 rfl (lv_room (Nat.le_of_ble_eq_true rfl)) dX3_interrupt_86 ⟨Nat.le_of_ble_eq_true rfl, Nat.le_of_ble_eq_true rfl⟩) hS (fun σ9 H locs eσ9 hP hD hS => ?_)
    exact retR_v hx hb hr hlocks (by subst eσ9; subst eσ8; subst ex7; subst ex6; subst ex5; subst eσ4; subst eσ3; subst ev2; exact rfl) hP hD hS dX3_interrupt_89
  · intro J
    refine lv_if_ne (tgt := 20) hx hb dX3_interrupt_11 (by decide) (fun c1 => ?_) (fun c1 => ?_)
    · exact J (13) ls _ _ (by exact (if_neg c1).symm) (lv_sub hl [0, 1] rfl) hP hD hS
    · -- iinc
      refine lv_iinc (v := 12) (lv' := [(1, .int 12), (0, .ref (h 0))]) hx hb dX3_interrupt_14 hl (k := 0) rfl (by decide) (by decide) rfl (fun ls hl => ?_)
      refine lv_goto (tgt := 3) hx hb dX3_interrupt_17 (by decide) ?_
      refine lv_aload_n hx hb dX3_interrupt_3 rfl (lv_at hl 1 rfl) ?_
      refine va_get (D := (dC, dI)) (ci := 3) (v := .int σ.2.2.2.2.1) (C := RX3) (T := TX3) (N := 9) hx hb hts (fun _ h9 => List.mem_cons_of_mem _ (List.mem_append_right _ h9)) hown hK hP 0 rfl rfl 4 (by decide) (hts (.fieldLink RX3 28 "LowPowerCpuModel" "lines" "I") (by decide +kernel)) (fun _ h9 => h9) rfl dX3_interrupt_4 ?_
      refine lv_iload_n hx hb dX3_interrupt_7 rfl (lv_at hl 0 rfl) ?_
      refine lv_ishr hx hb dX3_interrupt_8 ?_
      refine lv_iconst (v := 1) hx hb dX3_interrupt_9 (by decide) ?_
      refine lv_iand hx hb dX3_interrupt_10 ?_
      refine lv_if_ne (tgt := 20) hx hb dX3_interrupt_11 (by decide) (fun c10 => ?_) (fun c10 => ?_)
      · exact J (12) ls _ _ (by exact ((if_pos c1).trans (if_neg c10)).symm) (lv_sub hl [0, 1] rfl) hP hD hS
      · -- iinc
        refine lv_iinc (v := 11) (lv' := [(1, .int 11), (0, .ref (h 0))]) hx hb dX3_interrupt_14 hl (k := 0) rfl (by decide) (by decide) rfl (fun ls hl => ?_)
        refine lv_goto (tgt := 3) hx hb dX3_interrupt_17 (by decide) ?_
        refine lv_aload_n hx hb dX3_interrupt_3 rfl (lv_at hl 1 rfl) ?_
        refine va_get (D := (dC, dI)) (ci := 3) (v := .int σ.2.2.2.2.1) (C := RX3) (T := TX3) (N := 9) hx hb hts (fun _ h9 => List.mem_cons_of_mem _ (List.mem_append_right _ h9)) hown hK hP 0 rfl rfl 4 (by decide) (hts (.fieldLink RX3 28 "LowPowerCpuModel" "lines" "I") (by decide +kernel)) (fun _ h9 => h9) rfl dX3_interrupt_4 ?_
        refine lv_iload_n hx hb dX3_interrupt_7 rfl (lv_at hl 0 rfl) ?_
        refine lv_ishr hx hb dX3_interrupt_8 ?_
        refine lv_iconst (v := 1) hx hb dX3_interrupt_9 (by decide) ?_
        refine lv_iand hx hb dX3_interrupt_10 ?_
        refine lv_if_ne (tgt := 20) hx hb dX3_interrupt_11 (by decide) (fun c11 => ?_) (fun c11 => ?_)
        · exact J (11) ls _ _ (by exact ((if_pos c1).trans ((if_pos c10).trans (if_neg c11))).symm) (lv_sub hl [0, 1] rfl) hP hD hS
        · -- iinc
          refine lv_iinc (v := 10) (lv' := [(1, .int 10), (0, .ref (h 0))]) hx hb dX3_interrupt_14 hl (k := 0) rfl (by decide) (by decide) rfl (fun ls hl => ?_)
          refine lv_goto (tgt := 3) hx hb dX3_interrupt_17 (by decide) ?_
          refine lv_aload_n hx hb dX3_interrupt_3 rfl (lv_at hl 1 rfl) ?_
          refine va_get (D := (dC, dI)) (ci := 3) (v := .int σ.2.2.2.2.1) (C := RX3) (T := TX3) (N := 9) hx hb hts (fun _ h9 => List.mem_cons_of_mem _ (List.mem_append_right _ h9)) hown hK hP 0 rfl rfl 4 (by decide) (hts (.fieldLink RX3 28 "LowPowerCpuModel" "lines" "I") (by decide +kernel)) (fun _ h9 => h9) rfl dX3_interrupt_4 ?_
          refine lv_iload_n hx hb dX3_interrupt_7 rfl (lv_at hl 0 rfl) ?_
          refine lv_ishr hx hb dX3_interrupt_8 ?_
          refine lv_iconst (v := 1) hx hb dX3_interrupt_9 (by decide) ?_
          refine lv_iand hx hb dX3_interrupt_10 ?_
          refine lv_if_ne (tgt := 20) hx hb dX3_interrupt_11 (by decide) (fun c12 => ?_) (fun c12 => ?_)
          · exact J (10) ls _ _ (by exact ((if_pos c1).trans ((if_pos c10).trans ((if_pos c11).trans (if_neg c12)))).symm) (lv_sub hl [0, 1] rfl) hP hD hS
          · -- iinc
            refine lv_iinc (v := 9) (lv' := [(1, .int 9), (0, .ref (h 0))]) hx hb dX3_interrupt_14 hl (k := 0) rfl (by decide) (by decide) rfl (fun ls hl => ?_)
            refine lv_goto (tgt := 3) hx hb dX3_interrupt_17 (by decide) ?_
            refine lv_aload_n hx hb dX3_interrupt_3 rfl (lv_at hl 1 rfl) ?_
            refine va_get (D := (dC, dI)) (ci := 3) (v := .int σ.2.2.2.2.1) (C := RX3) (T := TX3) (N := 9) hx hb hts (fun _ h9 => List.mem_cons_of_mem _ (List.mem_append_right _ h9)) hown hK hP 0 rfl rfl 4 (by decide) (hts (.fieldLink RX3 28 "LowPowerCpuModel" "lines" "I") (by decide +kernel)) (fun _ h9 => h9) rfl dX3_interrupt_4 ?_
            refine lv_iload_n hx hb dX3_interrupt_7 rfl (lv_at hl 0 rfl) ?_
            refine lv_ishr hx hb dX3_interrupt_8 ?_
            refine lv_iconst (v := 1) hx hb dX3_interrupt_9 (by decide) ?_
            refine lv_iand hx hb dX3_interrupt_10 ?_
            refine lv_if_ne (tgt := 20) hx hb dX3_interrupt_11 (by decide) (fun c13 => ?_) (fun c13 => ?_)
            · exact J (9) ls _ _ (by exact ((if_pos c1).trans ((if_pos c10).trans ((if_pos c11).trans ((if_pos c12).trans (if_neg c13))))).symm) (lv_sub hl [0, 1] rfl) hP hD hS
            · -- iinc
              refine lv_iinc (v := 8) (lv' := [(1, .int 8), (0, .ref (h 0))]) hx hb dX3_interrupt_14 hl (k := 0) rfl (by decide) (by decide) rfl (fun ls hl => ?_)
              refine lv_goto (tgt := 3) hx hb dX3_interrupt_17 (by decide) ?_
              refine lv_aload_n hx hb dX3_interrupt_3 rfl (lv_at hl 1 rfl) ?_
              refine va_get (D := (dC, dI)) (ci := 3) (v := .int σ.2.2.2.2.1) (C := RX3) (T := TX3) (N := 9) hx hb hts (fun _ h9 => List.mem_cons_of_mem _ (List.mem_append_right _ h9)) hown hK hP 0 rfl rfl 4 (by decide) (hts (.fieldLink RX3 28 "LowPowerCpuModel" "lines" "I") (by decide +kernel)) (fun _ h9 => h9) rfl dX3_interrupt_4 ?_
              refine lv_iload_n hx hb dX3_interrupt_7 rfl (lv_at hl 0 rfl) ?_
              refine lv_ishr hx hb dX3_interrupt_8 ?_
              refine lv_iconst (v := 1) hx hb dX3_interrupt_9 (by decide) ?_
              refine lv_iand hx hb dX3_interrupt_10 ?_
              refine lv_if_ne (tgt := 20) hx hb dX3_interrupt_11 (by decide) (fun c14 => ?_) (fun c14 => ?_)
              · exact J (8) ls _ _ (by exact ((if_pos c1).trans ((if_pos c10).trans ((if_pos c11).trans ((if_pos c12).trans ((if_pos c13).trans (if_neg c14)))))).symm) (lv_sub hl [0, 1] rfl) hP hD hS
              · -- iinc
                refine lv_iinc (v := 7) (lv' := [(1, .int 7), (0, .ref (h 0))]) hx hb dX3_interrupt_14 hl (k := 0) rfl (by decide) (by decide) rfl (fun ls hl => ?_)
                refine lv_goto (tgt := 3) hx hb dX3_interrupt_17 (by decide) ?_
                refine lv_aload_n hx hb dX3_interrupt_3 rfl (lv_at hl 1 rfl) ?_
                refine va_get (D := (dC, dI)) (ci := 3) (v := .int σ.2.2.2.2.1) (C := RX3) (T := TX3) (N := 9) hx hb hts (fun _ h9 => List.mem_cons_of_mem _ (List.mem_append_right _ h9)) hown hK hP 0 rfl rfl 4 (by decide) (hts (.fieldLink RX3 28 "LowPowerCpuModel" "lines" "I") (by decide +kernel)) (fun _ h9 => h9) rfl dX3_interrupt_4 ?_
                refine lv_iload_n hx hb dX3_interrupt_7 rfl (lv_at hl 0 rfl) ?_
                refine lv_ishr hx hb dX3_interrupt_8 ?_
                refine lv_iconst (v := 1) hx hb dX3_interrupt_9 (by decide) ?_
                refine lv_iand hx hb dX3_interrupt_10 ?_
                refine lv_if_ne (tgt := 20) hx hb dX3_interrupt_11 (by decide) (fun c15 => ?_) (fun c15 => ?_)
                · exact J (7) ls _ _ (by exact ((if_pos c1).trans ((if_pos c10).trans ((if_pos c11).trans ((if_pos c12).trans ((if_pos c13).trans ((if_pos c14).trans (if_neg c15))))))).symm) (lv_sub hl [0, 1] rfl) hP hD hS
                · -- iinc
                  refine lv_iinc (v := 6) (lv' := [(1, .int 6), (0, .ref (h 0))]) hx hb dX3_interrupt_14 hl (k := 0) rfl (by decide) (by decide) rfl (fun ls hl => ?_)
                  refine lv_goto (tgt := 3) hx hb dX3_interrupt_17 (by decide) ?_
                  refine lv_aload_n hx hb dX3_interrupt_3 rfl (lv_at hl 1 rfl) ?_
                  refine va_get (D := (dC, dI)) (ci := 3) (v := .int σ.2.2.2.2.1) (C := RX3) (T := TX3) (N := 9) hx hb hts (fun _ h9 => List.mem_cons_of_mem _ (List.mem_append_right _ h9)) hown hK hP 0 rfl rfl 4 (by decide) (hts (.fieldLink RX3 28 "LowPowerCpuModel" "lines" "I") (by decide +kernel)) (fun _ h9 => h9) rfl dX3_interrupt_4 ?_
                  refine lv_iload_n hx hb dX3_interrupt_7 rfl (lv_at hl 0 rfl) ?_
                  refine lv_ishr hx hb dX3_interrupt_8 ?_
                  refine lv_iconst (v := 1) hx hb dX3_interrupt_9 (by decide) ?_
                  refine lv_iand hx hb dX3_interrupt_10 ?_
                  refine lv_if_ne (tgt := 20) hx hb dX3_interrupt_11 (by decide) (fun c16 => ?_) (fun c16 => ?_)
                  · exact J (6) ls _ _ (by exact ((if_pos c1).trans ((if_pos c10).trans ((if_pos c11).trans ((if_pos c12).trans ((if_pos c13).trans ((if_pos c14).trans ((if_pos c15).trans (if_neg c16)))))))).symm) (lv_sub hl [0, 1] rfl) hP hD hS
                  · -- iinc
                    refine lv_iinc (v := 5) (lv' := [(1, .int 5), (0, .ref (h 0))]) hx hb dX3_interrupt_14 hl (k := 0) rfl (by decide) (by decide) rfl (fun ls hl => ?_)
                    refine lv_goto (tgt := 3) hx hb dX3_interrupt_17 (by decide) ?_
                    refine lv_aload_n hx hb dX3_interrupt_3 rfl (lv_at hl 1 rfl) ?_
                    refine va_get (D := (dC, dI)) (ci := 3) (v := .int σ.2.2.2.2.1) (C := RX3) (T := TX3) (N := 9) hx hb hts (fun _ h9 => List.mem_cons_of_mem _ (List.mem_append_right _ h9)) hown hK hP 0 rfl rfl 4 (by decide) (hts (.fieldLink RX3 28 "LowPowerCpuModel" "lines" "I") (by decide +kernel)) (fun _ h9 => h9) rfl dX3_interrupt_4 ?_
                    refine lv_iload_n hx hb dX3_interrupt_7 rfl (lv_at hl 0 rfl) ?_
                    refine lv_ishr hx hb dX3_interrupt_8 ?_
                    refine lv_iconst (v := 1) hx hb dX3_interrupt_9 (by decide) ?_
                    refine lv_iand hx hb dX3_interrupt_10 ?_
                    refine lv_if_ne (tgt := 20) hx hb dX3_interrupt_11 (by decide) (fun c17 => ?_) (fun c17 => ?_)
                    · exact J (5) ls _ _ (by exact ((if_pos c1).trans ((if_pos c10).trans ((if_pos c11).trans ((if_pos c12).trans ((if_pos c13).trans ((if_pos c14).trans ((if_pos c15).trans ((if_pos c16).trans (if_neg c17))))))))).symm) (lv_sub hl [0, 1] rfl) hP hD hS
                    · -- iinc
                      refine lv_iinc (v := 4) (lv' := [(1, .int 4), (0, .ref (h 0))]) hx hb dX3_interrupt_14 hl (k := 0) rfl (by decide) (by decide) rfl (fun ls hl => ?_)
                      refine lv_goto (tgt := 3) hx hb dX3_interrupt_17 (by decide) ?_
                      refine lv_aload_n hx hb dX3_interrupt_3 rfl (lv_at hl 1 rfl) ?_
                      refine va_get (D := (dC, dI)) (ci := 3) (v := .int σ.2.2.2.2.1) (C := RX3) (T := TX3) (N := 9) hx hb hts (fun _ h9 => List.mem_cons_of_mem _ (List.mem_append_right _ h9)) hown hK hP 0 rfl rfl 4 (by decide) (hts (.fieldLink RX3 28 "LowPowerCpuModel" "lines" "I") (by decide +kernel)) (fun _ h9 => h9) rfl dX3_interrupt_4 ?_
                      refine lv_iload_n hx hb dX3_interrupt_7 rfl (lv_at hl 0 rfl) ?_
                      refine lv_ishr hx hb dX3_interrupt_8 ?_
                      refine lv_iconst (v := 1) hx hb dX3_interrupt_9 (by decide) ?_
                      refine lv_iand hx hb dX3_interrupt_10 ?_
                      refine lv_if_ne (tgt := 20) hx hb dX3_interrupt_11 (by decide) (fun c18 => ?_) (fun c18 => ?_)
                      · exact J (4) ls _ _ (by exact ((if_pos c1).trans ((if_pos c10).trans ((if_pos c11).trans ((if_pos c12).trans ((if_pos c13).trans ((if_pos c14).trans ((if_pos c15).trans ((if_pos c16).trans ((if_pos c17).trans (if_neg c18)))))))))).symm) (lv_sub hl [0, 1] rfl) hP hD hS
                      · -- iinc
                        refine lv_iinc (v := 3) (lv' := [(1, .int 3), (0, .ref (h 0))]) hx hb dX3_interrupt_14 hl (k := 0) rfl (by decide) (by decide) rfl (fun ls hl => ?_)
                        refine lv_goto (tgt := 3) hx hb dX3_interrupt_17 (by decide) ?_
                        refine lv_aload_n hx hb dX3_interrupt_3 rfl (lv_at hl 1 rfl) ?_
                        refine va_get (D := (dC, dI)) (ci := 3) (v := .int σ.2.2.2.2.1) (C := RX3) (T := TX3) (N := 9) hx hb hts (fun _ h9 => List.mem_cons_of_mem _ (List.mem_append_right _ h9)) hown hK hP 0 rfl rfl 4 (by decide) (hts (.fieldLink RX3 28 "LowPowerCpuModel" "lines" "I") (by decide +kernel)) (fun _ h9 => h9) rfl dX3_interrupt_4 ?_
                        refine lv_iload_n hx hb dX3_interrupt_7 rfl (lv_at hl 0 rfl) ?_
                        refine lv_ishr hx hb dX3_interrupt_8 ?_
                        refine lv_iconst (v := 1) hx hb dX3_interrupt_9 (by decide) ?_
                        refine lv_iand hx hb dX3_interrupt_10 ?_
                        refine lv_if_ne (tgt := 20) hx hb dX3_interrupt_11 (by decide) (fun c19 => ?_) (fun c19 => ?_)
                        · exact J (3) ls _ _ (by exact ((if_pos c1).trans ((if_pos c10).trans ((if_pos c11).trans ((if_pos c12).trans ((if_pos c13).trans ((if_pos c14).trans ((if_pos c15).trans ((if_pos c16).trans ((if_pos c17).trans ((if_pos c18).trans (if_neg c19))))))))))).symm) (lv_sub hl [0, 1] rfl) hP hD hS
                        · -- iinc
                          refine lv_iinc (v := 2) (lv' := [(1, .int 2), (0, .ref (h 0))]) hx hb dX3_interrupt_14 hl (k := 0) rfl (by decide) (by decide) rfl (fun ls hl => ?_)
                          refine lv_goto (tgt := 3) hx hb dX3_interrupt_17 (by decide) ?_
                          refine lv_aload_n hx hb dX3_interrupt_3 rfl (lv_at hl 1 rfl) ?_
                          refine va_get (D := (dC, dI)) (ci := 3) (v := .int σ.2.2.2.2.1) (C := RX3) (T := TX3) (N := 9) hx hb hts (fun _ h9 => List.mem_cons_of_mem _ (List.mem_append_right _ h9)) hown hK hP 0 rfl rfl 4 (by decide) (hts (.fieldLink RX3 28 "LowPowerCpuModel" "lines" "I") (by decide +kernel)) (fun _ h9 => h9) rfl dX3_interrupt_4 ?_
                          refine lv_iload_n hx hb dX3_interrupt_7 rfl (lv_at hl 0 rfl) ?_
                          refine lv_ishr hx hb dX3_interrupt_8 ?_
                          refine lv_iconst (v := 1) hx hb dX3_interrupt_9 (by decide) ?_
                          refine lv_iand hx hb dX3_interrupt_10 ?_
                          refine lv_if_ne (tgt := 20) hx hb dX3_interrupt_11 (by decide) (fun c20 => ?_) (fun c20 => ?_)
                          · exact J (2) ls _ _ (by exact ((if_pos c1).trans ((if_pos c10).trans ((if_pos c11).trans ((if_pos c12).trans ((if_pos c13).trans ((if_pos c14).trans ((if_pos c15).trans ((if_pos c16).trans ((if_pos c17).trans ((if_pos c18).trans ((if_pos c19).trans (if_neg c20)))))))))))).symm) (lv_sub hl [0, 1] rfl) hP hD hS
                          · -- iinc
                            refine lv_iinc (v := 1) (lv' := [(1, .int 1), (0, .ref (h 0))]) hx hb dX3_interrupt_14 hl (k := 0) rfl (by decide) (by decide) rfl (fun ls hl => ?_)
                            refine lv_goto (tgt := 3) hx hb dX3_interrupt_17 (by decide) ?_
                            refine lv_aload_n hx hb dX3_interrupt_3 rfl (lv_at hl 1 rfl) ?_
                            refine va_get (D := (dC, dI)) (ci := 3) (v := .int σ.2.2.2.2.1) (C := RX3) (T := TX3) (N := 9) hx hb hts (fun _ h9 => List.mem_cons_of_mem _ (List.mem_append_right _ h9)) hown hK hP 0 rfl rfl 4 (by decide) (hts (.fieldLink RX3 28 "LowPowerCpuModel" "lines" "I") (by decide +kernel)) (fun _ h9 => h9) rfl dX3_interrupt_4 ?_
                            refine lv_iload_n hx hb dX3_interrupt_7 rfl (lv_at hl 0 rfl) ?_
                            refine lv_ishr hx hb dX3_interrupt_8 ?_
                            refine lv_iconst (v := 1) hx hb dX3_interrupt_9 (by decide) ?_
                            refine lv_iand hx hb dX3_interrupt_10 ?_
                            refine lv_if_ne (tgt := 20) hx hb dX3_interrupt_11 (by decide) (fun c21 => ?_) (fun c21 => ?_)
                            · exact J (1) ls _ _ (by exact ((if_pos c1).trans ((if_pos c10).trans ((if_pos c11).trans ((if_pos c12).trans ((if_pos c13).trans ((if_pos c14).trans ((if_pos c15).trans ((if_pos c16).trans ((if_pos c17).trans ((if_pos c18).trans ((if_pos c19).trans ((if_pos c20).trans (if_neg c21))))))))))))).symm) (lv_sub hl [0, 1] rfl) hP hD hS
                            · -- iinc
                              refine lv_iinc (v := 0) (lv' := [(1, .int 0), (0, .ref (h 0))]) hx hb dX3_interrupt_14 hl (k := 0) rfl (by decide) (by decide) rfl (fun ls hl => ?_)
                              refine lv_goto (tgt := 3) hx hb dX3_interrupt_17 (by decide) ?_
                              refine lv_aload_n hx hb dX3_interrupt_3 rfl (lv_at hl 1 rfl) ?_
                              refine va_get (D := (dC, dI)) (ci := 3) (v := .int σ.2.2.2.2.1) (C := RX3) (T := TX3) (N := 9) hx hb hts (fun _ h9 => List.mem_cons_of_mem _ (List.mem_append_right _ h9)) hown hK hP 0 rfl rfl 4 (by decide) (hts (.fieldLink RX3 28 "LowPowerCpuModel" "lines" "I") (by decide +kernel)) (fun _ h9 => h9) rfl dX3_interrupt_4 ?_
                              refine lv_iload_n hx hb dX3_interrupt_7 rfl (lv_at hl 0 rfl) ?_
                              refine lv_ishr hx hb dX3_interrupt_8 ?_
                              refine lv_iconst (v := 1) hx hb dX3_interrupt_9 (by decide) ?_
                              refine lv_iand hx hb dX3_interrupt_10 ?_
                              refine lv_if_ne (tgt := 20) hx hb dX3_interrupt_11 (by decide) (fun c22 => ?_) (fun c22 => (no_line hL hI.2.2 c1 c10 c11 c12 c13 c14 c15 c16 c17 c18 c19 c20 c21 c22).elim)
                              exact J (0) ls _ _ (by exact ((if_pos c1).trans ((if_pos c10).trans ((if_pos c11).trans ((if_pos c12).trans ((if_pos c13).trans ((if_pos c14).trans ((if_pos c15).trans ((if_pos c16).trans ((if_pos c17).trans ((if_pos c18).trans ((if_pos c19).trans ((if_pos c20).trans (if_pos c21))))))))))))).symm) (lv_sub hl [0, 1] rfl) hP hD hS
