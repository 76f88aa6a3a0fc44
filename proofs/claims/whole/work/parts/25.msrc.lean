set_option maxHeartbeats 4000000 in
set_option maxRecDepth 100000 in
theorem c_X3_taken (l : Launch) (dC : Nat → ClassId) (dI : Nat → Nat → Nat) (h : Nat → Nat) (k : Nat → ClassId) (sz : Nat) (σ : StR) (hI : okR σ) : Met l yX3_taken wsX3_taken ({ frames := 2, cells := 0, slots := 0, locals := 41 }) (PcR (dC, dI) h k [.ref (h 0)] sz σ) (va_Qi (fun r u => (r, u) = (f_X3_taken σ)) (BR (dC, dI) h k (AX 4 h sz)) (AX 4 h sz)) 0 0 (AX 4 h sz) := by
  refine Met.ofW (cc := cX3_taken) (maxL := 2) (ret := (some .int)) (by decide) rfl ?_
  intro p e s m args below meth c s₁ B hml hv
  obtain ⟨rfl, rfl, hP, hct, hD⟩ := hv
  have hx := B.exec
  have hb := B.bytes
  have hr := B.returns
  have hts := atoms_spec (ws := wsX3_taken) B.pre
  have hown : s.vm.findClass RX3 = some m.cls := findClass_of_methodNamed B.named
  have hlocks := B.notSynchronized
  have hK := hct.1
  have hS : va_S (AX 4 h s.heap.size) s.heap s.heap [] := va_S.rf
  have hl := lv_entry ([.ref (h 0)]) (n := 2) (Nat.le_of_ble_eq_true rfl)
  rw [lg_entry_eq]
  generalize (lg_sl ([.ref (h 0)]) ++ List.replicate (2 - (lg_sl ([.ref (h 0)])).length) Slot.unset).toArray = ls at hl ⊢
  have hl : lv_has ls 2 [(0, .ref (h 0))] := hl
  refine lv_aload_n hx hb dX3_taken_0 rfl (lv_at hl 0 rfl) ?_
  refine lv_aload_n hx hb dX3_taken_1 rfl (lv_at hl 0 rfl) ?_
  refine va_get (D := (dC, dI)) (ci := 3) (v := .ref (h 2)) (C := RX3) (T := TX3) (N := 9) hx hb hts (fun _ h9 => List.mem_cons_of_mem _ (List.mem_append_right _ h9)) hown hK hP 0 rfl rfl 1 (by decide) (hts (.fieldLink RX3 14 "LowPowerCpuModel" "\x72" "[I") (by decide +kernel)) (fun _ h9 => h9) rfl dX3_taken_2 ?_
  refine lv_iconst (v := 0) hx hb dX3_taken_5 (by decide) ?_
  refine va_iald hx hb hK hP 2 0 rfl rfl (in_c (by decide)) dX3_taken_6 ?_
  refine callR_ip (va_runV (As := [.int (σ.2.1 (0 : Int32).toNatClampNeg)]) (rest := []) ⟨hx, hb, hml, hown, hts⟩ (c_X3_wordAt l dC dI h k _ σ (σ.2.1 (0 : Int32).toNatClampNeg) (hI.1 _ (by decide))) (cwV 1 hts gX3_taken_X3_wordAt rfl rfl rfl (by decide +kernel) ⟨Nat.le_of_ble_eq_true rfl, Nat.le_of_ble_eq_true rfl⟩) (preR_V (ci := 3) (q0 := 0) hct hP hD hS rfl rfl) rfl rfl hl.1 rfl (lv_room (Nat.le_of_ble_eq_true rfl)) dX3_taken_7 ⟨Nat.le_of_ble_eq_true rfl, Nat.le_of_ble_eq_true rfl⟩) hS (fun x1 H locs ex1 hP hD hS => ?_)
  refine lv_istore_n (lv' := [(1, .int x1), (0, .ref (h 0))]) hx hb dX3_taken_10 rfl hl (by decide) rfl (fun ls hl => ?_)
  refine lv_aload_n hx hb dX3_taken_11 rfl (lv_at hl 1 rfl) ?_
  refine lv_iconst (v := 0) hx hb dX3_taken_12 (by decide) ?_
  refine lv_aload_n hx hb dX3_taken_13 rfl (lv_at hl 1 rfl) ?_
  refine va_get (D := (dC, dI)) (ci := 3) (v := .ref (h 2)) (C := RX3) (T := TX3) (N := 9) hx hb hts (fun _ h9 => List.mem_cons_of_mem _ (List.mem_append_right _ h9)) hown hK hP 0 rfl rfl 1 (by decide) (hts (.fieldLink RX3 14 "LowPowerCpuModel" "\x72" "[I") (by decide +kernel)) (fun _ h9 => h9) rfl dX3_taken_14 ?_
  refine lv_iconst (v := 0) hx hb dX3_taken_17 (by decide) ?_
  refine va_iald hx hb hK hP 2 0 rfl rfl (in_c (by decide)) dX3_taken_18 ?_
  refine lv_iconst (v := 2) hx hb dX3_taken_19 (by decide) ?_
  refine lv_iadd hx hb dX3_taken_20 ?_
  refine callR_v (va_runV (As := [.int 0, .int ((σ.2.1 (0 : Int32).toNatClampNeg) + (2 : Int32))]) (rest := []) ⟨hx, hb, hml, hown, hts⟩ (c_X3_setRegister l dC dI h k _ σ 0 ((σ.2.1 (0 : Int32).toNatClampNeg) + (2 : Int32)) (in_c (by decide))) (cwV 2 hts gX3_taken_X3_setRegister rfl rfl rfl (by decide +kernel) ⟨Nat.le_of_ble_eq_true rfl, Nat.le_of_ble_eq_true rfl⟩) (preR_V (ci := 3) (q0 := 0) hct hP hD hS rfl rfl) rfl rfl hl.1 rfl (lv_room (Nat.le_of_ble_eq_true rfl)) dX3_taken_21 ⟨Nat.le_of_ble_eq_true rfl, Nat.le_of_ble_eq_true rfl⟩) hS (fun σ2 H locs eσ2 hP hD hS => ?_)
  have hIσ2 : okR σ2 := by rw [eσ2]; (repeat (first | with_reducible assumption | with_reducible exact okR_of hI rfl rfl rfl | with_reducible apply ok_X3_spend | with_reducible apply ok_X3_setRegister | with_reducible apply ok_X3_write | with_reducible apply ok_X3_number | with_reducible apply ok_X3_memory | with_reducible apply ok_X3_taken | with_reducible apply ok_X3_indexed | with_reducible apply ok_X3_joined | with_reducible apply ok_X3_push | with_reducible apply ok_X3_popped | with_reducible apply ok_X3_shifted | with_reducible apply ok_X3_register | with_reducible apply ok_X3_source | with_reducible apply in15 | (subst_vars; with_reducible apply in15)))
  refine lv_iload_n hx hb dX3_taken_24 rfl (lv_at hl 0 rfl) ?_
  exact retR_i hx hb hr hlocks (by subst eσ2; subst ex1; exact rfl) hP hD hS dX3_taken_25

set_option maxHeartbeats 4000000 in
set_option maxRecDepth 100000 in
theorem c_X3_indexed (l : Launch) (dC : Nat → ClassId) (dI : Nat → Nat → Nat) (h : Nat → Nat) (k : Nat → ClassId) (sz : Nat) (σ : StR) (a1 : Int32) (ha1 : vp_in a1 16) (hI : okR σ) : Met l yX3_indexed wsX3_indexed ({ frames := 5, cells := 0, slots := 0, locals := 104 }) (PcR (dC, dI) h k [.ref (h 0), .int a1] sz σ) (va_Qv (fun u => u = f_X3_indexed σ a1) (BR (dC, dI) h k (AX 4 h sz)) (AX 4 h sz)) 0 0 (AX 4 h sz) := by
  refine Met.ofW (cc := cX3_indexed) (maxL := 3) (ret := none) (by decide) rfl ?_
  intro p e s m args below meth c s₁ B hml hv
  obtain ⟨rfl, rfl, hP, hct, hD⟩ := hv
  have hx := B.exec
  have hb := B.bytes
  have hr := B.returns
  have hts := atoms_spec (ws := wsX3_indexed) B.pre
  have hown : s.vm.findClass RX3 = some m.cls := findClass_of_methodNamed B.named
  have hlocks := B.notSynchronized
  have hK := hct.1
  have hS : va_S (AX 4 h s.heap.size) s.heap s.heap [] := va_S.rf
  have hl := lv_entry ([.ref (h 0), .int a1]) (n := 3) (Nat.le_of_ble_eq_true rfl)
  rw [lg_entry_eq]
  generalize (lg_sl ([.ref (h 0), .int a1]) ++ List.replicate (3 - (lg_sl ([.ref (h 0), .int a1])).length) Slot.unset).toArray = ls at hl ⊢
  have hl : lv_has ls 3 [(0, .ref (h 0)), (1, .int a1)] := hl
  refine lv_iload_n hx hb dX3_indexed_0 rfl (lv_at hl 1 rfl) ?_
  refine wj (α := Int32) (D := (dC, dI)) (cl := vwCl) (A := AX 4 h s.heap.size) (H0 := s.heap) (if a1 = 0 then σ.2.1 (0 : Int32).toNatClampNeg else if 4 ≤ a1 then σ.2.1 a1.toNatClampNeg else if a1 = 1 then σ.2.1 a1.toNatClampNeg else 0) (fun v2 => wsR h k σ) (fun v2 => [(0, .ref (h 0)), (1, .int a1)]) 3 (fun v2 ls => F0 m 33 ls [.int v2]) ?_ ?_
  · intro v2 ls H locs ev2 hl hP hD hS
    try dsimp only at hl hP hD ⊢
    refine lv_istore_n (lv' := [(2, .int v2), (0, .ref (h 0)), (1, .int a1)]) hx hb dX3_indexed_33 rfl hl (by decide) rfl (fun ls hl => ?_)
    refine lv_aload_n hx hb dX3_indexed_34 rfl (lv_at hl 1 rfl) ?_
    refine lv_iload_n hx hb dX3_indexed_35 rfl (lv_at hl 0 rfl) ?_
    refine lv_aload_n hx hb dX3_indexed_36 rfl (lv_at hl 1 rfl) ?_
    refine callR_i (va_runV (As := []) (rest := [.int v2, .ref (h 0)]) ⟨hx, hb, hml, hown, hts⟩ (c_X3_taken l dC dI h k _ σ  hI) (cwV 0 hts gX3_indexed_X3_taken rfl rfl rfl (by decide +kernel) ⟨Nat.le_of_ble_eq_true rfl, Nat.le_of_ble_eq_true rfl⟩) (preR_V (ci := 3) (q0 := 0) hct hP hD hS rfl rfl) rfl rfl hl.1 rfl (lv_room (Nat.le_of_ble_eq_true rfl)) dX3_indexed_37 ⟨Nat.le_of_ble_eq_true rfl, Nat.le_of_ble_eq_true rfl⟩) hS (fun x3 σ4 H locs ex3 eσ4 hP hD hS => ?_)
    have hIσ4 : okR σ4 := by rw [eσ4]; (repeat (first | with_reducible assumption | with_reducible exact okR_of hI rfl rfl rfl | with_reducible apply ok_X3_spend | with_reducible apply ok_X3_setRegister | with_reducible apply ok_X3_write | with_reducible apply ok_X3_number | with_reducible apply ok_X3_memory | with_reducible apply ok_X3_taken | with_reducible apply ok_X3_indexed | with_reducible apply ok_X3_joined | with_reducible apply ok_X3_push | with_reducible apply ok_X3_popped | with_reducible apply ok_X3_shifted | with_reducible apply ok_X3_register | with_reducible apply ok_X3_source | with_reducible apply in15 | (subst_vars; with_reducible apply in15)))
    refine lv_iadd hx hb dX3_indexed_40 ?_
    refine callR_v (va_runV (As := [.int (v2 + x3)]) (rest := []) ⟨hx, hb, hml, hown, hts⟩ (c_X3_memory l dC dI h k _ σ4 (v2 + x3)) (cwV 1 hts gX3_indexed_X3_memory rfl rfl rfl (by decide +kernel) ⟨Nat.le_of_ble_eq_true rfl, Nat.le_of_ble_eq_true rfl⟩) (preR_V (ci := 3) (q0 := 0) hct hP hD hS rfl rfl) rfl rfl hl.1 rfl (lv_room (Nat.le_of_ble_eq_true rfl)) dX3_indexed_41 ⟨Nat.le_of_ble_eq_true rfl, Nat.le_of_ble_eq_true rfl⟩) hS (fun σ5 H locs eσ5 hP hD hS => ?_)
    have hIσ5 : okR σ5 := by rw [eσ5]; (repeat (first | with_reducible assumption | with_reducible exact okR_of hI rfl rfl rfl | with_reducible apply ok_X3_spend | with_reducible apply ok_X3_setRegister | with_reducible apply ok_X3_write | with_reducible apply ok_X3_number | with_reducible apply ok_X3_memory | with_reducible apply ok_X3_taken | with_reducible apply ok_X3_indexed | with_reducible apply ok_X3_joined | with_reducible apply ok_X3_push | with_reducible apply ok_X3_popped | with_reducible apply ok_X3_shifted | with_reducible apply ok_X3_register | with_reducible apply ok_X3_source | with_reducible apply in15 | (subst_vars; with_reducible apply in15)))
    exact retR_v hx hb hr hlocks (by subst eσ5; subst eσ4; subst ex3; subst ev2; exact rfl) hP hD hS dX3_indexed_44
  · intro J
    refine lv_if_ne (tgt := 13) hx hb dX3_indexed_1 (by decide) (fun c1 => ?_) (fun c1 => ?_)
    · refine lv_iload_n hx hb dX3_indexed_13 rfl (lv_at hl 1 rfl) ?_
      refine lv_iconst (v := 4) hx hb dX3_indexed_14 (by decide) ?_
      refine lv_icmp_ge (tgt := 27) hx hb dX3_indexed_15 (by decide) (fun c6 => ?_) (fun c6 => ?_)
      · refine lv_aload_n hx hb dX3_indexed_27 rfl (lv_at hl 0 rfl) ?_
        refine va_get (D := (dC, dI)) (ci := 3) (v := .ref (h 2)) (C := RX3) (T := TX3) (N := 9) hx hb hts (fun _ h9 => List.mem_cons_of_mem _ (List.mem_append_right _ h9)) hown hK hP 0 rfl rfl 1 (by decide) (hts (.fieldLink RX3 14 "LowPowerCpuModel" "\x72" "[I") (by decide +kernel)) (fun _ h9 => h9) rfl dX3_indexed_28 ?_
        refine lv_iload_n hx hb dX3_indexed_31 rfl (lv_at hl 1 rfl) ?_
        refine va_iald hx hb hK hP 2 0 rfl rfl ha1 dX3_indexed_32 ?_
        exact J (σ.2.1 a1.toNatClampNeg) ls _ _ (by exact ((if_neg c1).trans (if_pos c6)).symm) (lv_sub hl [0, 1] rfl) hP hD hS
      · refine lv_iload_n hx hb dX3_indexed_18 rfl (lv_at hl 1 rfl) ?_
        refine lv_iconst (v := 1) hx hb dX3_indexed_19 (by decide) ?_
        refine lv_icmp_eq (tgt := 27) hx hb dX3_indexed_20 (by decide) (fun c7 => ?_) (fun c7 => ?_)
        · refine lv_aload_n hx hb dX3_indexed_27 rfl (lv_at hl 0 rfl) ?_
          refine va_get (D := (dC, dI)) (ci := 3) (v := .ref (h 2)) (C := RX3) (T := TX3) (N := 9) hx hb hts (fun _ h9 => List.mem_cons_of_mem _ (List.mem_append_right _ h9)) hown hK hP 0 rfl rfl 1 (by decide) (hts (.fieldLink RX3 14 "LowPowerCpuModel" "\x72" "[I") (by decide +kernel)) (fun _ h9 => h9) rfl dX3_indexed_28 ?_
          refine lv_iload_n hx hb dX3_indexed_31 rfl (lv_at hl 1 rfl) ?_
          refine va_iald hx hb hK hP 2 0 rfl rfl ha1 dX3_indexed_32 ?_
          exact J (σ.2.1 a1.toNatClampNeg) ls _ _ (by exact ((if_neg c1).trans ((if_neg c6).trans (if_pos c7))).symm) (lv_sub hl [0, 1] rfl) hP hD hS
        · refine lv_iconst (v := 0) hx hb dX3_indexed_23 (by decide) ?_
          refine lv_goto (tgt := 33) hx hb dX3_indexed_24 (by decide) ?_
          exact J (0) ls _ _ (by exact ((if_neg c1).trans ((if_neg c6).trans (if_neg c7))).symm) (lv_sub hl [0, 1] rfl) hP hD hS
    · refine lv_aload_n hx hb dX3_indexed_4 rfl (lv_at hl 0 rfl) ?_
      refine va_get (D := (dC, dI)) (ci := 3) (v := .ref (h 2)) (C := RX3) (T := TX3) (N := 9) hx hb hts (fun _ h9 => List.mem_cons_of_mem _ (List.mem_append_right _ h9)) hown hK hP 0 rfl rfl 1 (by decide) (hts (.fieldLink RX3 14 "LowPowerCpuModel" "\x72" "[I") (by decide +kernel)) (fun _ h9 => h9) rfl dX3_indexed_5 ?_
      refine lv_iconst (v := 0) hx hb dX3_indexed_8 (by decide) ?_
      refine va_iald hx hb hK hP 2 0 rfl rfl (in_c (by decide)) dX3_indexed_9 ?_
      refine lv_goto (tgt := 33) hx hb dX3_indexed_10 (by decide) ?_
      exact J (σ.2.1 (0 : Int32).toNatClampNeg) ls _ _ (by exact (if_pos c1).symm) (lv_sub hl [0, 1] rfl) hP hD hS

set_option maxHeartbeats 4000000 in
set_option maxRecDepth 100000 in
theorem c_X3_source (l : Launch) (dC : Nat → ClassId) (dI : Nat → Nat → Nat) (h : Nat → Nat) (k : Nat → ClassId) (sz : Nat) (σ : StR) (a1 : Int32) (a2 : Int32) (ha2 : vp_in a2 16) (hI : okR σ) : Met l yX3_source wsX3_source ({ frames := 6, cells := 0, slots := 0, locals := 126 }) (PcR (dC, dI) h k [.ref (h 0), .int a1, .int a2] sz σ) (va_Qv (fun u => u = f_X3_source σ a1 a2) (BR (dC, dI) h k (AX 4 h sz)) (AX 4 h sz)) 0 0 (AX 4 h sz) := by
  refine Met.ofW (cc := cX3_source) (maxL := 3) (ret := none) (by decide) rfl ?_
  intro p e s m args below meth c s₁ B hml hv
  obtain ⟨rfl, rfl, hP, hct, hD⟩ := hv
  have hx := B.exec
  have hb := B.bytes
  have hr := B.returns
  have hts := atoms_spec (ws := wsX3_source) B.pre
  have hown : s.vm.findClass RX3 = some m.cls := findClass_of_methodNamed B.named
  have hlocks := B.notSynchronized
  have hK := hct.1
  have hS : va_S (AX 4 h s.heap.size) s.heap s.heap [] := va_S.rf
  have hl := lv_entry ([.ref (h 0), .int a1, .int a2]) (n := 3) (Nat.le_of_ble_eq_true rfl)
  rw [lg_entry_eq]
  generalize (lg_sl ([.ref (h 0), .int a1, .int a2]) ++ List.replicate (3 - (lg_sl ([.ref (h 0), .int a1, .int a2])).length) Slot.unset).toArray = ls at hl ⊢
  have hl : lv_has ls 3 [(0, .ref (h 0)), (1, .int a1), (2, .int a2)] := hl
  refine lv_iload_n hx hb dX3_source_0 rfl (lv_at hl 1 rfl) ?_
  refine wj (α := StR) (D := (dC, dI)) (cl := vwCl) (A := AX 4 h s.heap.size) (H0 := s.heap) (if a1 = 0 then let σ18 : StR := (f_X3_register σ a2); σ18 else if a1 = 1 then if a2 = 3 then let σ16 : StR := (f_X3_number σ 1); σ16 else let σ17 : StR := (f_X3_indexed σ a2); σ17 else if a2 = 2 then let v12 : Int32 := (if a1 = 2 then 4 else 8); let σ13 : StR := (f_X3_number σ v12); σ13 else if a2 = 3 then let v9 : Int32 := (if a1 = 2 then 2 else 65535); let σ10 : StR := (f_X3_number σ v9); σ10 else let σ7 : StR := (f_X3_memory σ (σ.2.1 a2.toNatClampNeg)); σ7) (fun v2 => wsR h k v2) (fun v2 => [(0, .ref (h 0)), (1, .int a1), (2, .int a2)]) 3 (fun v2 ls => F0 m 99 ls []) ?_ ?_
  · intro v2 ls H locs ev2 hl hP hD hS
    try dsimp only at hl hP hD ⊢
    refine lv_iload_n hx hb dX3_source_99 rfl (lv_at hl 1 rfl) ?_
    refine lv_iconst (v := 3) hx hb dX3_source_100 (by decide) ?_
    refine lv_icmp_ne (tgt := 143) hx hb dX3_source_101 (by decide) (fun c3 => ?_) (fun c3 => ?_)
    · exact retR_v hx hb hr hlocks (by subst ev2; exact if_neg c3) hP hD hS dX3_source_143
    · refine lv_iload_n hx hb dX3_source_104 rfl (lv_at hl 2 rfl) ?_
      refine lv_iconst (v := 2) hx hb dX3_source_105 (by decide) ?_
      refine lv_icmp_eq (tgt := 143) hx hb dX3_source_106 (by decide) (fun c4 => ?_) (fun c4 => ?_)
      · exact retR_v hx hb hr hlocks (by subst ev2; exact (if_pos c3).trans (if_pos c4)) hP hD hS dX3_source_143
      · refine lv_iload_n hx hb dX3_source_109 rfl (lv_at hl 2 rfl) ?_
        refine lv_iconst (v := 3) hx hb dX3_source_110 (by decide) ?_
        refine lv_icmp_eq (tgt := 143) hx hb dX3_source_111 (by decide) (fun c5 => ?_) (fun c5 => ?_)
        · exact retR_v hx hb hr hlocks (by subst ev2; exact (if_pos c3).trans ((if_neg c4).trans (if_pos c5))) hP hD hS dX3_source_143
        · refine lv_aload_n hx hb dX3_source_114 rfl (lv_at hl 0 rfl) ?_
          refine lv_iload_n hx hb dX3_source_115 rfl (lv_at hl 2 rfl) ?_
          refine lv_aload_n hx hb dX3_source_116 rfl (lv_at hl 0 rfl) ?_
          refine va_get (D := (dC, dI)) (ci := 3) (v := .ref (h 2)) (C := RX3) (T := TX3) (N := 9) hx hb hts (fun _ h9 => List.mem_cons_of_mem _ (List.mem_append_right _ h9)) hown hK hP 0 rfl rfl 1 (by decide) (hts (.fieldLink RX3 14 "LowPowerCpuModel" "\x72" "[I") (by decide +kernel)) (fun _ h9 => h9) rfl dX3_source_117 ?_
          refine lv_iload_n hx hb dX3_source_120 rfl (lv_at hl 2 rfl) ?_
          refine va_iald hx hb hK hP 2 0 rfl rfl ha2 dX3_source_121 ?_
          refine lv_aload_n hx hb dX3_source_122 rfl (lv_at hl 0 rfl) ?_
          refine va_get (D := (dC, dI)) (ci := 3) (v := .int v2.2.2.2.2.2.2.2.2) (C := RX3) (T := TX3) (N := 9) hx hb hts (fun _ h9 => List.mem_cons_of_mem _ (List.mem_append_right _ h9)) hown hK hP 0 rfl rfl 8 (by decide) (hts (.fieldLink RX3 51 "LowPowerCpuModel" "bytes" "Z") (by decide +kernel)) (fun _ h9 => h9) rfl dX3_source_123 ?_
          refine wj (α := Int32) (D := (dC, dI)) (cl := vwCl) (A := AX 4 h s.heap.size) (H0 := s.heap) (if v2.2.2.2.2.2.2.2.2 = 0 then 2 else if a2 ≤ 1 then 2 else 1) (fun v7 => wsR h k v2) (fun v7 => [(0, .ref (h 0)), (1, .int a1), (2, .int a2)]) 3 (fun v7 ls => F0 m 139 ls [.int v7, .int (v2.2.1 a2.toNatClampNeg), .int a2, .ref (h 0)]) ?_ ?_
          · intro v7 ls H locs ev7 hl hP hD hS
            try dsimp only at hl hP hD ⊢
            refine lv_iadd hx hb dX3_source_139 ?_
            refine callR_v (va_runV (As := [.int a2, .int ((v2.2.1 a2.toNatClampNeg) + v7)]) (rest := []) ⟨hx, hb, hml, hown, hts⟩ (c_X3_setRegister l dC dI h k _ v2 a2 ((v2.2.1 a2.toNatClampNeg) + v7) ha2) (cwV 2 hts gX3_source_X3_setRegister rfl rfl rfl (by decide +kernel) ⟨Nat.le_of_ble_eq_true rfl, Nat.le_of_ble_eq_true rfl⟩) (preR_V (ci := 3) (q0 := 0) hct hP hD hS rfl rfl) rfl rfl hl.1 rfl (lv_room (Nat.le_of_ble_eq_true rfl)) dX3_source_140 ⟨Nat.le_of_ble_eq_true rfl, Nat.le_of_ble_eq_true rfl⟩) hS (fun σ8 H locs eσ8 hP hD hS => ?_)
            exact retR_v hx hb hr hlocks (by subst eσ8; subst ev7; subst ev2; exact (if_pos c3).trans ((if_neg c4).trans (if_neg c5))) hP hD hS dX3_source_143
          · intro J
            refine lv_if_eq (tgt := 138) hx hb dX3_source_126 (by decide) (fun c6 => ?_) (fun c6 => ?_)
            · refine lv_iconst (v := 2) hx hb dX3_source_138 (by decide) ?_
              exact J (2) ls _ _ (by exact (if_pos c6).symm) (lv_sub hl [0, 1, 2] rfl) hP hD hS
            · refine lv_iload_n hx hb dX3_source_129 rfl (lv_at hl 2 rfl) ?_
              refine lv_iconst (v := 1) hx hb dX3_source_130 (by decide) ?_
              refine lv_icmp_le (tgt := 138) hx hb dX3_source_131 (by decide) (fun c9 => ?_) (fun c9 => ?_)
              · refine lv_iconst (v := 2) hx hb dX3_source_138 (by decide) ?_
                exact J (2) ls _ _ (by exact ((if_neg c6).trans (if_pos c9)).symm) (lv_sub hl [0, 1, 2] rfl) hP hD hS
              · refine lv_iconst (v := 1) hx hb dX3_source_134 (by decide) ?_
                refine lv_goto (tgt := 139) hx hb dX3_source_135 (by decide) ?_
                exact J (1) ls _ _ (by exact ((if_neg c6).trans (if_neg c9)).symm) (lv_sub hl [0, 1, 2] rfl) hP hD hS
  · intro J
    refine lv_if_ne (tgt := 12) hx hb dX3_source_1 (by decide) (fun c1 => ?_) (fun c1 => ?_)
    · refine lv_iload_n hx hb dX3_source_12 rfl (lv_at hl 1 rfl) ?_
      refine lv_iconst (v := 1) hx hb dX3_source_13 (by decide) ?_
      refine lv_icmp_ne (tgt := 30) hx hb dX3_source_14 (by decide) (fun c10 => ?_) (fun c10 => ?_)
      · refine lv_iload_n hx hb dX3_source_30 rfl (lv_at hl 1 rfl) ?_
        refine lv_iconst (v := 1) hx hb dX3_source_31 (by decide) ?_
        refine lv_icmp_ne (tgt := 43) hx hb dX3_source_32 (by decide) (fun _ => ?_) (fun c11 => absurd c11 c10)
        refine lv_iload_n hx hb dX3_source_43 rfl (lv_at hl 2 rfl) ?_
        refine lv_iconst (v := 2) hx hb dX3_source_44 (by decide) ?_
        refine lv_icmp_ne (tgt := 66) hx hb dX3_source_45 (by decide) (fun c12 => ?_) (fun c12 => ?_)
        · refine lv_iload_n hx hb dX3_source_66 rfl (lv_at hl 2 rfl) ?_
          refine lv_iconst (v := 3) hx hb dX3_source_67 (by decide) ?_
          refine lv_icmp_ne (tgt := 89) hx hb dX3_source_68 (by decide) (fun c13 => ?_) (fun c13 => ?_)
          · refine lv_aload_n hx hb dX3_source_89 rfl (lv_at hl 0 rfl) ?_
            refine lv_aload_n hx hb dX3_source_90 rfl (lv_at hl 0 rfl) ?_
            refine va_get (D := (dC, dI)) (ci := 3) (v := .ref (h 2)) (C := RX3) (T := TX3) (N := 9) hx hb hts (fun _ h9 => List.mem_cons_of_mem _ (List.mem_append_right _ h9)) hown hK hP 0 rfl rfl 1 (by decide) (hts (.fieldLink RX3 14 "LowPowerCpuModel" "\x72" "[I") (by decide +kernel)) (fun _ h9 => h9) rfl dX3_source_91 ?_
            refine lv_iload_n hx hb dX3_source_94 rfl (lv_at hl 2 rfl) ?_
            refine va_iald hx hb hK hP 2 0 rfl rfl ha2 dX3_source_95 ?_
            refine callR_v (va_runV (As := [.int (σ.2.1 a2.toNatClampNeg)]) (rest := []) ⟨hx, hb, hml, hown, hts⟩ (c_X3_memory l dC dI h k _ σ (σ.2.1 a2.toNatClampNeg)) (cwV 1 hts gX3_source_X3_memory rfl rfl rfl (by decide +kernel) ⟨Nat.le_of_ble_eq_true rfl, Nat.le_of_ble_eq_true rfl⟩) (preR_V (ci := 3) (q0 := 0) hct hP hD hS rfl rfl) rfl rfl hl.1 rfl (lv_room (Nat.le_of_ble_eq_true rfl)) dX3_source_96 ⟨Nat.le_of_ble_eq_true rfl, Nat.le_of_ble_eq_true rfl⟩) hS (fun σ14 H locs eσ14 hP hD hS => ?_)
            exact J (σ14) ls _ _ (by subst eσ14; exact ((if_neg c1).trans ((if_neg c10).trans ((if_neg c12).trans (if_neg c13)))).symm) (lv_sub hl [0, 1, 2] rfl) hP hD hS
          · refine lv_aload_n hx hb dX3_source_71 rfl (lv_at hl 0 rfl) ?_
            refine lv_iload_n hx hb dX3_source_72 rfl (lv_at hl 1 rfl) ?_
            refine lv_iconst (v := 2) hx hb dX3_source_73 (by decide) ?_
            refine wj (α := Int32) (D := (dC, dI)) (cl := vwCl) (A := AX 4 h s.heap.size) (H0 := s.heap) (if a1 = 2 then 2 else 65535) (fun v16 => wsR h k σ) (fun v16 => [(0, .ref (h 0)), (1, .int a1), (2, .int a2)]) 3 (fun v16 ls => F0 m 83 ls [.int v16, .ref (h 0)]) ?_ ?_
            · intro v16 ls H locs ev16 hl hP hD hS
              try dsimp only at hl hP hD ⊢
              refine callR_v (va_runV (As := [.int v16]) (rest := []) ⟨hx, hb, hml, hown, hts⟩ (c_X3_number l dC dI h k _ σ v16) (cwV 1 hts gX3_source_X3_number rfl rfl rfl (by decide +kernel) ⟨Nat.le_of_ble_eq_true rfl, Nat.le_of_ble_eq_true rfl⟩) (preR_V (ci := 3) (q0 := 0) hct hP hD hS rfl rfl) rfl rfl hl.1 rfl (lv_room (Nat.le_of_ble_eq_true rfl)) dX3_source_83 ⟨Nat.le_of_ble_eq_true rfl, Nat.le_of_ble_eq_true rfl⟩) hS (fun σ17 H locs eσ17 hP hD hS => ?_)
              refine lv_goto (tgt := 99) hx hb dX3_source_86 (by decide) ?_
              exact J (σ17) ls _ _ (by subst eσ17; subst ev16; exact ((if_neg c1).trans ((if_neg c10).trans ((if_neg c12).trans (if_pos c13)))).symm) (lv_sub hl [0, 1, 2] rfl) hP hD hS
            · intro J
              refine lv_icmp_ne (tgt := 81) hx hb dX3_source_74 (by decide) (fun c15 => ?_) (fun c15 => ?_)
              · refine lv_ldc (v := 65535) hx hb hown (hts (.constant RX3 50 65535) (by decide +kernel)) dX3_source_81 ?_
                exact J (65535) ls _ _ (by exact (if_neg c15).symm) (lv_sub hl [0, 1, 2] rfl) hP hD hS
              · refine lv_iconst (v := 2) hx hb dX3_source_77 (by decide) ?_
                refine lv_goto (tgt := 83) hx hb dX3_source_78 (by decide) ?_
                exact J (2) ls _ _ (by exact (if_pos c15).symm) (lv_sub hl [0, 1, 2] rfl) hP hD hS
        · refine lv_aload_n hx hb dX3_source_48 rfl (lv_at hl 0 rfl) ?_
          refine lv_iload_n hx hb dX3_source_49 rfl (lv_at hl 1 rfl) ?_
          refine lv_iconst (v := 2) hx hb dX3_source_50 (by decide) ?_
          refine wj (α := Int32) (D := (dC, dI)) (cl := vwCl) (A := AX 4 h s.heap.size) (H0 := s.heap) (if a1 = 2 then 4 else 8) (fun v19 => wsR h k σ) (fun v19 => [(0, .ref (h 0)), (1, .int a1), (2, .int a2)]) 3 (fun v19 ls => F0 m 60 ls [.int v19, .ref (h 0)]) ?_ ?_
          · intro v19 ls H locs ev19 hl hP hD hS
            try dsimp only at hl hP hD ⊢
            refine callR_v (va_runV (As := [.int v19]) (rest := []) ⟨hx, hb, hml, hown, hts⟩ (c_X3_number l dC dI h k _ σ v19) (cwV 1 hts gX3_source_X3_number rfl rfl rfl (by decide +kernel) ⟨Nat.le_of_ble_eq_true rfl, Nat.le_of_ble_eq_true rfl⟩) (preR_V (ci := 3) (q0 := 0) hct hP hD hS rfl rfl) rfl rfl hl.1 rfl (lv_room (Nat.le_of_ble_eq_true rfl)) dX3_source_60 ⟨Nat.le_of_ble_eq_true rfl, Nat.le_of_ble_eq_true rfl⟩) hS (fun σ20 H locs eσ20 hP hD hS => ?_)
            refine lv_goto (tgt := 99) hx hb dX3_source_63 (by decide) ?_
            exact J (σ20) ls _ _ (by subst eσ20; subst ev19; exact ((if_neg c1).trans ((if_neg c10).trans (if_pos c12))).symm) (lv_sub hl [0, 1, 2] rfl) hP hD hS
          · intro J
            refine lv_icmp_ne (tgt := 58) hx hb dX3_source_51 (by decide) (fun c18 => ?_) (fun c18 => ?_)
            · refine lv_bipush (v := 8) hx hb dX3_source_58 (by decide) ?_
              exact J (8) ls _ _ (by exact (if_neg c18).symm) (lv_sub hl [0, 1, 2] rfl) hP hD hS
            · refine lv_iconst (v := 4) hx hb dX3_source_54 (by decide) ?_
              refine lv_goto (tgt := 60) hx hb dX3_source_55 (by decide) ?_
              exact J (4) ls _ _ (by exact (if_pos c18).symm) (lv_sub hl [0, 1, 2] rfl) hP hD hS
      · refine lv_iload_n hx hb dX3_source_17 rfl (lv_at hl 2 rfl) ?_
        refine lv_iconst (v := 3) hx hb dX3_source_18 (by decide) ?_
        refine lv_icmp_eq (tgt := 30) hx hb dX3_source_19 (by decide) (fun c21 => ?_) (fun c21 => ?_)
        · refine lv_iload_n hx hb dX3_source_30 rfl (lv_at hl 1 rfl) ?_
          refine lv_iconst (v := 1) hx hb dX3_source_31 (by decide) ?_
          refine lv_icmp_ne (tgt := 43) hx hb dX3_source_32 (by decide) (fun c22 => absurd c10 c22) (fun _ => ?_)
          refine lv_aload_n hx hb dX3_source_35 rfl (lv_at hl 0 rfl) ?_
          refine lv_iconst (v := 1) hx hb dX3_source_36 (by decide) ?_
          refine callR_v (va_runV (As := [.int 1]) (rest := []) ⟨hx, hb, hml, hown, hts⟩ (c_X3_number l dC dI h k _ σ 1) (cwV 1 hts gX3_source_X3_number rfl rfl rfl (by decide +kernel) ⟨Nat.le_of_ble_eq_true rfl, Nat.le_of_ble_eq_true rfl⟩) (preR_V (ci := 3) (q0 := 0) hct hP hD hS rfl rfl) rfl rfl hl.1 rfl (lv_room (Nat.le_of_ble_eq_true rfl)) dX3_source_37 ⟨Nat.le_of_ble_eq_true rfl, Nat.le_of_ble_eq_true rfl⟩) hS (fun σ23 H locs eσ23 hP hD hS => ?_)
          refine lv_goto (tgt := 99) hx hb dX3_source_40 (by decide) ?_
          exact J (σ23) ls _ _ (by subst eσ23; exact ((if_neg c1).trans ((if_pos c10).trans (if_pos c21))).symm) (lv_sub hl [0, 1, 2] rfl) hP hD hS
        · refine lv_aload_n hx hb dX3_source_22 rfl (lv_at hl 0 rfl) ?_
          refine lv_iload_n hx hb dX3_source_23 rfl (lv_at hl 2 rfl) ?_
          refine callR_v (va_runV (As := [.int a2]) (rest := []) ⟨hx, hb, hml, hown, hts⟩ (c_X3_indexed l dC dI h k _ σ a2 ha2 hI) (cwV 1 hts gX3_source_X3_indexed rfl rfl rfl (by decide +kernel) ⟨Nat.le_of_ble_eq_true rfl, Nat.le_of_ble_eq_true rfl⟩) (preR_V (ci := 3) (q0 := 0) hct hP hD hS rfl rfl) rfl rfl hl.1 rfl (lv_room (Nat.le_of_ble_eq_true rfl)) dX3_source_24 ⟨Nat.le_of_ble_eq_true rfl, Nat.le_of_ble_eq_true rfl⟩) hS (fun σ24 H locs eσ24 hP hD hS => ?_)
          refine lv_goto (tgt := 99) hx hb dX3_source_27 (by decide) ?_
          exact J (σ24) ls _ _ (by subst eσ24; exact ((if_neg c1).trans ((if_pos c10).trans (if_neg c21))).symm) (lv_sub hl [0, 1, 2] rfl) hP hD hS
    · refine lv_aload_n hx hb dX3_source_4 rfl (lv_at hl 0 rfl) ?_
      refine lv_iload_n hx hb dX3_source_5 rfl (lv_at hl 2 rfl) ?_
      refine callR_v (va_runV (As := [.int a2]) (rest := []) ⟨hx, hb, hml, hown, hts⟩ (c_X3_register l dC dI h k _ σ a2 ha2) (cwV 1 hts gX3_source_X3_register rfl rfl rfl (by decide +kernel) ⟨Nat.le_of_ble_eq_true rfl, Nat.le_of_ble_eq_true rfl⟩) (preR_V (ci := 3) (q0 := 0) hct hP hD hS rfl rfl) rfl rfl hl.1 rfl (lv_room (Nat.le_of_ble_eq_true rfl)) dX3_source_6 ⟨Nat.le_of_ble_eq_true rfl, Nat.le_of_ble_eq_true rfl⟩) hS (fun σ25 H locs eσ25 hP hD hS => ?_)
      refine lv_goto (tgt := 99) hx hb dX3_source_9 (by decide) ?_
      exact J (σ25) ls _ _ (by subst eσ25; exact (if_pos c1).symm) (lv_sub hl [0, 1, 2] rfl) hP hD hS
