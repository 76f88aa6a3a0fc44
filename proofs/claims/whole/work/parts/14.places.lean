set_option maxHeartbeats 4000000 in
set_option maxRecDepth 100000 in
theorem c_X2_indexedPlace (l : Launch) (dC : Nat → ClassId) (dI : Nat → Nat → Nat) (h : Nat → Nat) (k : Nat → ClassId) (g : Nat → Nat) (sz : Nat) (σ : StC) (a1 : Int32) : Met l yX2_indexedPlace wsX2_indexedPlace ({ frames := 2, cells := 0, slots := 0, locals := 44 }) (PcC (dC, dI) h k g [.ref (h 0), .int a1] sz σ) (va_Qi (fun r u => (r, u) = (f_X2_indexedPlace σ a1)) (BC (dC, dI) h k (AX 5 h sz)) (AX 5 h sz)) 0 0 (AX 5 h sz) := by
  refine Met.ofW (cc := cX2_indexedPlace) (maxL := 4) (ret := (some .int)) (by decide) rfl ?_
  intro p e s m args below meth c s₁ B hml hv
  obtain ⟨rfl, rfl, hP, hct, hD⟩ := hv
  have hx := B.exec
  have hb := B.bytes
  have hr := B.returns
  have hts := atoms_spec (ws := wsX2_indexedPlace) B.pre
  have hown : s.vm.findClass RX2 = some m.cls := findClass_of_methodNamed B.named
  have hlocks := B.notSynchronized
  have hK := hct.1
  have hN := hct.2.1
  have hS : va_S (AX 5 h s.heap.size) s.heap s.heap [] := va_S.rf
  have hl := lv_entry ([.ref (h 0), .int a1]) (n := 4) (Nat.le_of_ble_eq_true rfl)
  rw [lg_entry_eq]
  generalize (lg_sl ([.ref (h 0), .int a1]) ++ List.replicate (4 - (lg_sl ([.ref (h 0), .int a1])).length) Slot.unset).toArray = ls at hl ⊢
  have hl : lv_has ls 4 [(0, .ref (h 0)), (1, .int a1)] := hl
  refine lv_iload_n hx hb dX2_indexedPlace_0 rfl (lv_at hl 1 rfl) ?_
  refine lv_iconst (v := 2) hx hb dX2_indexedPlace_1 (by decide) ?_
  refine wj (α := Int32) (D := (dC, dI)) (cl := vwCl) (A := AX 5 h s.heap.size) (H0 := s.heap) (if a1 = 2 then 0 else σ.1 (a1 &&& (15 : Int32)).toNatClampNeg) (fun v2 => wsC h k σ) (fun v2 => [(0, .ref (h 0)), (1, .int a1)]) 4 (fun v2 ls => F0 m 18 ls [.int v2]) ?_ ?_
  · intro v2 ls H locs ev2 hl hP hD hS
    try dsimp only at hl hP hD ⊢
    refine lv_istore_n (lv' := [(2, .int v2), (0, .ref (h 0)), (1, .int a1)]) hx hb dX2_indexedPlace_18 rfl hl (by decide) rfl (fun ls hl => ?_)
    refine lv_aload_n hx hb dX2_indexedPlace_19 rfl (lv_at hl 1 rfl) ?_
    refine va_get (D := (dC, dI)) (ci := 2) (v := .ref (h 1)) (C := RX2) (T := TX2) (N := 4) hx hb hts (fun _ h9 => List.mem_cons_of_mem _ (List.mem_append_left _ (List.mem_append_left _ (List.mem_append_right _ h9)))) hown hK hP 0 rfl rfl 0 (by decide) (hts (.fieldLink RX2 12 "LowPowerCpu" "memory" "LLowPowerCpu$Memory;") (by decide +kernel)) (fun _ h9 => h9) rfl dX2_indexedPlace_20 ?_
    refine lv_aload_n hx hb dX2_indexedPlace_23 rfl (lv_at hl 1 rfl) ?_
    refine va_get (D := (dC, dI)) (ci := 2) (v := .ref (h 2)) (C := RX2) (T := TX2) (N := 4) hx hb hts (fun _ h9 => List.mem_cons_of_mem _ (List.mem_append_left _ (List.mem_append_left _ (List.mem_append_right _ h9)))) hown hK hP 0 rfl rfl 1 (by decide) (hts (.fieldLink RX2 16 "LowPowerCpu" "registers" "[I") (by decide +kernel)) (fun _ h9 => h9) rfl dX2_indexedPlace_24 ?_
    refine lv_iconst (v := 0) hx hb dX2_indexedPlace_27 (by decide) ?_
    refine va_iald hx hb hK hP 2 0 rfl rfl (in_c (by decide)) dX2_indexedPlace_28 ?_
    refine callC_ip (va_runVN (As := [.int (σ.1 (0 : Int32).toNatClampNeg)]) (rest := []) ⟨hx, hb, hml, hown, hts⟩ (c_X0_wordAt l dC dI h k g _ σ (σ.1 (0 : Int32).toNatClampNeg)) ⟨va_cnB 1 hts gX2_indexedPlace_X0_wordAt_n40 rfl rfl rfl (hN (.methodLinkNest RX2 40 yX0_wordAt RX2) (List.mem_of_getElem? (i := 3) rfl)) (hts (.initialized RX0) (by decide +kernel)) (by decide +kernel) ⟨Nat.le_of_ble_eq_true rfl, Nat.le_of_ble_eq_true rfl⟩, hts (.instanceMethod yX0_wordAt) (by decide +kernel), hts (.selects RX0 yX0_wordAt yX0_wordAt) (by decide +kernel)⟩ (preC_V (ci := 0) (q0 := 1) hct hP hD hS rfl rfl) rfl rfl hl.1 rfl (lv_room (Nat.le_of_ble_eq_true rfl)) dX2_indexedPlace_29 ⟨Nat.le_of_ble_eq_true rfl, Nat.le_of_ble_eq_true rfl⟩) hS (fun x3 H locs ex3 hP hD hS => ?_)
    refine lv_istore_n (lv' := [(3, .int x3), (2, .int v2), (0, .ref (h 0)), (1, .int a1)]) hx hb dX2_indexedPlace_32 rfl hl (by decide) rfl (fun ls hl => ?_)
    refine lv_aload_n hx hb dX2_indexedPlace_33 rfl (lv_at hl 2 rfl) ?_
    refine lv_iconst (v := 0) hx hb dX2_indexedPlace_34 (by decide) ?_
    refine lv_iconst (v := 2) hx hb dX2_indexedPlace_35 (by decide) ?_
    refine callC_v (va_runV (As := [.int 0, .int 2]) (rest := []) ⟨hx, hb, hml, hown, hts⟩ (c_X2_addToRegister l dC dI h k g _ σ 0 2) (cwV 2 hts gX2_indexedPlace_X2_addToRegister rfl rfl rfl (by decide +kernel) ⟨Nat.le_of_ble_eq_true rfl, Nat.le_of_ble_eq_true rfl⟩) (preC_V (ci := 2) (q0 := 0) hct hP hD hS rfl rfl) rfl rfl hl.1 rfl (lv_room (Nat.le_of_ble_eq_true rfl)) dX2_indexedPlace_36 ⟨Nat.le_of_ble_eq_true rfl, Nat.le_of_ble_eq_true rfl⟩) hS (fun σ4 H locs eσ4 hP hD hS => ?_)
    refine lv_iload_n hx hb dX2_indexedPlace_39 rfl (lv_at hl 0 rfl) ?_
    refine lv_iload_n hx hb dX2_indexedPlace_40 rfl (lv_at hl 1 rfl) ?_
    refine lv_iadd hx hb dX2_indexedPlace_41 ?_
    refine lv_ldc (v := 65535) hx hb hown (hts (.constant RX2 149 65535) (by decide +kernel)) dX2_indexedPlace_42 ?_
    refine lv_iand hx hb dX2_indexedPlace_44 ?_
    exact retC_i hx hb hr hlocks (by subst eσ4; subst ex3; subst ev2; exact rfl) hP hD hS dX2_indexedPlace_45
  · intro J
    refine lv_icmp_ne (tgt := 9) hx hb dX2_indexedPlace_2 (by decide) (fun c1 => ?_) (fun c1 => ?_)
    · refine lv_aload_n hx hb dX2_indexedPlace_9 rfl (lv_at hl 0 rfl) ?_
      refine va_get (D := (dC, dI)) (ci := 2) (v := .ref (h 2)) (C := RX2) (T := TX2) (N := 4) hx hb hts (fun _ h9 => List.mem_cons_of_mem _ (List.mem_append_left _ (List.mem_append_left _ (List.mem_append_right _ h9)))) hown hK hP 0 rfl rfl 1 (by decide) (hts (.fieldLink RX2 16 "LowPowerCpu" "registers" "[I") (by decide +kernel)) (fun _ h9 => h9) rfl dX2_indexedPlace_10 ?_
      refine lv_iload_n hx hb dX2_indexedPlace_13 rfl (lv_at hl 1 rfl) ?_
      refine lv_bipush (v := 15) hx hb dX2_indexedPlace_14 (by decide) ?_
      refine lv_iand hx hb dX2_indexedPlace_16 ?_
      refine va_iald hx hb hK hP 2 0 rfl rfl (pk_andIn _ 4 (by decide) (by decide)) dX2_indexedPlace_17 ?_
      exact J (σ.1 (a1 &&& (15 : Int32)).toNatClampNeg) ls _ _ (by exact (if_neg c1).symm) (lv_sub hl [0, 1] rfl) hP hD hS
    · refine lv_iconst (v := 0) hx hb dX2_indexedPlace_5 (by decide) ?_
      refine lv_goto (tgt := 18) hx hb dX2_indexedPlace_6 (by decide) ?_
      exact J (0) ls _ _ (by exact (if_pos c1).symm) (lv_sub hl [0, 1] rfl) hP hD hS

set_option maxHeartbeats 4000000 in
set_option maxRecDepth 100000 in
theorem c_X2_destinationPlace (l : Launch) (dC : Nat → ClassId) (dI : Nat → Nat → Nat) (h : Nat → Nat) (k : Nat → ClassId) (g : Nat → Nat) (sz : Nat) (σ : StC) (a1 : Int32) : Met l yX2_destinationPlace wsX2_destinationPlace ({ frames := 3, cells := 0, slots := 0, locals := 67 }) (PcC (dC, dI) h k g [.ref (h 0), .int a1] sz σ) (va_Qi (fun r u => (r, u) = (f_X2_destinationPlace σ a1)) (BC (dC, dI) h k (AX 5 h sz)) (AX 5 h sz)) 0 0 (AX 5 h sz) := by
  refine Met.ofW (cc := cX2_destinationPlace) (maxL := 3) (ret := (some .int)) (by decide) rfl ?_
  intro p e s m args below meth c s₁ B hml hv
  obtain ⟨rfl, rfl, hP, hct, hD⟩ := hv
  have hx := B.exec
  have hb := B.bytes
  have hr := B.returns
  have hts := atoms_spec (ws := wsX2_destinationPlace) B.pre
  have hown : s.vm.findClass RX2 = some m.cls := findClass_of_methodNamed B.named
  have hlocks := B.notSynchronized
  have hK := hct.1
  have hN := hct.2.1
  have hS : va_S (AX 5 h s.heap.size) s.heap s.heap [] := va_S.rf
  have hl := lv_entry ([.ref (h 0), .int a1]) (n := 3) (Nat.le_of_ble_eq_true rfl)
  rw [lg_entry_eq]
  generalize (lg_sl ([.ref (h 0), .int a1]) ++ List.replicate (3 - (lg_sl ([.ref (h 0), .int a1])).length) Slot.unset).toArray = ls at hl ⊢
  have hl : lv_has ls 3 [(0, .ref (h 0)), (1, .int a1)] := hl
  refine lv_iload_n hx hb dX2_destinationPlace_0 rfl (lv_at hl 1 rfl) ?_
  refine lv_bipush (v := 15) hx hb dX2_destinationPlace_1 (by decide) ?_
  refine lv_iand hx hb dX2_destinationPlace_3 ?_
  refine lv_topi (fun x1 ex1 => ?_)
  refine lv_istore_n (lv' := [(2, .int x1), (0, .ref (h 0)), (1, .int a1)]) hx hb dX2_destinationPlace_4 rfl hl (by decide) rfl (fun ls hl => ?_)
  refine lv_iload_n hx hb dX2_destinationPlace_5 rfl (lv_at hl 2 rfl) ?_
  refine lv_sipush (v := 128) hx hb dX2_destinationPlace_6 (by decide) ?_
  refine lv_iand hx hb dX2_destinationPlace_9 ?_
  refine lv_if_ne (tgt := 18) hx hb dX2_destinationPlace_10 (by decide) (fun c2 => ?_) (fun c2 => ?_)
  · refine lv_aload_n hx hb dX2_destinationPlace_18 rfl (lv_at hl 1 rfl) ?_
    refine lv_iload_n hx hb dX2_destinationPlace_19 rfl (lv_at hl 0 rfl) ?_
    refine callC_i (va_runV (As := [.int x1]) (rest := []) ⟨hx, hb, hml, hown, hts⟩ (c_X2_indexedPlace l dC dI h k g _ σ x1) (cwV 1 hts gX2_destinationPlace_X2_indexedPlace rfl rfl rfl (by decide +kernel) ⟨Nat.le_of_ble_eq_true rfl, Nat.le_of_ble_eq_true rfl⟩) (preC_V (ci := 2) (q0 := 0) hct hP hD hS rfl rfl) rfl rfl hl.1 rfl (lv_room (Nat.le_of_ble_eq_true rfl)) dX2_destinationPlace_20 ⟨Nat.le_of_ble_eq_true rfl, Nat.le_of_ble_eq_true rfl⟩) hS (fun x3 σ4 H locs ex3 eσ4 hP hD hS => ?_)
    exact retC_i hx hb hr hlocks (by subst eσ4; subst ex3; subst ex1; exact if_neg c2) hP hD hS dX2_destinationPlace_23
  · refine lv_ldc (v := 65536) hx hb hown (hts (.constant RX2 48 65536) (by decide +kernel)) dX2_destinationPlace_13 ?_
    refine lv_iload_n hx hb dX2_destinationPlace_15 rfl (lv_at hl 0 rfl) ?_
    refine lv_iadd hx hb dX2_destinationPlace_16 ?_
    exact retC_i hx hb hr hlocks (by subst ex1; exact if_pos c2) hP hD hS dX2_destinationPlace_17

set_option maxHeartbeats 4000000 in
set_option maxRecDepth 100000 in
theorem c_X2_sourcePlace (l : Launch) (dC : Nat → ClassId) (dI : Nat → Nat → Nat) (h : Nat → Nat) (k : Nat → ClassId) (g : Nat → Nat) (sz : Nat) (σ : StC) (a1 : Int32) (a2 : Int32) (ha2 : vp_in a2 16) : Met l yX2_sourcePlace wsX2_sourcePlace ({ frames := 3, cells := 0, slots := 0, locals := 67 }) (PcC (dC, dI) h k g [.ref (h 0), .int a1, .int a2] sz σ) (va_Qi (fun r u => (r, u) = (f_X2_sourcePlace σ a1 a2)) (BC (dC, dI) h k (AX 5 h sz)) (AX 5 h sz)) 0 0 (AX 5 h sz) := by
  refine Met.ofW (cc := cX2_sourcePlace) (maxL := 6) (ret := (some .int)) (by decide) rfl ?_
  intro p e s m args below meth c s₁ B hml hv
  obtain ⟨rfl, rfl, hP, hct, hD⟩ := hv
  have hx := B.exec
  have hb := B.bytes
  have hr := B.returns
  have hts := atoms_spec (ws := wsX2_sourcePlace) B.pre
  have hown : s.vm.findClass RX2 = some m.cls := findClass_of_methodNamed B.named
  have hlocks := B.notSynchronized
  have hK := hct.1
  have hN := hct.2.1
  have hS : va_S (AX 5 h s.heap.size) s.heap s.heap [] := va_S.rf
  have hl := lv_entry ([.ref (h 0), .int a1, .int a2]) (n := 6) (Nat.le_of_ble_eq_true rfl)
  rw [lg_entry_eq]
  generalize (lg_sl ([.ref (h 0), .int a1, .int a2]) ++ List.replicate (6 - (lg_sl ([.ref (h 0), .int a1, .int a2])).length) Slot.unset).toArray = ls at hl ⊢
  have hl : lv_has ls 6 [(0, .ref (h 0)), (1, .int a1), (2, .int a2)] := hl
  refine lv_iload_n hx hb dX2_sourcePlace_0 rfl (lv_at hl 1 rfl) ?_
  refine lv_iconst (v := 4) hx hb dX2_sourcePlace_1 (by decide) ?_
  refine lv_ishr hx hb dX2_sourcePlace_2 ?_
  refine lv_iconst (v := 3) hx hb dX2_sourcePlace_3 (by decide) ?_
  refine lv_iand hx hb dX2_sourcePlace_4 ?_
  refine lv_topi (fun x1 ex1 => ?_)
  refine lv_istore_n (lv' := [(3, .int x1), (0, .ref (h 0)), (1, .int a1), (2, .int a2)]) hx hb dX2_sourcePlace_5 rfl hl (by decide) rfl (fun ls hl => ?_)
  refine lv_iload_n hx hb dX2_sourcePlace_6 rfl (lv_at hl 3 rfl) ?_
  refine lv_iconst (v := 3) hx hb dX2_sourcePlace_7 (by decide) ?_
  refine lv_icmp_ne (tgt := 26) hx hb dX2_sourcePlace_8 (by decide) (fun c2 => ?_) (fun c2 => ?_)
  · refine lv_iload_n hx hb dX2_sourcePlace_26 rfl (lv_at hl 0 rfl) ?_
    refine lv_if_ne (tgt := 35) hx hb dX2_sourcePlace_27 (by decide) (fun c3 => ?_) (fun c3 => ?_)
    · refine lv_iload_n hx hb dX2_sourcePlace_35 rfl (lv_at hl 0 rfl) ?_
      refine lv_iconst (v := 1) hx hb dX2_sourcePlace_36 (by decide) ?_
      refine lv_icmp_ne (tgt := 46) hx hb dX2_sourcePlace_37 (by decide) (fun c4 => ?_) (fun c4 => ?_)
      · refine lv_iload_n hx hb dX2_sourcePlace_46 rfl (lv_at hl 3 rfl) ?_
        refine lv_iconst (v := 2) hx hb dX2_sourcePlace_47 (by decide) ?_
        refine lv_icmp_ne (tgt := 66) hx hb dX2_sourcePlace_48 (by decide) (fun c5 => ?_) (fun c5 => ?_)
        · refine lv_aload_n hx hb dX2_sourcePlace_66 rfl (lv_at hl 1 rfl) ?_
          refine va_get (D := (dC, dI)) (ci := 2) (v := .ref (h 2)) (C := RX2) (T := TX2) (N := 4) hx hb hts (fun _ h9 => List.mem_cons_of_mem _ (List.mem_append_left _ (List.mem_append_left _ (List.mem_append_right _ h9)))) hown hK hP 0 rfl rfl 1 (by decide) (hts (.fieldLink RX2 16 "LowPowerCpu" "registers" "[I") (by decide +kernel)) (fun _ h9 => h9) rfl dX2_sourcePlace_67 ?_
          refine lv_iload_n hx hb dX2_sourcePlace_70 rfl (lv_at hl 3 rfl) ?_
          refine va_iald hx hb hK hP 2 0 rfl rfl ha2 dX2_sourcePlace_71 ?_
          refine lv_topi (fun x6 ex6 => ?_)
          refine lv_istore (lv' := [(4, .int x6), (3, .int x1), (0, .ref (h 0)), (1, .int a1), (2, .int a2)]) hx hb dX2_sourcePlace_72 hl (by decide) rfl (fun ls hl => ?_)
          refine lv_iload_n hx hb dX2_sourcePlace_74 rfl (lv_at hl 1 rfl) ?_
          refine lv_iconst (v := 3) hx hb dX2_sourcePlace_75 (by decide) ?_
          refine wj (α := StC) (D := (dC, dI)) (cl := vwCl) (A := AX 5 h s.heap.size) (H0 := s.heap) (if x1 = 3 then let v10 : Int32 := (if (a1 &&& (64 : Int32)) = 0 then 0 else if a2 = 0 then 0 else if a2 = 1 then 0 else 1); let v12 : Int32 := (if v10 = 0 then 2 else 1); let σ13 : StC := (f_X2_addToRegister σ a2 v12); σ13 else σ) (fun v8 => wsC h k v8) (fun v8 => [(4, .int x6), (3, .int x1), (0, .ref (h 0)), (1, .int a1), (2, .int a2)]) 6 (fun v8 ls => F0 m 117 ls []) ?_ ?_
          · intro v8 ls H locs ev8 hl hP hD hS
            try dsimp only at hl hP hD ⊢
            refine lv_iload hx hb dX2_sourcePlace_117 (lv_at hl 0 rfl) ?_
            exact retC_i hx hb hr hlocks (by subst ev8; subst ex6; subst ex1; exact (if_neg c2).trans ((if_neg c3).trans ((if_neg c4).trans (if_neg c5)))) hP hD hS dX2_sourcePlace_119
          · intro J
            refine lv_icmp_ne (tgt := 117) hx hb dX2_sourcePlace_76 (by decide) (fun c7 => ?_) (fun c7 => ?_)
            · exact J (σ) ls _ _ (by exact (if_neg c7).symm) (lv_sub hl [0, 1, 2, 3, 4] rfl) hP hD hS
            · refine lv_iload_n hx hb dX2_sourcePlace_79 rfl (lv_at hl 3 rfl) ?_
              refine lv_bipush (v := 64) hx hb dX2_sourcePlace_80 (by decide) ?_
              refine lv_iand hx hb dX2_sourcePlace_82 ?_
              refine wj (α := Int32) (D := (dC, dI)) (cl := vwCl) (A := AX 5 h s.heap.size) (H0 := s.heap) (if (a1 &&& (64 : Int32)) = 0 then 0 else if a2 = 0 then 0 else if a2 = 1 then 0 else 1) (fun v10 => wsC h k σ) (fun v10 => [(4, .int x6), (3, .int x1), (0, .ref (h 0)), (1, .int a1), (2, .int a2)]) 6 (fun v10 ls => F0 m 100 ls [.int v10]) ?_ ?_
              · intro v10 ls H locs ev10 hl hP hD hS
                try dsimp only at hl hP hD ⊢
                refine lv_istore (lv' := [(5, .int v10), (4, .int x6), (3, .int x1), (0, .ref (h 0)), (1, .int a1), (2, .int a2)]) hx hb dX2_sourcePlace_100 hl (by decide) rfl (fun ls hl => ?_)
                refine lv_aload_n hx hb dX2_sourcePlace_102 rfl (lv_at hl 3 rfl) ?_
                refine lv_iload_n hx hb dX2_sourcePlace_103 rfl (lv_at hl 5 rfl) ?_
                refine lv_iload hx hb dX2_sourcePlace_104 (lv_at hl 0 rfl) ?_
                refine wj (α := Int32) (D := (dC, dI)) (cl := vwCl) (A := AX 5 h s.heap.size) (H0 := s.heap) (if v10 = 0 then 2 else 1) (fun v12 => wsC h k σ) (fun v12 => [(5, .int v10), (4, .int x6), (3, .int x1), (0, .ref (h 0)), (1, .int a1), (2, .int a2)]) 6 (fun v12 ls => F0 m 114 ls [.int v12, .int a2, .ref (h 0)]) ?_ ?_
                · intro v12 ls H locs ev12 hl hP hD hS
                  try dsimp only at hl hP hD ⊢
                  refine callC_v (va_runV (As := [.int a2, .int v12]) (rest := []) ⟨hx, hb, hml, hown, hts⟩ (c_X2_addToRegister l dC dI h k g _ σ a2 v12) (cwV 2 hts gX2_sourcePlace_X2_addToRegister rfl rfl rfl (by decide +kernel) ⟨Nat.le_of_ble_eq_true rfl, Nat.le_of_ble_eq_true rfl⟩) (preC_V (ci := 2) (q0 := 0) hct hP hD hS rfl rfl) rfl rfl hl.1 rfl (lv_room (Nat.le_of_ble_eq_true rfl)) dX2_sourcePlace_114 ⟨Nat.le_of_ble_eq_true rfl, Nat.le_of_ble_eq_true rfl⟩) hS (fun σ13 H locs eσ13 hP hD hS => ?_)
                  exact J (σ13) ls _ _ (by subst eσ13; subst ev12; subst ev10; exact (if_pos c7).symm) (lv_sub hl [1, 2, 3, 4, 5] rfl) hP hD hS
                · intro J
                  refine lv_if_eq (tgt := 113) hx hb dX2_sourcePlace_106 (by decide) (fun c11 => ?_) (fun c11 => ?_)
                  · refine lv_iconst (v := 2) hx hb dX2_sourcePlace_113 (by decide) ?_
                    exact J (2) ls _ _ (by exact (if_pos c11).symm) (lv_sub hl [0, 1, 2, 3, 4, 5] rfl) hP hD hS
                  · refine lv_iconst (v := 1) hx hb dX2_sourcePlace_109 (by decide) ?_
                    refine lv_goto (tgt := 114) hx hb dX2_sourcePlace_110 (by decide) ?_
                    exact J (1) ls _ _ (by exact (if_neg c11).symm) (lv_sub hl [0, 1, 2, 3, 4, 5] rfl) hP hD hS
              · intro J
                refine lv_if_eq (tgt := 99) hx hb dX2_sourcePlace_83 (by decide) (fun c9 => ?_) (fun c9 => ?_)
                · refine lv_iconst (v := 0) hx hb dX2_sourcePlace_99 (by decide) ?_
                  exact J (0) ls _ _ (by exact (if_pos c9).symm) (lv_sub hl [0, 1, 2, 3, 4] rfl) hP hD hS
                · refine lv_iload_n hx hb dX2_sourcePlace_86 rfl (lv_at hl 4 rfl) ?_
                  refine lv_if_eq (tgt := 99) hx hb dX2_sourcePlace_87 (by decide) (fun c14 => ?_) (fun c14 => ?_)
                  · refine lv_iconst (v := 0) hx hb dX2_sourcePlace_99 (by decide) ?_
                    exact J (0) ls _ _ (by exact ((if_neg c9).trans (if_pos c14)).symm) (lv_sub hl [0, 1, 2, 3, 4] rfl) hP hD hS
                  · refine lv_iload_n hx hb dX2_sourcePlace_90 rfl (lv_at hl 4 rfl) ?_
                    refine lv_iconst (v := 1) hx hb dX2_sourcePlace_91 (by decide) ?_
                    refine lv_icmp_eq (tgt := 99) hx hb dX2_sourcePlace_92 (by decide) (fun c15 => ?_) (fun c15 => ?_)
                    · refine lv_iconst (v := 0) hx hb dX2_sourcePlace_99 (by decide) ?_
                      exact J (0) ls _ _ (by exact ((if_neg c9).trans ((if_neg c14).trans (if_pos c15))).symm) (lv_sub hl [0, 1, 2, 3, 4] rfl) hP hD hS
                    · refine lv_iconst (v := 1) hx hb dX2_sourcePlace_95 (by decide) ?_
                      refine lv_goto (tgt := 100) hx hb dX2_sourcePlace_96 (by decide) ?_
                      exact J (1) ls _ _ (by exact ((if_neg c9).trans ((if_neg c14).trans (if_neg c15))).symm) (lv_sub hl [0, 1, 2, 3, 4] rfl) hP hD hS
        · refine lv_ldc (v := 131072) hx hb hown (hts (.constant RX2 148 131072) (by decide +kernel)) dX2_sourcePlace_51 ?_
          refine lv_iload_n hx hb dX2_sourcePlace_53 rfl (lv_at hl 0 rfl) ?_
          refine lv_iconst (v := 2) hx hb dX2_sourcePlace_54 (by decide) ?_
          refine wj (α := Int32) (D := (dC, dI)) (cl := vwCl) (A := AX 5 h s.heap.size) (H0 := s.heap) (if x1 = 2 then 4 else 8) (fun v17 => wsC h k σ) (fun v17 => [(3, .int x1), (0, .ref (h 0)), (1, .int a1), (2, .int a2)]) 6 (fun v17 ls => F0 m 64 ls [.int v17, .int 131072]) ?_ ?_
          · intro v17 ls H locs ev17 hl hP hD hS
            try dsimp only at hl hP hD ⊢
            refine lv_iadd hx hb dX2_sourcePlace_64 ?_
            exact retC_i hx hb hr hlocks (by subst ev17; subst ex1; exact (if_neg c2).trans ((if_neg c3).trans ((if_neg c4).trans (if_pos c5)))) hP hD hS dX2_sourcePlace_65
          · intro J
            refine lv_icmp_ne (tgt := 62) hx hb dX2_sourcePlace_55 (by decide) (fun c16 => ?_) (fun c16 => ?_)
            · refine lv_bipush (v := 8) hx hb dX2_sourcePlace_62 (by decide) ?_
              exact J (8) ls _ _ (by exact (if_neg c16).symm) (lv_sub hl [0, 1, 2, 3] rfl) hP hD hS
            · refine lv_iconst (v := 4) hx hb dX2_sourcePlace_58 (by decide) ?_
              refine lv_goto (tgt := 64) hx hb dX2_sourcePlace_59 (by decide) ?_
              exact J (4) ls _ _ (by exact (if_pos c16).symm) (lv_sub hl [0, 1, 2, 3] rfl) hP hD hS
      · refine lv_aload_n hx hb dX2_sourcePlace_40 rfl (lv_at hl 1 rfl) ?_
        refine lv_iload_n hx hb dX2_sourcePlace_41 rfl (lv_at hl 3 rfl) ?_
        refine callC_i (va_runV (As := [.int a2]) (rest := []) ⟨hx, hb, hml, hown, hts⟩ (c_X2_indexedPlace l dC dI h k g _ σ a2) (cwV 1 hts gX2_sourcePlace_X2_indexedPlace rfl rfl rfl (by decide +kernel) ⟨Nat.le_of_ble_eq_true rfl, Nat.le_of_ble_eq_true rfl⟩) (preC_V (ci := 2) (q0 := 0) hct hP hD hS rfl rfl) rfl rfl hl.1 rfl (lv_room (Nat.le_of_ble_eq_true rfl)) dX2_sourcePlace_42 ⟨Nat.le_of_ble_eq_true rfl, Nat.le_of_ble_eq_true rfl⟩) hS (fun x18 σ19 H locs ex18 eσ19 hP hD hS => ?_)
        exact retC_i hx hb hr hlocks (by subst eσ19; subst ex18; subst ex1; exact (if_neg c2).trans ((if_neg c3).trans (if_pos c4))) hP hD hS dX2_sourcePlace_45
    · refine lv_ldc (v := 65536) hx hb hown (hts (.constant RX2 48 65536) (by decide +kernel)) dX2_sourcePlace_30 ?_
      refine lv_iload_n hx hb dX2_sourcePlace_32 rfl (lv_at hl 3 rfl) ?_
      refine lv_iadd hx hb dX2_sourcePlace_33 ?_
      exact retC_i hx hb hr hlocks (by subst ex1; exact (if_neg c2).trans (if_pos c3)) hP hD hS dX2_sourcePlace_34
  · refine lv_ldc (v := 131072) hx hb hown (hts (.constant RX2 148 131072) (by decide +kernel)) dX2_sourcePlace_11 ?_
    refine lv_iload_n hx hb dX2_sourcePlace_13 rfl (lv_at hl 0 rfl) ?_
    refine lv_iconst (v := 3) hx hb dX2_sourcePlace_14 (by decide) ?_
    refine wj (α := Int32) (D := (dC, dI)) (cl := vwCl) (A := AX 5 h s.heap.size) (H0 := s.heap) (if x1 = 3 then 65535 else x1) (fun v21 => wsC h k σ) (fun v21 => [(3, .int x1), (0, .ref (h 0)), (1, .int a1), (2, .int a2)]) 6 (fun v21 ls => F0 m 24 ls [.int v21, .int 131072]) ?_ ?_
    · intro v21 ls H locs ev21 hl hP hD hS
      try dsimp only at hl hP hD ⊢
      refine lv_iadd hx hb dX2_sourcePlace_24 ?_
      exact retC_i hx hb hr hlocks (by subst ev21; subst ex1; exact if_pos c2) hP hD hS dX2_sourcePlace_25
    · intro J
      refine lv_icmp_ne (tgt := 23) hx hb dX2_sourcePlace_15 (by decide) (fun c20 => ?_) (fun c20 => ?_)
      · refine lv_iload_n hx hb dX2_sourcePlace_23 rfl (lv_at hl 0 rfl) ?_
        exact J (x1) ls _ _ (by exact (if_neg c20).symm) (lv_sub hl [0, 1, 2, 3] rfl) hP hD hS
      · refine lv_ldc (v := 65535) hx hb hown (hts (.constant RX2 149 65535) (by decide +kernel)) dX2_sourcePlace_18 ?_
        refine lv_goto (tgt := 24) hx hb dX2_sourcePlace_20 (by decide) ?_
        exact J (65535) ls _ _ (by exact (if_pos c20).symm) (lv_sub hl [0, 1, 2, 3] rfl) hP hD hS

set_option maxHeartbeats 4000000 in
set_option maxRecDepth 100000 in
theorem c_X2_valueAt (l : Launch) (dC : Nat → ClassId) (dI : Nat → Nat → Nat) (h : Nat → Nat) (k : Nat → ClassId) (g : Nat → Nat) (sz : Nat) (σ : StC) (a1 : Int32) (a2 : Int32) : Met l yX2_valueAt wsX2_valueAt ({ frames := 3, cells := 0, slots := 0, locals := 64 }) (PcC (dC, dI) h k g [.ref (h 0), .int a1, .int a2] sz σ) (va_Qi (fun r u => (r, u) = (f_X2_valueAt σ a1 a2, σ)) (BC (dC, dI) h k (AX 5 h sz)) (AX 5 h sz)) 0 0 (AX 5 h sz) := by
  refine Met.ofW (cc := cX2_valueAt) (maxL := 4) (ret := (some .int)) (by decide) rfl ?_
  intro p e s m args below meth c s₁ B hml hv
  obtain ⟨rfl, rfl, hP, hct, hD⟩ := hv
  have hx := B.exec
  have hb := B.bytes
  have hr := B.returns
  have hts := atoms_spec (ws := wsX2_valueAt) B.pre
  have hown : s.vm.findClass RX2 = some m.cls := findClass_of_methodNamed B.named
  have hlocks := B.notSynchronized
  have hK := hct.1
  have hN := hct.2.1
  have hS : va_S (AX 5 h s.heap.size) s.heap s.heap [] := va_S.rf
  have hl := lv_entry ([.ref (h 0), .int a1, .int a2]) (n := 4) (Nat.le_of_ble_eq_true rfl)
  rw [lg_entry_eq]
  generalize (lg_sl ([.ref (h 0), .int a1, .int a2]) ++ List.replicate (4 - (lg_sl ([.ref (h 0), .int a1, .int a2])).length) Slot.unset).toArray = ls at hl ⊢
  have hl : lv_has ls 4 [(0, .ref (h 0)), (1, .int a1), (2, .int a2)] := hl
  refine lv_iload_n hx hb dX2_valueAt_0 rfl (lv_at hl 1 rfl) ?_
  refine lv_ldc (v := 65536) hx hb hown (hts (.constant RX2 48 65536) (by decide +kernel)) dX2_valueAt_1 ?_
  refine lv_icmp_ge (tgt := 30) hx hb dX2_valueAt_3 (by decide) (fun c1 => ?_) (fun c1 => ?_)
  · refine lv_iload_n hx hb dX2_valueAt_30 rfl (lv_at hl 1 rfl) ?_
    refine lv_ldc (v := 131072) hx hb hown (hts (.constant RX2 148 131072) (by decide +kernel)) dX2_valueAt_31 ?_
    refine wj (α := Int32) (D := (dC, dI)) (cl := vwCl) (A := AX 5 h s.heap.size) (H0 := s.heap) (if 131072 ≤ a1 then a1 - (131072 : Int32) else σ.1 (a1 &&& (15 : Int32)).toNatClampNeg) (fun v3 => wsC h k σ) (fun v3 => [(0, .ref (h 0)), (1, .int a1), (2, .int a2)]) 4 (fun v3 ls => F0 m 52 ls [.int v3]) ?_ ?_
    · intro v3 ls H locs ev3 hl hP hD hS
      try dsimp only at hl hP hD ⊢
      refine lv_istore_n (lv' := [(3, .int v3), (0, .ref (h 0)), (1, .int a1), (2, .int a2)]) hx hb dX2_valueAt_52 rfl hl (by decide) rfl (fun ls hl => ?_)
      refine lv_iload_n hx hb dX2_valueAt_53 rfl (lv_at hl 3 rfl) ?_
      refine lv_if_eq (tgt := 65) hx hb dX2_valueAt_54 (by decide) (fun c4 => ?_) (fun c4 => ?_)
      · refine lv_iload_n hx hb dX2_valueAt_65 rfl (lv_at hl 0 rfl) ?_
        exact retC_ip hx hb hr hlocks (by subst ev3; exact (if_pos c1).trans (if_pos c4)) hP hD hS dX2_valueAt_66
      · refine lv_iload_n hx hb dX2_valueAt_57 rfl (lv_at hl 0 rfl) ?_
        refine lv_sipush (v := 255) hx hb dX2_valueAt_58 (by decide) ?_
        refine lv_iand hx hb dX2_valueAt_61 ?_
        refine lv_goto (tgt := 66) hx hb dX2_valueAt_62 (by decide) ?_
        exact retC_ip hx hb hr hlocks (by subst ev3; exact (if_pos c1).trans (if_neg c4)) hP hD hS dX2_valueAt_66
    · intro J
      refine lv_icmp_ge (tgt := 48) hx hb dX2_valueAt_33 (by decide) (fun c2 => ?_) (fun c2 => ?_)
      · refine lv_iload_n hx hb dX2_valueAt_48 rfl (lv_at hl 1 rfl) ?_
        refine lv_ldc (v := 131072) hx hb hown (hts (.constant RX2 148 131072) (by decide +kernel)) dX2_valueAt_49 ?_
        refine lv_isub hx hb dX2_valueAt_51 ?_
        exact J (a1 - (131072 : Int32)) ls _ _ (by exact (if_pos c2).symm) (lv_sub hl [0, 1, 2] rfl) hP hD hS
      · refine lv_aload_n hx hb dX2_valueAt_36 rfl (lv_at hl 0 rfl) ?_
        refine va_get (D := (dC, dI)) (ci := 2) (v := .ref (h 2)) (C := RX2) (T := TX2) (N := 4) hx hb hts (fun _ h9 => List.mem_cons_of_mem _ (List.mem_append_left _ (List.mem_append_left _ (List.mem_append_right _ h9)))) hown hK hP 0 rfl rfl 1 (by decide) (hts (.fieldLink RX2 16 "LowPowerCpu" "registers" "[I") (by decide +kernel)) (fun _ h9 => h9) rfl dX2_valueAt_37 ?_
        refine lv_iload_n hx hb dX2_valueAt_40 rfl (lv_at hl 1 rfl) ?_
        refine lv_bipush (v := 15) hx hb dX2_valueAt_41 (by decide) ?_
        refine lv_iand hx hb dX2_valueAt_43 ?_
        refine va_iald hx hb hK hP 2 0 rfl rfl (pk_andIn _ 4 (by decide) (by decide)) dX2_valueAt_44 ?_
        refine lv_goto (tgt := 52) hx hb dX2_valueAt_45 (by decide) ?_
        exact J (σ.1 (a1 &&& (15 : Int32)).toNatClampNeg) ls _ _ (by exact (if_neg c2).symm) (lv_sub hl [0, 1, 2] rfl) hP hD hS
  · refine lv_iload_n hx hb dX2_valueAt_6 rfl (lv_at hl 2 rfl) ?_
    refine lv_if_eq (tgt := 21) hx hb dX2_valueAt_7 (by decide) (fun c5 => ?_) (fun c5 => ?_)
    · refine lv_aload_n hx hb dX2_valueAt_21 rfl (lv_at hl 0 rfl) ?_
      refine va_get (D := (dC, dI)) (ci := 2) (v := .ref (h 1)) (C := RX2) (T := TX2) (N := 4) hx hb hts (fun _ h9 => List.mem_cons_of_mem _ (List.mem_append_left _ (List.mem_append_left _ (List.mem_append_right _ h9)))) hown hK hP 0 rfl rfl 0 (by decide) (hts (.fieldLink RX2 12 "LowPowerCpu" "memory" "LLowPowerCpu$Memory;") (by decide +kernel)) (fun _ h9 => h9) rfl dX2_valueAt_22 ?_
      refine lv_iload_n hx hb dX2_valueAt_25 rfl (lv_at hl 1 rfl) ?_
      refine callC_ip (va_runVN (As := [.int a1]) (rest := []) ⟨hx, hb, hml, hown, hts⟩ (c_X0_wordAt l dC dI h k g _ σ a1) ⟨va_cnB 1 hts gX2_valueAt_X0_wordAt_n40 rfl rfl rfl (hN (.methodLinkNest RX2 40 yX0_wordAt RX2) (List.mem_of_getElem? (i := 3) rfl)) (hts (.initialized RX0) (by decide +kernel)) (by decide +kernel) ⟨Nat.le_of_ble_eq_true rfl, Nat.le_of_ble_eq_true rfl⟩, hts (.instanceMethod yX0_wordAt) (by decide +kernel), hts (.selects RX0 yX0_wordAt yX0_wordAt) (by decide +kernel)⟩ (preC_V (ci := 0) (q0 := 1) hct hP hD hS rfl rfl) rfl rfl hl.1 rfl (lv_room (Nat.le_of_ble_eq_true rfl)) dX2_valueAt_26 ⟨Nat.le_of_ble_eq_true rfl, Nat.le_of_ble_eq_true rfl⟩) hS (fun x6 H locs ex6 hP hD hS => ?_)
      exact retC_ip hx hb hr hlocks (by subst ex6; exact (if_neg c1).trans (if_pos c5)) hP hD hS dX2_valueAt_29
    · refine lv_aload_n hx hb dX2_valueAt_10 rfl (lv_at hl 0 rfl) ?_
      refine va_get (D := (dC, dI)) (ci := 2) (v := .ref (h 1)) (C := RX2) (T := TX2) (N := 4) hx hb hts (fun _ h9 => List.mem_cons_of_mem _ (List.mem_append_left _ (List.mem_append_left _ (List.mem_append_right _ h9)))) hown hK hP 0 rfl rfl 0 (by decide) (hts (.fieldLink RX2 12 "LowPowerCpu" "memory" "LLowPowerCpu$Memory;") (by decide +kernel)) (fun _ h9 => h9) rfl dX2_valueAt_11 ?_
      refine lv_iload_n hx hb dX2_valueAt_14 rfl (lv_at hl 1 rfl) ?_
      refine callC_ip (va_runVN (As := [.int a1]) (rest := []) ⟨hx, hb, hml, hown, hts⟩ (c_X0_byteAt l dC dI h k g _ σ a1) ⟨va_cnB 1 hts gX2_valueAt_X0_byteAt_n52 rfl rfl rfl (hN (.methodLinkNest RX2 52 yX0_byteAt RX2) (List.mem_of_getElem? (i := 7) rfl)) (hts (.initialized RX0) (by decide +kernel)) (by decide +kernel) ⟨Nat.le_of_ble_eq_true rfl, Nat.le_of_ble_eq_true rfl⟩, hts (.instanceMethod yX0_byteAt) (by decide +kernel), hts (.selects RX0 yX0_byteAt yX0_byteAt) (by decide +kernel)⟩ (preC_V (ci := 0) (q0 := 1) hct hP hD hS rfl rfl) rfl rfl hl.1 rfl (lv_room (Nat.le_of_ble_eq_true rfl)) dX2_valueAt_15 ⟨Nat.le_of_ble_eq_true rfl, Nat.le_of_ble_eq_true rfl⟩) hS (fun x7 H locs ex7 hP hD hS => ?_)
      refine lv_goto (tgt := 29) hx hb dX2_valueAt_18 (by decide) ?_
      exact retC_ip hx hb hr hlocks (by subst ex7; exact (if_neg c1).trans (if_neg c5)) hP hD hS dX2_valueAt_29

set_option maxHeartbeats 4000000 in
set_option maxRecDepth 100000 in
theorem c_X2_put (l : Launch) (dC : Nat → ClassId) (dI : Nat → Nat → Nat) (h : Nat → Nat) (k : Nat → ClassId) (g : Nat → Nat) (sz : Nat) (σ : StC) (a1 : Int32) (a2 : Int32) (a3 : Int32) : Met l yX2_put wsX2_put ({ frames := 4, cells := 0, slots := 0, locals := 90 }) (PcC (dC, dI) h k g [.ref (h 0), .int a1, .int a2, .int a3] sz σ) (va_Qv (fun u => u = f_X2_put σ a1 a2 a3) (BC (dC, dI) h k (AX 5 h sz)) (AX 5 h sz)) 0 0 (AX 5 h sz) := by
  refine Met.ofW (cc := cX2_put) (maxL := 4) (ret := none) (by decide) rfl ?_
  intro p e s m args below meth c s₁ B hml hv
  obtain ⟨rfl, rfl, hP, hct, hD⟩ := hv
  have hx := B.exec
  have hb := B.bytes
  have hr := B.returns
  have hts := atoms_spec (ws := wsX2_put) B.pre
  have hown : s.vm.findClass RX2 = some m.cls := findClass_of_methodNamed B.named
  have hlocks := B.notSynchronized
  have hK := hct.1
  have hN := hct.2.1
  have hS : va_S (AX 5 h s.heap.size) s.heap s.heap [] := va_S.rf
  have hl := lv_entry ([.ref (h 0), .int a1, .int a2, .int a3]) (n := 4) (Nat.le_of_ble_eq_true rfl)
  rw [lg_entry_eq]
  generalize (lg_sl ([.ref (h 0), .int a1, .int a2, .int a3]) ++ List.replicate (4 - (lg_sl ([.ref (h 0), .int a1, .int a2, .int a3])).length) Slot.unset).toArray = ls at hl ⊢
  have hl : lv_has ls 4 [(0, .ref (h 0)), (1, .int a1), (2, .int a2), (3, .int a3)] := hl
  refine lv_iload_n hx hb dX2_put_0 rfl (lv_at hl 1 rfl) ?_
  refine lv_ldc (v := 131072) hx hb hown (hts (.constant RX2 148 131072) (by decide +kernel)) dX2_put_1 ?_
  refine lv_icmp_lt (tgt := 7) hx hb dX2_put_3 (by decide) (fun c1 => ?_) (fun c1 => ?_)
  · refine lv_iload_n hx hb dX2_put_7 rfl (lv_at hl 1 rfl) ?_
    refine lv_ldc (v := 65536) hx hb hown (hts (.constant RX2 48 65536) (by decide +kernel)) dX2_put_8 ?_
    refine lv_icmp_lt (tgt := 25) hx hb dX2_put_10 (by decide) (fun c2 => ?_) (fun c2 => ?_)
    · refine lv_iload_n hx hb dX2_put_25 rfl (lv_at hl 3 rfl) ?_
      refine lv_if_eq (tgt := 41) hx hb dX2_put_26 (by decide) (fun c3 => ?_) (fun c3 => ?_)
      · refine lv_aload_n hx hb dX2_put_41 rfl (lv_at hl 0 rfl) ?_
        refine va_get (D := (dC, dI)) (ci := 2) (v := .ref (h 1)) (C := RX2) (T := TX2) (N := 4) hx hb hts (fun _ h9 => List.mem_cons_of_mem _ (List.mem_append_left _ (List.mem_append_left _ (List.mem_append_right _ h9)))) hown hK hP 0 rfl rfl 0 (by decide) (hts (.fieldLink RX2 12 "LowPowerCpu" "memory" "LLowPowerCpu$Memory;") (by decide +kernel)) (fun _ h9 => h9) rfl dX2_put_42 ?_
        refine lv_iload_n hx hb dX2_put_45 rfl (lv_at hl 1 rfl) ?_
        refine lv_iload_n hx hb dX2_put_46 rfl (lv_at hl 2 rfl) ?_
        refine callC_v (va_runVN (As := [.int a1, .int a2]) (rest := []) ⟨hx, hb, hml, hown, hts⟩ (c_X0_writeWord l dC dI h k g _ σ a1 a2) ⟨va_cnB 2 hts gX2_put_X0_writeWord_n156 rfl rfl rfl (hN (.methodLinkNest RX2 156 yX0_writeWord RX2) (List.mem_of_getElem? (i := 10) rfl)) (hts (.initialized RX0) (by decide +kernel)) (by decide +kernel) ⟨Nat.le_of_ble_eq_true rfl, Nat.le_of_ble_eq_true rfl⟩, hts (.instanceMethod yX0_writeWord) (by decide +kernel), hts (.selects RX0 yX0_writeWord yX0_writeWord) (by decide +kernel)⟩ (preC_V (ci := 0) (q0 := 1) hct hP hD hS rfl rfl) rfl rfl hl.1 rfl (lv_room (Nat.le_of_ble_eq_true rfl)) dX2_put_47 ⟨Nat.le_of_ble_eq_true rfl, Nat.le_of_ble_eq_true rfl⟩) hS (fun σ4 H locs eσ4 hP hD hS => ?_)
        exact retC_v hx hb hr hlocks (by subst eσ4; exact (if_pos c1).trans ((if_pos c2).trans (if_pos c3))) hP hD hS dX2_put_50
      · refine lv_aload_n hx hb dX2_put_29 rfl (lv_at hl 0 rfl) ?_
        refine va_get (D := (dC, dI)) (ci := 2) (v := .ref (h 1)) (C := RX2) (T := TX2) (N := 4) hx hb hts (fun _ h9 => List.mem_cons_of_mem _ (List.mem_append_left _ (List.mem_append_left _ (List.mem_append_right _ h9)))) hown hK hP 0 rfl rfl 0 (by decide) (hts (.fieldLink RX2 12 "LowPowerCpu" "memory" "LLowPowerCpu$Memory;") (by decide +kernel)) (fun _ h9 => h9) rfl dX2_put_30 ?_
        refine lv_iload_n hx hb dX2_put_33 rfl (lv_at hl 1 rfl) ?_
        refine lv_iload_n hx hb dX2_put_34 rfl (lv_at hl 2 rfl) ?_
        refine callC_v (va_runVN (As := [.int a1, .int a2]) (rest := []) ⟨hx, hb, hml, hown, hts⟩ (c_X0_writeByte l dC dI h k g _ σ a1 a2) ⟨va_cnB 2 hts gX2_put_X0_writeByte_n153 rfl rfl rfl (hN (.methodLinkNest RX2 153 yX0_writeByte RX2) (List.mem_of_getElem? (i := 8) rfl)) (hts (.initialized RX0) (by decide +kernel)) (by decide +kernel) ⟨Nat.le_of_ble_eq_true rfl, Nat.le_of_ble_eq_true rfl⟩, hts (.instanceMethod yX0_writeByte) (by decide +kernel), hts (.selects RX0 yX0_writeByte yX0_writeByte) (by decide +kernel)⟩ (preC_V (ci := 0) (q0 := 1) hct hP hD hS rfl rfl) rfl rfl hl.1 rfl (lv_room (Nat.le_of_ble_eq_true rfl)) dX2_put_35 ⟨Nat.le_of_ble_eq_true rfl, Nat.le_of_ble_eq_true rfl⟩) hS (fun σ5 H locs eσ5 hP hD hS => ?_)
        refine lv_goto (tgt := 50) hx hb dX2_put_38 (by decide) ?_
        exact retC_v hx hb hr hlocks (by subst eσ5; exact (if_pos c1).trans ((if_pos c2).trans (if_neg c3))) hP hD hS dX2_put_50
    · refine lv_aload_n hx hb dX2_put_13 rfl (lv_at hl 0 rfl) ?_
      refine lv_iload_n hx hb dX2_put_14 rfl (lv_at hl 1 rfl) ?_
      refine lv_bipush (v := 15) hx hb dX2_put_15 (by decide) ?_
      refine lv_iand hx hb dX2_put_17 ?_
      refine lv_iload_n hx hb dX2_put_18 rfl (lv_at hl 2 rfl) ?_
      refine callC_v (va_runV (As := [.int (a1 &&& (15 : Int32)), .int a2]) (rest := []) ⟨hx, hb, hml, hown, hts⟩ (c_X2_setRegister l dC dI h k g _ σ (a1 &&& (15 : Int32)) a2) (cwV 2 hts gX2_put_X2_setRegister rfl rfl rfl (by decide +kernel) ⟨Nat.le_of_ble_eq_true rfl, Nat.le_of_ble_eq_true rfl⟩) (preC_V (ci := 2) (q0 := 0) hct hP hD hS rfl rfl) rfl rfl hl.1 rfl (lv_room (Nat.le_of_ble_eq_true rfl)) dX2_put_19 ⟨Nat.le_of_ble_eq_true rfl, Nat.le_of_ble_eq_true rfl⟩) hS (fun σ6 H locs eσ6 hP hD hS => ?_)
      refine lv_goto (tgt := 50) hx hb dX2_put_22 (by decide) ?_
      exact retC_v hx hb hr hlocks (by subst eσ6; exact (if_pos c1).trans (if_neg c2)) hP hD hS dX2_put_50
  · exact retC_v hx hb hr hlocks (by exact if_neg c1) hP hD hS dX2_put_6

set_option maxHeartbeats 4000000 in
set_option maxRecDepth 100000 in
theorem c_X2_change (l : Launch) (dC : Nat → ClassId) (dI : Nat → Nat → Nat) (h : Nat → Nat) (k : Nat → ClassId) (g : Nat → Nat) (sz : Nat) (σ : StC) (a1 : Int32) (a2 : Int32) (a3 : Int32) : Met l yX2_change wsX2_change ({ frames := 3, cells := 0, slots := 0, locals := 71 }) (PcC (dC, dI) h k g [.ref (h 0), .int a1, .int a2, .int a3] sz σ) (va_Qi (fun r u => (r, u) = (f_X2_change σ a1 a2 a3)) (BC (dC, dI) h k (AX 5 h sz)) (AX 5 h sz)) 0 0 (AX 5 h sz) := by
  refine Met.ofW (cc := cX2_change) (maxL := 6) (ret := (some .int)) (by decide) rfl ?_
  intro p e s m args below meth c s₁ B hml hv
  obtain ⟨rfl, rfl, hP, hct, hD⟩ := hv
  have hx := B.exec
  have hb := B.bytes
  have hr := B.returns
  have hts := atoms_spec (ws := wsX2_change) B.pre
  have hown : s.vm.findClass RX2 = some m.cls := findClass_of_methodNamed B.named
  have hlocks := B.notSynchronized
  have hK := hct.1
  have hN := hct.2.1
  have hS : va_S (AX 5 h s.heap.size) s.heap s.heap [] := va_S.rf
  have hl := lv_entry ([.ref (h 0), .int a1, .int a2, .int a3]) (n := 6) (Nat.le_of_ble_eq_true rfl)
  rw [lg_entry_eq]
  generalize (lg_sl ([.ref (h 0), .int a1, .int a2, .int a3]) ++ List.replicate (6 - (lg_sl ([.ref (h 0), .int a1, .int a2, .int a3])).length) Slot.unset).toArray = ls at hl ⊢
  have hl : lv_has ls 6 [(0, .ref (h 0)), (1, .int a1), (2, .int a2), (3, .int a3)] := hl
  refine lv_iload_n hx hb dX2_change_0 rfl (lv_at hl 3 rfl) ?_
  refine wj (α := Int32) (D := (dC, dI)) (cl := vwCl) (A := AX 5 h s.heap.size) (H0 := s.heap) (if a3 = 0 then 65535 else 255) (fun v2 => wsC h k σ) (fun v2 => [(0, .ref (h 0)), (1, .int a1), (2, .int a2), (3, .int a3)]) 6 (fun v2 ls => F0 m 12 ls [.int v2]) ?_ ?_
  · intro v2 ls H locs ev2 hl hP hD hS
    try dsimp only at hl hP hD ⊢
    refine lv_istore (lv' := [(4, .int v2), (0, .ref (h 0)), (1, .int a1), (2, .int a2), (3, .int a3)]) hx hb dX2_change_12 hl (by decide) rfl (fun ls hl => ?_)
    refine lv_iload hx hb dX2_change_14 (lv_at hl 0 rfl) ?_
    refine lv_iconst (v := 1) hx hb dX2_change_16 (by decide) ?_
    refine lv_iadd hx hb dX2_change_17 ?_
    refine lv_iconst (v := 1) hx hb dX2_change_18 (by decide) ?_
    refine lv_ishr hx hb dX2_change_19 ?_
    refine lv_topi (fun x3 ex3 => ?_)
    refine lv_istore (lv' := [(5, .int x3), (4, .int v2), (0, .ref (h 0)), (1, .int a1), (2, .int a2), (3, .int a3)]) hx hb dX2_change_20 hl (by decide) rfl (fun ls hl => ?_)
    refine lv_iload_n hx hb dX2_change_22 rfl (lv_at hl 3 rfl) ?_
    rcases Classical.em (a1 = 0) with c4 | c4
    · refine lv_tableIn (tgt := 48) hx hb dX2_change_23 (by rw [c4]; decide) (by rw [c4]; decide) (by rw [c4]; rfl) (by decide) ?_
      refine lv_aload_n hx hb dX2_change_48 rfl (lv_at hl 2 rfl) ?_
      refine lv_iload_n hx hb dX2_change_49 rfl (lv_at hl 4 rfl) ?_
      refine lv_aload_n hx hb dX2_change_50 rfl (lv_at hl 2 rfl) ?_
      refine lv_iconst (v := 1) hx hb dX2_change_51 (by decide) ?_
      refine callC_ip (va_runV (As := [.int 1]) (rest := [.int a2, .ref (h 0)]) ⟨hx, hb, hml, hown, hts⟩ (c_X2_isSet l dC dI h k g _ σ 1) (cwV 1 hts gX2_change_X2_isSet rfl rfl rfl (by decide +kernel) ⟨Nat.le_of_ble_eq_true rfl, Nat.le_of_ble_eq_true rfl⟩) (preC_V (ci := 2) (q0 := 0) hct hP hD hS rfl rfl) rfl rfl hl.1 rfl (lv_room (Nat.le_of_ble_eq_true rfl)) dX2_change_52 ⟨Nat.le_of_ble_eq_true rfl, Nat.le_of_ble_eq_true rfl⟩) hS (fun x5 H locs ex5 hP hD hS => ?_)
      refine wj (α := Int32) (D := (dC, dI)) (cl := vwCl) (A := AX 5 h s.heap.size) (H0 := s.heap) (if x5 = 0 then 0 else x3) (fun v7 => wsC h k σ) (fun v7 => [(5, .int x3), (4, .int v2), (0, .ref (h 0)), (1, .int a1), (2, .int a2), (3, .int a3)]) 6 (fun v7 ls => F0 m 64 ls [.int v7, .int a2, .ref (h 0)]) ?_ ?_
      · intro v7 ls H locs ev7 hl hP hD hS
        try dsimp only at hl hP hD ⊢
        refine lv_iload hx hb dX2_change_64 (lv_at hl 1 rfl) ?_
        refine callC_i (va_runV (As := [.int a2, .int v7, .int v2]) (rest := []) ⟨hx, hb, hml, hown, hts⟩ (c_X2_shifted l dC dI h k g _ σ a2 v7 v2) (cwV 3 hts gX2_change_X2_shifted rfl rfl rfl (by decide +kernel) ⟨Nat.le_of_ble_eq_true rfl, Nat.le_of_ble_eq_true rfl⟩) (preC_V (ci := 2) (q0 := 0) hct hP hD hS rfl rfl) rfl rfl hl.1 rfl (lv_room (Nat.le_of_ble_eq_true rfl)) dX2_change_66 ⟨Nat.le_of_ble_eq_true rfl, Nat.le_of_ble_eq_true rfl⟩) hS (fun x8 σ9 H locs ex8 eσ9 hP hD hS => ?_)
        exact retC_i hx hb hr hlocks (by subst eσ9; subst ex8; subst ev7; subst ex5; subst ex3; subst ev2; exact if_pos c4) hP hD hS dX2_change_69
      · intro J
        refine lv_if_eq (tgt := 63) hx hb dX2_change_55 (by decide) (fun c6 => ?_) (fun c6 => ?_)
        · refine lv_iconst (v := 0) hx hb dX2_change_63 (by decide) ?_
          exact J (0) ls _ _ (by exact (if_pos c6).symm) (lv_sub hl [0, 1, 2, 3, 4, 5] rfl) hP hD hS
        · refine lv_iload hx hb dX2_change_58 (lv_at hl 0 rfl) ?_
          refine lv_goto (tgt := 64) hx hb dX2_change_60 (by decide) ?_
          exact J (x3) ls _ _ (by exact (if_neg c6).symm) (lv_sub hl [0, 1, 2, 3, 4, 5] rfl) hP hD hS
    · skip
      rcases Classical.em (a1 = 1) with c10 | c10
      · refine lv_tableIn (tgt := 70) hx hb dX2_change_23 (by rw [c10]; decide) (by rw [c10]; decide) (by rw [c10]; rfl) (by decide) ?_
        refine lv_iload_n hx hb dX2_change_70 rfl (lv_at hl 4 rfl) ?_
        refine lv_sipush (v := 255) hx hb dX2_change_71 (by decide) ?_
        refine lv_iand hx hb dX2_change_74 ?_
        refine lv_bipush (v := 8) hx hb dX2_change_75 (by decide) ?_
        refine lv_ishl hx hb dX2_change_77 ?_
        refine lv_iload_n hx hb dX2_change_78 rfl (lv_at hl 4 rfl) ?_
        refine lv_bipush (v := 8) hx hb dX2_change_79 (by decide) ?_
        refine lv_ishr hx hb dX2_change_81 ?_
        refine lv_ior hx hb dX2_change_82 ?_
        exact retC_i hx hb hr hlocks (by subst ex3; subst ev2; exact (if_neg c4).trans (if_pos c10)) hP hD hS dX2_change_83
      · skip
        rcases Classical.em (a1 = 2) with c11 | c11
        · refine lv_tableIn (tgt := 84) hx hb dX2_change_23 (by rw [c11]; decide) (by rw [c11]; decide) (by rw [c11]; rfl) (by decide) ?_
          refine lv_aload_n hx hb dX2_change_84 rfl (lv_at hl 2 rfl) ?_
          refine lv_iload_n hx hb dX2_change_85 rfl (lv_at hl 4 rfl) ?_
          refine lv_iload_n hx hb dX2_change_86 rfl (lv_at hl 4 rfl) ?_
          refine lv_iload hx hb dX2_change_87 (lv_at hl 0 rfl) ?_
          refine lv_iand hx hb dX2_change_89 ?_
          refine lv_iload hx hb dX2_change_90 (lv_at hl 1 rfl) ?_
          refine callC_i (va_runV (As := [.int a2, .int (a2 &&& x3), .int v2]) (rest := []) ⟨hx, hb, hml, hown, hts⟩ (c_X2_shifted l dC dI h k g _ σ a2 (a2 &&& x3) v2) (cwV 3 hts gX2_change_X2_shifted rfl rfl rfl (by decide +kernel) ⟨Nat.le_of_ble_eq_true rfl, Nat.le_of_ble_eq_true rfl⟩) (preC_V (ci := 2) (q0 := 0) hct hP hD hS rfl rfl) rfl rfl hl.1 rfl (lv_room (Nat.le_of_ble_eq_true rfl)) dX2_change_92 ⟨Nat.le_of_ble_eq_true rfl, Nat.le_of_ble_eq_true rfl⟩) hS (fun x12 σ13 H locs ex12 eσ13 hP hD hS => ?_)
          exact retC_i hx hb hr hlocks (by subst eσ13; subst ex12; subst ex3; subst ev2; exact (if_neg c4).trans ((if_neg c10).trans (if_pos c11))) hP hD hS dX2_change_95
        · skip
          have nc4 := i32ne (n := 0) (by decide) c4
          have nc10 := i32ne (n := 1) (by decide) c10
          have nc11 := i32ne (n := 2) (by decide) c11
          refine lv_tableOut (tgt := 96) hx hb dX2_change_23 (by omega) (by decide) ?_
          refine lv_aload_n hx hb dX2_change_96 rfl (lv_at hl 2 rfl) ?_
          refine lv_iload_n hx hb dX2_change_97 rfl (lv_at hl 4 rfl) ?_
          refine lv_sipush (v := 255) hx hb dX2_change_98 (by decide) ?_
          refine lv_iand hx hb dX2_change_101 ?_
          refine lv_sipush (v := 128) hx hb dX2_change_102 (by decide) ?_
          refine lv_ixor hx hb dX2_change_105 ?_
          refine lv_sipush (v := 128) hx hb dX2_change_106 (by decide) ?_
          refine lv_isub hx hb dX2_change_109 ?_
          refine lv_ldc (v := 65535) hx hb hown (hts (.constant RX2 149 65535) (by decide +kernel)) dX2_change_110 ?_
          refine lv_iand hx hb dX2_change_112 ?_
          refine lv_iconst (v := 0) hx hb dX2_change_113 (by decide) ?_
          refine lv_iload hx hb dX2_change_114 (lv_at hl 1 rfl) ?_
          refine callC_i (va_runV (As := [.int ((((a2 &&& (255 : Int32)) ^^^ (128 : Int32)) - (128 : Int32)) &&& (65535 : Int32)), .int 0, .int v2]) (rest := []) ⟨hx, hb, hml, hown, hts⟩ (c_X2_logical l dC dI h k g _ σ ((((a2 &&& (255 : Int32)) ^^^ (128 : Int32)) - (128 : Int32)) &&& (65535 : Int32)) 0 v2) (cwV 3 hts gX2_change_X2_logical rfl rfl rfl (by decide +kernel) ⟨Nat.le_of_ble_eq_true rfl, Nat.le_of_ble_eq_true rfl⟩) (preC_V (ci := 2) (q0 := 0) hct hP hD hS rfl rfl) rfl rfl hl.1 rfl (lv_room (Nat.le_of_ble_eq_true rfl)) dX2_change_116 ⟨Nat.le_of_ble_eq_true rfl, Nat.le_of_ble_eq_true rfl⟩) hS (fun x14 σ15 H locs ex14 eσ15 hP hD hS => ?_)
          exact retC_i hx hb hr hlocks (by subst eσ15; subst ex14; subst ex3; subst ev2; exact (if_neg c4).trans ((if_neg c10).trans (if_neg c11))) hP hD hS dX2_change_119
  · intro J
    refine lv_if_eq (tgt := 10) hx hb dX2_change_1 (by decide) (fun c1 => ?_) (fun c1 => ?_)
    · refine lv_ldc (v := 65535) hx hb hown (hts (.constant RX2 149 65535) (by decide +kernel)) dX2_change_10 ?_
      exact J (65535) ls _ _ (by exact (if_pos c1).symm) (lv_sub hl [0, 1, 2, 3] rfl) hP hD hS
    · refine lv_sipush (v := 255) hx hb dX2_change_4 (by decide) ?_
      refine lv_goto (tgt := 12) hx hb dX2_change_7 (by decide) ?_
      exact J (255) ls _ _ (by exact (if_neg c1).symm) (lv_sub hl [0, 1, 2, 3] rfl) hP hD hS
