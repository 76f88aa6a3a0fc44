set_option maxHeartbeats 4000000 in
set_option maxRecDepth 100000 in
theorem c_X3_wordAt (l : Launch) (dC : Nat → ClassId) (dI : Nat → Nat → Nat) (h : Nat → Nat) (k : Nat → ClassId) (sz : Nat) (σ : StR) (a1 : Int32) (ha1 : vp_in a1 65536) : Met l yX3_wordAt wsX3_wordAt ({ frames := 1, cells := 0, slots := 0, locals := 20 }) (PcR (dC, dI) h k [.ref (h 0), .int a1] sz σ) (va_Qi (fun r u => (r, u) = (f_X3_wordAt σ a1, σ)) (BR (dC, dI) h k (AX 4 h sz)) (AX 4 h sz)) 0 0 (AX 4 h sz) := by
  refine Met.ofW (cc := cX3_wordAt) (maxL := 2) (ret := (some .int)) (by decide) rfl ?_
  intro p e s m args below meth c s₁ B hml hv
  obtain ⟨rfl, rfl, hP, hct, hD⟩ := hv
  have hx := B.exec
  have hb := B.bytes
  have hr := B.returns
  have hts := atoms_spec (ws := wsX3_wordAt) B.pre
  have hown : s.vm.findClass RX3 = some m.cls := findClass_of_methodNamed B.named
  have hlocks := B.notSynchronized
  have hK := hct.1
  have hS : va_S (AX 4 h s.heap.size) s.heap s.heap [] := va_S.rf
  have hl := lv_entry ([.ref (h 0), .int a1]) (n := 2) (Nat.le_of_ble_eq_true rfl)
  rw [lg_entry_eq]
  generalize (lg_sl ([.ref (h 0), .int a1]) ++ List.replicate (2 - (lg_sl ([.ref (h 0), .int a1])).length) Slot.unset).toArray = ls at hl ⊢
  have hl : lv_has ls 2 [(0, .ref (h 0)), (1, .int a1)] := hl
  refine lv_iload_n hx hb dX3_wordAt_0 rfl (lv_at hl 1 rfl) ?_
  refine callR_ip (va_runS (As := [.int a1]) (rest := []) ⟨hx, hb, hml, hown, hts⟩ (c_X3_isMultiplier l dC dI h k _ σ a1) (va_cwS 1 hts gX3_wordAt_X3_isMultiplier rfl rfl rfl (by decide +kernel) ⟨Nat.le_of_ble_eq_true rfl, Nat.le_of_ble_eq_true rfl⟩) (preR_S hct hP hD hS) rfl rfl hl.1 rfl (lv_room (Nat.le_of_ble_eq_true rfl)) dX3_wordAt_1 ⟨Nat.le_of_ble_eq_true rfl, Nat.le_of_ble_eq_true rfl⟩) hS (fun x1 H locs ex1 hP hD hS => ?_)
  refine lv_if_eq (tgt := 17) hx hb dX3_wordAt_4 (by decide) (fun c2 => ?_) (fun c2 => ?_)
  · refine lv_aload_n hx hb dX3_wordAt_17 rfl (lv_at hl 0 rfl) ?_
    refine va_get (D := (dC, dI)) (ci := 3) (v := .ref (h 1)) (C := RX3) (T := TX3) (N := 9) hx hb hts (fun _ h9 => List.mem_cons_of_mem _ (List.mem_append_right _ h9)) hown hK hP 0 rfl rfl 0 (by decide) (hts (.fieldLink RX3 8 "LowPowerCpuModel" "words" "[S") (by decide +kernel)) (fun _ h9 => h9) rfl dX3_wordAt_18 ?_
    refine lv_iload_n hx hb dX3_wordAt_21 rfl (lv_at hl 1 rfl) ?_
    refine lv_iconst (v := 1) hx hb dX3_wordAt_22 (by decide) ?_
    refine lv_ishr hx hb dX3_wordAt_23 ?_
    refine va_sald hx hb hK hP 1 1 rfl rfl (shr1_in ha1) dX3_wordAt_24 ?_
    refine lv_ldc (v := 65535) hx hb hown (hts (.constant RX3 50 65535) (by decide +kernel)) dX3_wordAt_25 ?_
    refine lv_iand hx hb dX3_wordAt_27 ?_
    exact retR_ip hx hb hr hlocks (by subst ex1; exact if_pos c2) hP hD hS dX3_wordAt_28
  · refine lv_aload_n hx hb dX3_wordAt_7 rfl (lv_at hl 0 rfl) ?_
    refine va_get (D := (dC, dI)) (ci := 3) (v := .ref (h 3)) (C := RX3) (T := TX3) (N := 9) hx hb hts (fun _ h9 => List.mem_cons_of_mem _ (List.mem_append_right _ h9)) hown hK hP 0 rfl rfl 2 (by decide) (hts (.fieldLink RX3 18 "LowPowerCpuModel" "by" "[I") (by decide +kernel)) (fun _ h9 => h9) rfl dX3_wordAt_8 ?_
    refine lv_iload_n hx hb dX3_wordAt_11 rfl (lv_at hl 1 rfl) ?_
    refine callR_ip (va_runS (As := [.int a1]) (rest := [.ref (h 3)]) ⟨hx, hb, hml, hown, hts⟩ (c_X3_which l dC dI h k _ σ a1) (va_cwS 1 hts gX3_wordAt_X3_which rfl rfl rfl (by decide +kernel) ⟨Nat.le_of_ble_eq_true rfl, Nat.le_of_ble_eq_true rfl⟩) (preR_S hct hP hD hS) rfl rfl hl.1 rfl (lv_room (Nat.le_of_ble_eq_true rfl)) dX3_wordAt_12 ⟨Nat.le_of_ble_eq_true rfl, Nat.le_of_ble_eq_true rfl⟩) hS (fun x3 H locs ex3 hP hD hS => ?_)
    refine va_iald hx hb hK hP 3 0 rfl rfl (by rw [ex3]; exact which_in (by rw [← ex1]; exact c2)) dX3_wordAt_15 ?_
    exact retR_ip hx hb hr hlocks (by subst ex3; subst ex1; exact if_neg c2) hP hD hS dX3_wordAt_16

set_option maxHeartbeats 4000000 in
set_option maxRecDepth 100000 in
theorem c_X3_byteAt (l : Launch) (dC : Nat → ClassId) (dI : Nat → Nat → Nat) (h : Nat → Nat) (k : Nat → ClassId) (sz : Nat) (σ : StR) (a1 : Int32) (ha1 : vp_in a1 65536) : Met l yX3_byteAt wsX3_byteAt ({ frames := 2, cells := 0, slots := 0, locals := 41 }) (PcR (dC, dI) h k [.ref (h 0), .int a1] sz σ) (va_Qi (fun r u => (r, u) = (f_X3_byteAt σ a1, σ)) (BR (dC, dI) h k (AX 4 h sz)) (AX 4 h sz)) 0 0 (AX 4 h sz) := by
  refine Met.ofW (cc := cX3_byteAt) (maxL := 2) (ret := (some .int)) (by decide) rfl ?_
  intro p e s m args below meth c s₁ B hml hv
  obtain ⟨rfl, rfl, hP, hct, hD⟩ := hv
  have hx := B.exec
  have hb := B.bytes
  have hr := B.returns
  have hts := atoms_spec (ws := wsX3_byteAt) B.pre
  have hown : s.vm.findClass RX3 = some m.cls := findClass_of_methodNamed B.named
  have hlocks := B.notSynchronized
  have hK := hct.1
  have hS : va_S (AX 4 h s.heap.size) s.heap s.heap [] := va_S.rf
  have hl := lv_entry ([.ref (h 0), .int a1]) (n := 2) (Nat.le_of_ble_eq_true rfl)
  rw [lg_entry_eq]
  generalize (lg_sl ([.ref (h 0), .int a1]) ++ List.replicate (2 - (lg_sl ([.ref (h 0), .int a1])).length) Slot.unset).toArray = ls at hl ⊢
  have hl : lv_has ls 2 [(0, .ref (h 0)), (1, .int a1)] := hl
  refine lv_aload_n hx hb dX3_byteAt_0 rfl (lv_at hl 0 rfl) ?_
  refine lv_iload_n hx hb dX3_byteAt_1 rfl (lv_at hl 1 rfl) ?_
  refine callR_ip (va_runV (As := [.int a1]) (rest := []) ⟨hx, hb, hml, hown, hts⟩ (c_X3_wordAt l dC dI h k _ σ a1 ha1) (cwV 1 hts gX3_byteAt_X3_wordAt rfl rfl rfl (by decide +kernel) ⟨Nat.le_of_ble_eq_true rfl, Nat.le_of_ble_eq_true rfl⟩) (preR_V (ci := 3) (q0 := 0) hct hP hD hS rfl rfl) rfl rfl hl.1 rfl (lv_room (Nat.le_of_ble_eq_true rfl)) dX3_byteAt_2 ⟨Nat.le_of_ble_eq_true rfl, Nat.le_of_ble_eq_true rfl⟩) hS (fun x1 H locs ex1 hP hD hS => ?_)
  refine lv_bipush (v := 8) hx hb dX3_byteAt_5 (by decide) ?_
  refine lv_iload_n hx hb dX3_byteAt_7 rfl (lv_at hl 1 rfl) ?_
  refine lv_iconst (v := 1) hx hb dX3_byteAt_8 (by decide) ?_
  refine lv_iand hx hb dX3_byteAt_9 ?_
  refine lv_imul hx hb dX3_byteAt_10 ?_
  refine lv_ishr hx hb dX3_byteAt_11 ?_
  refine lv_sipush (v := 255) hx hb dX3_byteAt_12 (by decide) ?_
  refine lv_iand hx hb dX3_byteAt_15 ?_
  exact retR_ip hx hb hr hlocks (by subst ex1; exact rfl) hP hD hS dX3_byteAt_16

set_option maxHeartbeats 4000000 in
set_option maxRecDepth 100000 in
theorem c_X3_valueAt (l : Launch) (dC : Nat → ClassId) (dI : Nat → Nat → Nat) (h : Nat → Nat) (k : Nat → ClassId) (sz : Nat) (σ : StR) (a1 : Int32) (ha1 : vp_in a1 65536) : Met l yX3_valueAt wsX3_valueAt ({ frames := 3, cells := 0, slots := 0, locals := 62 }) (PcR (dC, dI) h k [.ref (h 0), .int a1] sz σ) (va_Qi (fun r u => (r, u) = (f_X3_valueAt σ a1, σ)) (BR (dC, dI) h k (AX 4 h sz)) (AX 4 h sz)) 0 0 (AX 4 h sz) := by
  refine Met.ofW (cc := cX3_valueAt) (maxL := 2) (ret := (some .int)) (by decide) rfl ?_
  intro p e s m args below meth c s₁ B hml hv
  obtain ⟨rfl, rfl, hP, hct, hD⟩ := hv
  have hx := B.exec
  have hb := B.bytes
  have hr := B.returns
  have hts := atoms_spec (ws := wsX3_valueAt) B.pre
  have hown : s.vm.findClass RX3 = some m.cls := findClass_of_methodNamed B.named
  have hlocks := B.notSynchronized
  have hK := hct.1
  have hS : va_S (AX 4 h s.heap.size) s.heap s.heap [] := va_S.rf
  have hl := lv_entry ([.ref (h 0), .int a1]) (n := 2) (Nat.le_of_ble_eq_true rfl)
  rw [lg_entry_eq]
  generalize (lg_sl ([.ref (h 0), .int a1]) ++ List.replicate (2 - (lg_sl ([.ref (h 0), .int a1])).length) Slot.unset).toArray = ls at hl ⊢
  have hl : lv_has ls 2 [(0, .ref (h 0)), (1, .int a1)] := hl
  refine lv_aload_n hx hb dX3_valueAt_0 rfl (lv_at hl 0 rfl) ?_
  refine va_get (D := (dC, dI)) (ci := 3) (v := .int σ.2.2.2.2.2.2.2.2) (C := RX3) (T := TX3) (N := 9) hx hb hts (fun _ h9 => List.mem_cons_of_mem _ (List.mem_append_right _ h9)) hown hK hP 0 rfl rfl 8 (by decide) (hts (.fieldLink RX3 51 "LowPowerCpuModel" "bytes" "Z") (by decide +kernel)) (fun _ h9 => h9) rfl dX3_valueAt_1 ?_
  refine lv_if_eq (tgt := 15) hx hb dX3_valueAt_4 (by decide) (fun c1 => ?_) (fun c1 => ?_)
  · refine lv_aload_n hx hb dX3_valueAt_15 rfl (lv_at hl 0 rfl) ?_
    refine lv_iload_n hx hb dX3_valueAt_16 rfl (lv_at hl 1 rfl) ?_
    refine callR_ip (va_runV (As := [.int a1]) (rest := []) ⟨hx, hb, hml, hown, hts⟩ (c_X3_wordAt l dC dI h k _ σ a1 ha1) (cwV 1 hts gX3_valueAt_X3_wordAt rfl rfl rfl (by decide +kernel) ⟨Nat.le_of_ble_eq_true rfl, Nat.le_of_ble_eq_true rfl⟩) (preR_V (ci := 3) (q0 := 0) hct hP hD hS rfl rfl) rfl rfl hl.1 rfl (lv_room (Nat.le_of_ble_eq_true rfl)) dX3_valueAt_17 ⟨Nat.le_of_ble_eq_true rfl, Nat.le_of_ble_eq_true rfl⟩) hS (fun x2 H locs ex2 hP hD hS => ?_)
    exact retR_ip hx hb hr hlocks (by subst ex2; exact if_pos c1) hP hD hS dX3_valueAt_20
  · refine lv_aload_n hx hb dX3_valueAt_7 rfl (lv_at hl 0 rfl) ?_
    refine lv_iload_n hx hb dX3_valueAt_8 rfl (lv_at hl 1 rfl) ?_
    refine callR_ip (va_runV (As := [.int a1]) (rest := []) ⟨hx, hb, hml, hown, hts⟩ (c_X3_byteAt l dC dI h k _ σ a1 ha1) (cwV 1 hts gX3_valueAt_X3_byteAt rfl rfl rfl (by decide +kernel) ⟨Nat.le_of_ble_eq_true rfl, Nat.le_of_ble_eq_true rfl⟩) (preR_V (ci := 3) (q0 := 0) hct hP hD hS rfl rfl) rfl rfl hl.1 rfl (lv_room (Nat.le_of_ble_eq_true rfl)) dX3_valueAt_9 ⟨Nat.le_of_ble_eq_true rfl, Nat.le_of_ble_eq_true rfl⟩) hS (fun x3 H locs ex3 hP hD hS => ?_)
    refine lv_goto (tgt := 20) hx hb dX3_valueAt_12 (by decide) ?_
    exact retR_ip hx hb hr hlocks (by subst ex3; exact if_neg c1) hP hD hS dX3_valueAt_20

set_option maxHeartbeats 4000000 in
set_option maxRecDepth 100000 in
theorem c_X3_product (l : Launch) (dC : Nat → ClassId) (dI : Nat → Nat → Nat) (h : Nat → Nat) (k : Nat → ClassId) (sz : Nat) (σ : StR) : Met l yX3_product wsX3_product ({ frames := 0, cells := 0, slots := 0, locals := 0 }) (PcR (dC, dI) h k [.ref (h 0)] sz σ) (va_Qv (fun u => u = f_X3_product σ) (BR (dC, dI) h k (AX 4 h sz)) (AX 4 h sz)) 0 0 (AX 4 h sz) := by
  refine Met.ofW (cc := cX3_product) (maxL := 11) (ret := none) (by decide) rfl ?_
  intro p e s m args below meth c s₁ B hml hv
  obtain ⟨rfl, rfl, hP, hct, hD⟩ := hv
  have hx := B.exec
  have hb := B.bytes
  have hr := B.returns
  have hts := atoms_spec (ws := wsX3_product) B.pre
  have hown : s.vm.findClass RX3 = some m.cls := findClass_of_methodNamed B.named
  have hlocks := B.notSynchronized
  have hK := hct.1
  have hS : va_S (AX 4 h s.heap.size) s.heap s.heap [] := va_S.rf
  have hl := lv_entry ([.ref (h 0)]) (n := 11) (Nat.le_of_ble_eq_true rfl)
  rw [lg_entry_eq]
  generalize (lg_sl ([.ref (h 0)]) ++ List.replicate (11 - (lg_sl ([.ref (h 0)])).length) Slot.unset).toArray = ls at hl ⊢
  have hl : lv_has ls 11 [(0, .ref (h 0))] := hl
  refine lv_aload_n hx hb dX3_product_0 rfl (lv_at hl 0 rfl) ?_
  refine va_get (D := (dC, dI)) (ci := 3) (v := .int σ.2.2.2.1) (C := RX3) (T := TX3) (N := 9) hx hb hts (fun _ h9 => List.mem_cons_of_mem _ (List.mem_append_right _ h9)) hown hK hP 0 rfl rfl 3 (by decide) (hts (.fieldLink RX3 24 "LowPowerCpuModel" "how" "I") (by decide +kernel)) (fun _ h9 => h9) rfl dX3_product_1 ?_
  refine lv_iconst (v := 2) hx hb dX3_product_4 (by decide) ?_
  refine lv_irem hx hb dX3_product_5 (by decide) ?_
  refine wj (α := Int64) (D := (dC, dI)) (cl := vwCl) (A := AX 4 h s.heap.size) (H0 := s.heap) (if (σ.2.2.2.1 - σ.2.2.2.1 / (2 : Int32) * (2 : Int32)) = 0 then (σ.2.2.1 (0 : Int32).toNatClampNeg).toInt64 else ((σ.2.2.1 (0 : Int32).toNatClampNeg).toInt16.toInt32).toInt64) (fun v2 => wsR h k σ) (fun v2 => [(0, .ref (h 0))]) 11 (fun v2 ls => F0 m 27 ls [.long v2]) ?_ ?_
  · intro v2 ls H locs ev2 hl hP hD hS
    try dsimp only at hl hP hD ⊢
    refine lv_lstore_n (lv' := [(1, .long v2), (0, .ref (h 0))]) hx hb dX3_product_27 rfl hl (by decide) rfl (fun ls hl => ?_)
    refine lv_aload_n hx hb dX3_product_28 rfl (lv_at hl 1 rfl) ?_
    refine va_get (D := (dC, dI)) (ci := 3) (v := .int σ.2.2.2.1) (C := RX3) (T := TX3) (N := 9) hx hb hts (fun _ h9 => List.mem_cons_of_mem _ (List.mem_append_right _ h9)) hown hK hP 0 rfl rfl 3 (by decide) (hts (.fieldLink RX3 24 "LowPowerCpuModel" "how" "I") (by decide +kernel)) (fun _ h9 => h9) rfl dX3_product_29 ?_
    refine lv_iconst (v := 2) hx hb dX3_product_32 (by decide) ?_
    refine lv_irem hx hb dX3_product_33 (by decide) ?_
    refine wj (α := Int64) (D := (dC, dI)) (cl := vwCl) (A := AX 4 h s.heap.size) (H0 := s.heap) (if (σ.2.2.2.1 - σ.2.2.2.1 / (2 : Int32) * (2 : Int32)) = 0 then (σ.2.2.1 (1 : Int32).toNatClampNeg).toInt64 else ((σ.2.2.1 (1 : Int32).toNatClampNeg).toInt16.toInt32).toInt64) (fun v4 => wsR h k σ) (fun v4 => [(1, .long v2), (0, .ref (h 0))]) 11 (fun v4 ls => F0 m 55 ls [.long v4]) ?_ ?_
    · intro v4 ls H locs ev4 hl hP hD hS
      try dsimp only at hl hP hD ⊢
      refine lv_lstore_n (lv' := [(3, .long v4), (1, .long v2), (0, .ref (h 0))]) hx hb dX3_product_55 rfl hl (by decide) rfl (fun ls hl => ?_)
      refine lv_lload_n hx hb dX3_product_56 rfl (lv_at hl 1 rfl) ?_
      refine lv_lload_n hx hb dX3_product_57 rfl (lv_at hl 0 rfl) ?_
      refine lv_lmul hx hb dX3_product_58 ?_
      refine lv_topl (fun x5 ex5 => ?_)
      refine lv_lstore (lv' := [(5, .long x5), (3, .long v4), (1, .long v2), (0, .ref (h 0))]) hx hb dX3_product_59 hl (by decide) rfl (fun ls hl => ?_)
      refine lv_aload_n hx hb dX3_product_61 rfl (lv_at hl 3 rfl) ?_
      refine va_get (D := (dC, dI)) (ci := 3) (v := .int σ.2.2.2.1) (C := RX3) (T := TX3) (N := 9) hx hb hts (fun _ h9 => List.mem_cons_of_mem _ (List.mem_append_right _ h9)) hown hK hP 0 rfl rfl 3 (by decide) (hts (.fieldLink RX3 24 "LowPowerCpuModel" "how" "I") (by decide +kernel)) (fun _ h9 => h9) rfl dX3_product_62 ?_
      refine lv_iconst (v := 2) hx hb dX3_product_65 (by decide) ?_
      refine wj (α := Int64) (D := (dC, dI)) (cl := vwCl) (A := AX 4 h s.heap.size) (H0 := s.heap) (if 2 ≤ σ.2.2.2.1 then (((σ.2.2.1 (3 : Int32).toNatClampNeg).toInt64) <<< ((16 : Int32).toInt64 &&& 63)) ||| ((σ.2.2.1 (2 : Int32).toNatClampNeg).toInt64) else 0) (fun v7 => wsR h k σ) (fun v7 => [(5, .long x5), (3, .long v4), (1, .long v2), (0, .ref (h 0))]) 11 (fun v7 ls => F0 m 91 ls [.long v7]) ?_ ?_
      · intro v7 ls H locs ev7 hl hP hD hS
        try dsimp only at hl hP hD ⊢
        refine lv_lstore (lv' := [(7, .long v7), (5, .long x5), (3, .long v4), (1, .long v2), (0, .ref (h 0))]) hx hb dX3_product_91 hl (by decide) rfl (fun ls hl => ?_)
        refine lv_lload hx hb dX3_product_93 (lv_at hl 0 rfl) ?_
        refine lv_lload hx hb dX3_product_95 (lv_at hl 1 rfl) ?_
        refine lv_ldc2 (v := 4294967295) hx hb hown (hts (.constantLong RX3 69 4294967295) (by decide +kernel)) dX3_product_97 ?_
        refine lv_land hx hb dX3_product_100 ?_
        refine lv_ladd hx hb dX3_product_101 ?_
        refine lv_topl (fun x8 ex8 => ?_)
        refine lv_lstore (lv' := [(9, .long x8), (7, .long v7), (5, .long x5), (3, .long v4), (1, .long v2), (0, .ref (h 0))]) hx hb dX3_product_102 hl (by decide) rfl (fun ls hl => ?_)
        refine lv_aload_n hx hb dX3_product_104 rfl (lv_at hl 5 rfl) ?_
        refine va_get (D := (dC, dI)) (ci := 3) (v := .ref (h 3)) (C := RX3) (T := TX3) (N := 9) hx hb hts (fun _ h9 => List.mem_cons_of_mem _ (List.mem_append_right _ h9)) hown hK hP 0 rfl rfl 2 (by decide) (hts (.fieldLink RX3 18 "LowPowerCpuModel" "by" "[I") (by decide +kernel)) (fun _ h9 => h9) rfl dX3_product_105 ?_
        refine lv_iconst (v := 2) hx hb dX3_product_108 (by decide) ?_
        refine lv_lload hx hb dX3_product_109 (lv_at hl 0 rfl) ?_
        refine lv_ldc2 (v := 65535) hx hb hown (hts (.constantLong RX3 71 65535) (by decide +kernel)) dX3_product_111 ?_
        refine lv_land hx hb dX3_product_114 ?_
        refine lv_l2i hx hb dX3_product_115 rfl ?_
        refine lv_topi (fun x9 ex9 => ?_)
        refine va_iast hx hb hK hP hD hS 3 0 rfl rfl (in_c (by decide)) dX3_product_116 (fun H locs hP hD hS => ?_)
        have hP : va_P (dC, dI) vwCl (wsR h k (σ.1, σ.2.1, upd σ.2.2.1 ((2 : Int32).toNatClampNeg) x9, σ.2.2.2.1, σ.2.2.2.2.1, σ.2.2.2.2.2.1, σ.2.2.2.2.2.2.1, σ.2.2.2.2.2.2.2.1, σ.2.2.2.2.2.2.2.2)) H := hP
        have hD : va_D (AX 4 h s.heap.size) (wsR h k (σ.1, σ.2.1, upd σ.2.2.1 ((2 : Int32).toNatClampNeg) x9, σ.2.2.2.1, σ.2.2.2.2.1, σ.2.2.2.2.2.1, σ.2.2.2.2.2.2.1, σ.2.2.2.2.2.2.2.1, σ.2.2.2.2.2.2.2.2)) := hD
        refine lv_aload_n hx hb dX3_product_117 rfl (lv_at hl 5 rfl) ?_
        refine va_get (D := (dC, dI)) (ci := 3) (v := .ref (h 3)) (C := RX3) (T := TX3) (N := 9) hx hb hts (fun _ h9 => List.mem_cons_of_mem _ (List.mem_append_right _ h9)) hown hK hP 0 rfl rfl 2 (by decide) (hts (.fieldLink RX3 18 "LowPowerCpuModel" "by" "[I") (by decide +kernel)) (fun _ h9 => h9) rfl dX3_product_118 ?_
        refine lv_iconst (v := 3) hx hb dX3_product_121 (by decide) ?_
        refine lv_lload hx hb dX3_product_122 (lv_at hl 0 rfl) ?_
        refine lv_bipush (v := 16) hx hb dX3_product_124 (by decide) ?_
        refine lv_lshr hx hb dX3_product_126 rfl ?_
        refine lv_ldc2 (v := 65535) hx hb hown (hts (.constantLong RX3 71 65535) (by decide +kernel)) dX3_product_127 ?_
        refine lv_land hx hb dX3_product_130 ?_
        refine lv_l2i hx hb dX3_product_131 rfl ?_
        refine lv_topi (fun x10 ex10 => ?_)
        refine va_iast hx hb hK hP hD hS 3 0 rfl rfl (in_c (by decide)) dX3_product_132 (fun H locs hP hD hS => ?_)
        have hP : va_P (dC, dI) vwCl (wsR h k (σ.1, σ.2.1, upd (upd σ.2.2.1 ((2 : Int32).toNatClampNeg) x9) ((3 : Int32).toNatClampNeg) x10, σ.2.2.2.1, σ.2.2.2.2.1, σ.2.2.2.2.2.1, σ.2.2.2.2.2.2.1, σ.2.2.2.2.2.2.2.1, σ.2.2.2.2.2.2.2.2)) H := hP
        have hD : va_D (AX 4 h s.heap.size) (wsR h k (σ.1, σ.2.1, upd (upd σ.2.2.1 ((2 : Int32).toNatClampNeg) x9) ((3 : Int32).toNatClampNeg) x10, σ.2.2.2.1, σ.2.2.2.2.1, σ.2.2.2.2.2.1, σ.2.2.2.2.2.2.1, σ.2.2.2.2.2.2.2.1, σ.2.2.2.2.2.2.2.2)) := hD
        refine lv_aload_n hx hb dX3_product_133 rfl (lv_at hl 5 rfl) ?_
        refine va_get (D := (dC, dI)) (ci := 3) (v := .int σ.2.2.2.1) (C := RX3) (T := TX3) (N := 9) hx hb hts (fun _ h9 => List.mem_cons_of_mem _ (List.mem_append_right _ h9)) hown hK hP 0 rfl rfl 3 (by decide) (hts (.fieldLink RX3 24 "LowPowerCpuModel" "how" "I") (by decide +kernel)) (fun _ h9 => h9) rfl dX3_product_134 ?_
        refine lv_iconst (v := 2) hx hb dX3_product_137 (by decide) ?_
        refine lv_icmp_ne (tgt := 156) hx hb dX3_product_138 (by decide) (fun c11 => ?_) (fun c11 => ?_)
        · refine lv_aload_n hx hb dX3_product_156 rfl (lv_at hl 5 rfl) ?_
          refine va_get (D := (dC, dI)) (ci := 3) (v := .ref (h 3)) (C := RX3) (T := TX3) (N := 9) hx hb hts (fun _ h9 => List.mem_cons_of_mem _ (List.mem_append_right _ h9)) hown hK hP 0 rfl rfl 2 (by decide) (hts (.fieldLink RX3 18 "LowPowerCpuModel" "by" "[I") (by decide +kernel)) (fun _ h9 => h9) rfl dX3_product_157 ?_
          refine lv_iconst (v := 4) hx hb dX3_product_160 (by decide) ?_
          refine lv_aload_n hx hb dX3_product_161 rfl (lv_at hl 5 rfl) ?_
          refine va_get (D := (dC, dI)) (ci := 3) (v := .int σ.2.2.2.1) (C := RX3) (T := TX3) (N := 9) hx hb hts (fun _ h9 => List.mem_cons_of_mem _ (List.mem_append_right _ h9)) hown hK hP 0 rfl rfl 3 (by decide) (hts (.fieldLink RX3 24 "LowPowerCpuModel" "how" "I") (by decide +kernel)) (fun _ h9 => h9) rfl dX3_product_162 ?_
          refine lv_iconst (v := 2) hx hb dX3_product_165 (by decide) ?_
          refine lv_irem hx hb dX3_product_166 (by decide) ?_
          refine lv_iconst (v := 1) hx hb dX3_product_167 (by decide) ?_
          refine wj (α := Int32) (D := (dC, dI)) (cl := vwCl) (A := AX 4 h s.heap.size) (H0 := s.heap) (if (σ.2.2.2.1 - σ.2.2.2.1 / (2 : Int32) * (2 : Int32)) = 1 then if σ.2.2.2.1 = 1 then if 0 ≤ (lg_cmp x5 0) then 0 else 65535 else if (upd (upd σ.2.2.1 ((2 : Int32).toNatClampNeg) x9) ((3 : Int32).toNatClampNeg) x10 (3 : Int32).toNatClampNeg) ≤ 32767 then 0 else 65535 else 0) (fun v13 => wsR h k (σ.1, σ.2.1, upd (upd σ.2.2.1 ((2 : Int32).toNatClampNeg) x9) ((3 : Int32).toNatClampNeg) x10, σ.2.2.2.1, σ.2.2.2.2.1, σ.2.2.2.2.2.1, σ.2.2.2.2.2.2.1, σ.2.2.2.2.2.2.2.1, σ.2.2.2.2.2.2.2.2)) (fun v13 => [(9, .long x8), (7, .long v7), (5, .long x5), (3, .long v4), (1, .long v2), (0, .ref (h 0))]) 11 (fun v13 ls => F0 m 207 ls [.int v13, .int 4, .ref (h 3)]) ?_ ?_
          · intro v13 ls H locs ev13 hl hP hD hS
            try dsimp only at hl hP hD ⊢
            refine va_iast hx hb hK hP hD hS 3 0 rfl rfl (in_c (by decide)) dX3_product_207 (fun H locs hP hD hS => ?_)
            have hP : va_P (dC, dI) vwCl (wsR h k (σ.1, σ.2.1, upd (upd (upd σ.2.2.1 ((2 : Int32).toNatClampNeg) x9) ((3 : Int32).toNatClampNeg) x10) ((4 : Int32).toNatClampNeg) v13, σ.2.2.2.1, σ.2.2.2.2.1, σ.2.2.2.2.2.1, σ.2.2.2.2.2.2.1, σ.2.2.2.2.2.2.2.1, σ.2.2.2.2.2.2.2.2)) H := hP
            have hD : va_D (AX 4 h s.heap.size) (wsR h k (σ.1, σ.2.1, upd (upd (upd σ.2.2.1 ((2 : Int32).toNatClampNeg) x9) ((3 : Int32).toNatClampNeg) x10) ((4 : Int32).toNatClampNeg) v13, σ.2.2.2.1, σ.2.2.2.2.1, σ.2.2.2.2.2.1, σ.2.2.2.2.2.2.1, σ.2.2.2.2.2.2.2.1, σ.2.2.2.2.2.2.2.2)) := hD
            exact retR_v hx hb hr hlocks (by subst ev13; subst ex10; subst ex9; subst ex8; subst ev7; subst ex5; subst ev4; subst ev2; exact if_neg c11) hP hD hS dX3_product_208
          · intro J
            refine lv_icmp_ne (tgt := 206) hx hb dX3_product_168 (by decide) (fun c12 => ?_) (fun c12 => ?_)
            · refine lv_iconst (v := 0) hx hb dX3_product_206 (by decide) ?_
              exact J (0) ls _ _ (by exact (if_neg c12).symm) (lv_sub hl [0, 1, 2, 3, 4, 5] rfl) hP hD hS
            · refine lv_aload_n hx hb dX3_product_171 rfl (lv_at hl 5 rfl) ?_
              refine va_get (D := (dC, dI)) (ci := 3) (v := .int σ.2.2.2.1) (C := RX3) (T := TX3) (N := 9) hx hb hts (fun _ h9 => List.mem_cons_of_mem _ (List.mem_append_right _ h9)) hown hK hP 0 rfl rfl 3 (by decide) (hts (.fieldLink RX3 24 "LowPowerCpuModel" "how" "I") (by decide +kernel)) (fun _ h9 => h9) rfl dX3_product_172 ?_
              refine lv_iconst (v := 1) hx hb dX3_product_175 (by decide) ?_
              refine lv_icmp_ne (tgt := 189) hx hb dX3_product_176 (by decide) (fun c14 => ?_) (fun c14 => ?_)
              · refine lv_aload_n hx hb dX3_product_189 rfl (lv_at hl 5 rfl) ?_
                refine va_get (D := (dC, dI)) (ci := 3) (v := .ref (h 3)) (C := RX3) (T := TX3) (N := 9) hx hb hts (fun _ h9 => List.mem_cons_of_mem _ (List.mem_append_right _ h9)) hown hK hP 0 rfl rfl 2 (by decide) (hts (.fieldLink RX3 18 "LowPowerCpuModel" "by" "[I") (by decide +kernel)) (fun _ h9 => h9) rfl dX3_product_190 ?_
                refine lv_iconst (v := 3) hx hb dX3_product_193 (by decide) ?_
                refine va_iald hx hb hK hP 3 0 rfl rfl (in_c (by decide)) dX3_product_194 ?_
                refine lv_sipush (v := 32767) hx hb dX3_product_195 (by decide) ?_
                refine lv_icmp_le (tgt := 206) hx hb dX3_product_198 (by decide) (fun c15 => ?_) (fun c15 => ?_)
                · refine lv_iconst (v := 0) hx hb dX3_product_206 (by decide) ?_
                  exact J (0) ls _ _ (by exact ((if_pos c12).trans ((if_neg c14).trans (if_pos c15))).symm) (lv_sub hl [0, 1, 2, 3, 4, 5] rfl) hP hD hS
                · refine lv_ldc (v := 65535) hx hb hown (hts (.constant RX3 50 65535) (by decide +kernel)) dX3_product_201 ?_
                  refine lv_goto (tgt := 207) hx hb dX3_product_203 (by decide) ?_
                  exact J (65535) ls _ _ (by exact ((if_pos c12).trans ((if_neg c14).trans (if_neg c15))).symm) (lv_sub hl [0, 1, 2, 3, 4, 5] rfl) hP hD hS
              · refine lv_lload hx hb dX3_product_179 (lv_at hl 2 rfl) ?_
                refine lv_lconst (v := 0) hx hb dX3_product_181 (by decide) ?_
                refine W.lcmp hx hb dX3_product_182 ?_
                refine lv_if_ge (tgt := 206) hx hb dX3_product_183 (by decide) (fun c16 => ?_) (fun c16 => ?_)
                · refine lv_iconst (v := 0) hx hb dX3_product_206 (by decide) ?_
                  exact J (0) ls _ _ (by exact ((if_pos c12).trans ((if_pos c14).trans (if_pos c16))).symm) (lv_sub hl [0, 1, 2, 3, 4, 5] rfl) hP hD hS
                · refine lv_goto (tgt := 201) hx hb dX3_product_186 (by decide) ?_
                  refine lv_ldc (v := 65535) hx hb hown (hts (.constant RX3 50 65535) (by decide +kernel)) dX3_product_201 ?_
                  refine lv_goto (tgt := 207) hx hb dX3_product_203 (by decide) ?_
                  exact J (65535) ls _ _ (by exact ((if_pos c12).trans ((if_pos c14).trans (if_neg c16))).symm) (lv_sub hl [0, 1, 2, 3, 4, 5] rfl) hP hD hS
        · refine lv_aload_n hx hb dX3_product_141 rfl (lv_at hl 5 rfl) ?_
          refine va_get (D := (dC, dI)) (ci := 3) (v := .ref (h 3)) (C := RX3) (T := TX3) (N := 9) hx hb hts (fun _ h9 => List.mem_cons_of_mem _ (List.mem_append_right _ h9)) hown hK hP 0 rfl rfl 2 (by decide) (hts (.fieldLink RX3 18 "LowPowerCpuModel" "by" "[I") (by decide +kernel)) (fun _ h9 => h9) rfl dX3_product_142 ?_
          refine lv_iconst (v := 4) hx hb dX3_product_145 (by decide) ?_
          refine lv_lload hx hb dX3_product_146 (lv_at hl 0 rfl) ?_
          refine lv_bipush (v := 32) hx hb dX3_product_148 (by decide) ?_
          refine lv_lshr hx hb dX3_product_150 rfl ?_
          refine lv_l2i hx hb dX3_product_151 rfl ?_
          refine lv_topi (fun x17 ex17 => ?_)
          refine va_iast hx hb hK hP hD hS 3 0 rfl rfl (in_c (by decide)) dX3_product_152 (fun H locs hP hD hS => ?_)
          have hP : va_P (dC, dI) vwCl (wsR h k (σ.1, σ.2.1, upd (upd (upd σ.2.2.1 ((2 : Int32).toNatClampNeg) x9) ((3 : Int32).toNatClampNeg) x10) ((4 : Int32).toNatClampNeg) x17, σ.2.2.2.1, σ.2.2.2.2.1, σ.2.2.2.2.2.1, σ.2.2.2.2.2.2.1, σ.2.2.2.2.2.2.2.1, σ.2.2.2.2.2.2.2.2)) H := hP
          have hD : va_D (AX 4 h s.heap.size) (wsR h k (σ.1, σ.2.1, upd (upd (upd σ.2.2.1 ((2 : Int32).toNatClampNeg) x9) ((3 : Int32).toNatClampNeg) x10) ((4 : Int32).toNatClampNeg) x17, σ.2.2.2.1, σ.2.2.2.2.1, σ.2.2.2.2.2.1, σ.2.2.2.2.2.2.1, σ.2.2.2.2.2.2.2.1, σ.2.2.2.2.2.2.2.2)) := hD
          refine lv_goto (tgt := 208) hx hb dX3_product_153 (by decide) ?_
          exact retR_v hx hb hr hlocks (by subst ex17; subst ex10; subst ex9; subst ex8; subst ev7; subst ex5; subst ev4; subst ev2; exact if_pos c11) hP hD hS dX3_product_208
      · intro J
        refine lv_icmp_ge (tgt := 73) hx hb dX3_product_66 (by decide) (fun c6 => ?_) (fun c6 => ?_)
        · refine lv_aload_n hx hb dX3_product_73 rfl (lv_at hl 3 rfl) ?_
          refine va_get (D := (dC, dI)) (ci := 3) (v := .ref (h 3)) (C := RX3) (T := TX3) (N := 9) hx hb hts (fun _ h9 => List.mem_cons_of_mem _ (List.mem_append_right _ h9)) hown hK hP 0 rfl rfl 2 (by decide) (hts (.fieldLink RX3 18 "LowPowerCpuModel" "by" "[I") (by decide +kernel)) (fun _ h9 => h9) rfl dX3_product_74 ?_
          refine lv_iconst (v := 3) hx hb dX3_product_77 (by decide) ?_
          refine va_iald hx hb hK hP 3 0 rfl rfl (in_c (by decide)) dX3_product_78 ?_
          refine lv_i2l hx hb dX3_product_79 rfl ?_
          refine lv_bipush (v := 16) hx hb dX3_product_80 (by decide) ?_
          refine lv_lshl hx hb dX3_product_82 rfl ?_
          refine lv_aload_n hx hb dX3_product_83 rfl (lv_at hl 3 rfl) ?_
          refine va_get (D := (dC, dI)) (ci := 3) (v := .ref (h 3)) (C := RX3) (T := TX3) (N := 9) hx hb hts (fun _ h9 => List.mem_cons_of_mem _ (List.mem_append_right _ h9)) hown hK hP 0 rfl rfl 2 (by decide) (hts (.fieldLink RX3 18 "LowPowerCpuModel" "by" "[I") (by decide +kernel)) (fun _ h9 => h9) rfl dX3_product_84 ?_
          refine lv_iconst (v := 2) hx hb dX3_product_87 (by decide) ?_
          refine va_iald hx hb hK hP 3 0 rfl rfl (in_c (by decide)) dX3_product_88 ?_
          refine lv_i2l hx hb dX3_product_89 rfl ?_
          refine lv_lor hx hb dX3_product_90 ?_
          exact J ((((σ.2.2.1 (3 : Int32).toNatClampNeg).toInt64) <<< ((16 : Int32).toInt64 &&& 63)) ||| ((σ.2.2.1 (2 : Int32).toNatClampNeg).toInt64)) ls _ _ (by exact (if_pos c6).symm) (lv_sub hl [0, 1, 2, 3] rfl) hP hD hS
        · refine lv_lconst (v := 0) hx hb dX3_product_69 (by decide) ?_
          refine lv_goto (tgt := 91) hx hb dX3_product_70 (by decide) ?_
          exact J (0) ls _ _ (by exact (if_neg c6).symm) (lv_sub hl [0, 1, 2, 3] rfl) hP hD hS
    · intro J
      refine lv_if_ne (tgt := 47) hx hb dX3_product_34 (by decide) (fun c3 => ?_) (fun c3 => ?_)
      · refine lv_aload_n hx hb dX3_product_47 rfl (lv_at hl 1 rfl) ?_
        refine va_get (D := (dC, dI)) (ci := 3) (v := .ref (h 3)) (C := RX3) (T := TX3) (N := 9) hx hb hts (fun _ h9 => List.mem_cons_of_mem _ (List.mem_append_right _ h9)) hown hK hP 0 rfl rfl 2 (by decide) (hts (.fieldLink RX3 18 "LowPowerCpuModel" "by" "[I") (by decide +kernel)) (fun _ h9 => h9) rfl dX3_product_48 ?_
        refine lv_iconst (v := 1) hx hb dX3_product_51 (by decide) ?_
        refine va_iald hx hb hK hP 3 0 rfl rfl (in_c (by decide)) dX3_product_52 ?_
        refine lv_i2s hx hb dX3_product_53 rfl ?_
        refine lv_i2l hx hb dX3_product_54 rfl ?_
        exact J (((σ.2.2.1 (1 : Int32).toNatClampNeg).toInt16.toInt32).toInt64) ls _ _ (by exact (if_neg c3).symm) (lv_sub hl [0, 1] rfl) hP hD hS
      · refine lv_aload_n hx hb dX3_product_37 rfl (lv_at hl 1 rfl) ?_
        refine va_get (D := (dC, dI)) (ci := 3) (v := .ref (h 3)) (C := RX3) (T := TX3) (N := 9) hx hb hts (fun _ h9 => List.mem_cons_of_mem _ (List.mem_append_right _ h9)) hown hK hP 0 rfl rfl 2 (by decide) (hts (.fieldLink RX3 18 "LowPowerCpuModel" "by" "[I") (by decide +kernel)) (fun _ h9 => h9) rfl dX3_product_38 ?_
        refine lv_iconst (v := 1) hx hb dX3_product_41 (by decide) ?_
        refine va_iald hx hb hK hP 3 0 rfl rfl (in_c (by decide)) dX3_product_42 ?_
        refine lv_i2l hx hb dX3_product_43 rfl ?_
        refine lv_goto (tgt := 55) hx hb dX3_product_44 (by decide) ?_
        exact J ((σ.2.2.1 (1 : Int32).toNatClampNeg).toInt64) ls _ _ (by exact (if_pos c3).symm) (lv_sub hl [0, 1] rfl) hP hD hS
  · intro J
    refine lv_if_ne (tgt := 19) hx hb dX3_product_6 (by decide) (fun c1 => ?_) (fun c1 => ?_)
    · refine lv_aload_n hx hb dX3_product_19 rfl (lv_at hl 0 rfl) ?_
      refine va_get (D := (dC, dI)) (ci := 3) (v := .ref (h 3)) (C := RX3) (T := TX3) (N := 9) hx hb hts (fun _ h9 => List.mem_cons_of_mem _ (List.mem_append_right _ h9)) hown hK hP 0 rfl rfl 2 (by decide) (hts (.fieldLink RX3 18 "LowPowerCpuModel" "by" "[I") (by decide +kernel)) (fun _ h9 => h9) rfl dX3_product_20 ?_
      refine lv_iconst (v := 0) hx hb dX3_product_23 (by decide) ?_
      refine va_iald hx hb hK hP 3 0 rfl rfl (in_c (by decide)) dX3_product_24 ?_
      refine lv_i2s hx hb dX3_product_25 rfl ?_
      refine lv_i2l hx hb dX3_product_26 rfl ?_
      exact J (((σ.2.2.1 (0 : Int32).toNatClampNeg).toInt16.toInt32).toInt64) ls _ _ (by exact (if_neg c1).symm) (lv_sub hl [0] rfl) hP hD hS
    · refine lv_aload_n hx hb dX3_product_9 rfl (lv_at hl 0 rfl) ?_
      refine va_get (D := (dC, dI)) (ci := 3) (v := .ref (h 3)) (C := RX3) (T := TX3) (N := 9) hx hb hts (fun _ h9 => List.mem_cons_of_mem _ (List.mem_append_right _ h9)) hown hK hP 0 rfl rfl 2 (by decide) (hts (.fieldLink RX3 18 "LowPowerCpuModel" "by" "[I") (by decide +kernel)) (fun _ h9 => h9) rfl dX3_product_10 ?_
      refine lv_iconst (v := 0) hx hb dX3_product_13 (by decide) ?_
      refine va_iald hx hb hK hP 3 0 rfl rfl (in_c (by decide)) dX3_product_14 ?_
      refine lv_i2l hx hb dX3_product_15 rfl ?_
      refine lv_goto (tgt := 27) hx hb dX3_product_16 (by decide) ?_
      exact J ((σ.2.2.1 (0 : Int32).toNatClampNeg).toInt64) ls _ _ (by exact (if_pos c1).symm) (lv_sub hl [0] rfl) hP hD hS

set_option maxHeartbeats 4000000 in
set_option maxRecDepth 100000 in
theorem c_X3_multiply (l : Launch) (dC : Nat → ClassId) (dI : Nat → Nat → Nat) (h : Nat → Nat) (k : Nat → ClassId) (sz : Nat) (σ : StR) (a1 : Int32) (a2 : Int32) : Met l yX3_multiply wsX3_multiply ({ frames := 1, cells := 0, slots := 0, locals := 30 }) (PcR (dC, dI) h k [.ref (h 0), .int a1, .int a2] sz σ) (va_Qv (fun u => u = f_X3_multiply σ a1 a2) (BR (dC, dI) h k (AX 4 h sz)) (AX 4 h sz)) 0 0 (AX 4 h sz) := by
  refine Met.ofW (cc := cX3_multiply) (maxL := 3) (ret := none) (by decide) rfl ?_
  intro p e s m args below meth c s₁ B hml hv
  obtain ⟨rfl, rfl, hP, hct, hD⟩ := hv
  have hx := B.exec
  have hb := B.bytes
  have hr := B.returns
  have hts := atoms_spec (ws := wsX3_multiply) B.pre
  have hown : s.vm.findClass RX3 = some m.cls := findClass_of_methodNamed B.named
  have hlocks := B.notSynchronized
  have hK := hct.1
  have hS : va_S (AX 4 h s.heap.size) s.heap s.heap [] := va_S.rf
  have hl := lv_entry ([.ref (h 0), .int a1, .int a2]) (n := 3) (Nat.le_of_ble_eq_true rfl)
  rw [lg_entry_eq]
  generalize (lg_sl ([.ref (h 0), .int a1, .int a2]) ++ List.replicate (3 - (lg_sl ([.ref (h 0), .int a1, .int a2])).length) Slot.unset).toArray = ls at hl ⊢
  have hl : lv_has ls 3 [(0, .ref (h 0)), (1, .int a1), (2, .int a2)] := hl
  refine lv_iload_n hx hb dX3_multiply_0 rfl (lv_at hl 1 rfl) ?_
  refine lv_iconst (v := 4) hx hb dX3_multiply_1 (by decide) ?_
  refine lv_icmp_ge (tgt := 20) hx hb dX3_multiply_2 (by decide) (fun c1 => ?_) (fun c1 => ?_)
  · refine lv_iload_n hx hb dX3_multiply_20 rfl (lv_at hl 1 rfl) ?_
    refine lv_iconst (v := 4) hx hb dX3_multiply_21 (by decide) ?_
    refine lv_icmp_ne (tgt := 39) hx hb dX3_multiply_22 (by decide) (fun c2 => ?_) (fun c2 => ?_)
    · refine lv_iload_n hx hb dX3_multiply_39 rfl (lv_at hl 1 rfl) ?_
      refine lv_bipush (v := 7) hx hb dX3_multiply_40 (by decide) ?_
      refine lv_icmp_ge (tgt := 54) hx hb dX3_multiply_42 (by decide) (fun c3 => ?_) (fun c3 => ?_)
      · exact retR_v hx hb hr hlocks (by exact (if_pos c1).trans ((if_neg c2).trans (if_pos c3))) hP hD hS dX3_multiply_54
      · refine lv_aload_n hx hb dX3_multiply_45 rfl (lv_at hl 0 rfl) ?_
        refine va_get (D := (dC, dI)) (ci := 3) (v := .ref (h 3)) (C := RX3) (T := TX3) (N := 9) hx hb hts (fun _ h9 => List.mem_cons_of_mem _ (List.mem_append_right _ h9)) hown hK hP 0 rfl rfl 2 (by decide) (hts (.fieldLink RX3 18 "LowPowerCpuModel" "by" "[I") (by decide +kernel)) (fun _ h9 => h9) rfl dX3_multiply_46 ?_
        refine lv_iload_n hx hb dX3_multiply_49 rfl (lv_at hl 1 rfl) ?_
        refine lv_iconst (v := 3) hx hb dX3_multiply_50 (by decide) ?_
        refine lv_isub hx hb dX3_multiply_51 ?_
        refine lv_iload_n hx hb dX3_multiply_52 rfl (lv_at hl 2 rfl) ?_
        refine va_iast hx hb hK hP hD hS 3 0 rfl rfl (mul_in c1 c3) dX3_multiply_53 (fun H locs hP hD hS => ?_)
        have hP : va_P (dC, dI) vwCl (wsR h k (σ.1, σ.2.1, upd σ.2.2.1 ((a1 - (3 : Int32)).toNatClampNeg) a2, σ.2.2.2.1, σ.2.2.2.2.1, σ.2.2.2.2.2.1, σ.2.2.2.2.2.2.1, σ.2.2.2.2.2.2.2.1, σ.2.2.2.2.2.2.2.2)) H := hP
        have hD : va_D (AX 4 h s.heap.size) (wsR h k (σ.1, σ.2.1, upd σ.2.2.1 ((a1 - (3 : Int32)).toNatClampNeg) a2, σ.2.2.2.1, σ.2.2.2.2.1, σ.2.2.2.2.2.1, σ.2.2.2.2.2.2.1, σ.2.2.2.2.2.2.2.1, σ.2.2.2.2.2.2.2.2)) := hD
        exact retR_v hx hb hr hlocks (by exact (if_pos c1).trans ((if_neg c2).trans (if_neg c3))) hP hD hS dX3_multiply_54
    · refine lv_aload_n hx hb dX3_multiply_25 rfl (lv_at hl 0 rfl) ?_
      refine va_get (D := (dC, dI)) (ci := 3) (v := .ref (h 3)) (C := RX3) (T := TX3) (N := 9) hx hb hts (fun _ h9 => List.mem_cons_of_mem _ (List.mem_append_right _ h9)) hown hK hP 0 rfl rfl 2 (by decide) (hts (.fieldLink RX3 18 "LowPowerCpuModel" "by" "[I") (by decide +kernel)) (fun _ h9 => h9) rfl dX3_multiply_26 ?_
      refine lv_iconst (v := 1) hx hb dX3_multiply_29 (by decide) ?_
      refine lv_iload_n hx hb dX3_multiply_30 rfl (lv_at hl 2 rfl) ?_
      refine va_iast hx hb hK hP hD hS 3 0 rfl rfl (in_c (by decide)) dX3_multiply_31 (fun H locs hP hD hS => ?_)
      have hP : va_P (dC, dI) vwCl (wsR h k (σ.1, σ.2.1, upd σ.2.2.1 ((1 : Int32).toNatClampNeg) a2, σ.2.2.2.1, σ.2.2.2.2.1, σ.2.2.2.2.2.1, σ.2.2.2.2.2.2.1, σ.2.2.2.2.2.2.2.1, σ.2.2.2.2.2.2.2.2)) H := hP
      have hD : va_D (AX 4 h s.heap.size) (wsR h k (σ.1, σ.2.1, upd σ.2.2.1 ((1 : Int32).toNatClampNeg) a2, σ.2.2.2.1, σ.2.2.2.2.1, σ.2.2.2.2.2.1, σ.2.2.2.2.2.2.1, σ.2.2.2.2.2.2.2.1, σ.2.2.2.2.2.2.2.2)) := hD
      refine lv_aload_n hx hb dX3_multiply_32 rfl (lv_at hl 0 rfl) ?_
      refine callR_v (va_runV (As := []) (rest := []) ⟨hx, hb, hml, hown, hts⟩ (c_X3_product l dC dI h k _ (σ.1, σ.2.1, upd σ.2.2.1 ((1 : Int32).toNatClampNeg) a2, σ.2.2.2.1, σ.2.2.2.2.1, σ.2.2.2.2.2.1, σ.2.2.2.2.2.2.1, σ.2.2.2.2.2.2.2.1, σ.2.2.2.2.2.2.2.2) ) (cwV 0 hts gX3_multiply_X3_product rfl rfl rfl (by decide +kernel) ⟨Nat.le_of_ble_eq_true rfl, Nat.le_of_ble_eq_true rfl⟩) (preR_V (ci := 3) (q0 := 0) hct hP hD hS rfl rfl) rfl rfl hl.1 rfl (lv_room (Nat.le_of_ble_eq_true rfl)) dX3_multiply_33 ⟨Nat.le_of_ble_eq_true rfl, Nat.le_of_ble_eq_true rfl⟩) hS (fun σ4 H locs eσ4 hP hD hS => ?_)
      refine lv_goto (tgt := 54) hx hb dX3_multiply_36 (by decide) ?_
      exact retR_v hx hb hr hlocks (by subst eσ4; exact (if_pos c1).trans (if_pos c2)) hP hD hS dX3_multiply_54
  · refine lv_aload_n hx hb dX3_multiply_5 rfl (lv_at hl 0 rfl) ?_
    refine va_get (D := (dC, dI)) (ci := 3) (v := .ref (h 3)) (C := RX3) (T := TX3) (N := 9) hx hb hts (fun _ h9 => List.mem_cons_of_mem _ (List.mem_append_right _ h9)) hown hK hP 0 rfl rfl 2 (by decide) (hts (.fieldLink RX3 18 "LowPowerCpuModel" "by" "[I") (by decide +kernel)) (fun _ h9 => h9) rfl dX3_multiply_6 ?_
    refine lv_iconst (v := 0) hx hb dX3_multiply_9 (by decide) ?_
    refine lv_iload_n hx hb dX3_multiply_10 rfl (lv_at hl 2 rfl) ?_
    refine va_iast hx hb hK hP hD hS 3 0 rfl rfl (in_c (by decide)) dX3_multiply_11 (fun H locs hP hD hS => ?_)
    have hP : va_P (dC, dI) vwCl (wsR h k (σ.1, σ.2.1, upd σ.2.2.1 ((0 : Int32).toNatClampNeg) a2, σ.2.2.2.1, σ.2.2.2.2.1, σ.2.2.2.2.2.1, σ.2.2.2.2.2.2.1, σ.2.2.2.2.2.2.2.1, σ.2.2.2.2.2.2.2.2)) H := hP
    have hD : va_D (AX 4 h s.heap.size) (wsR h k (σ.1, σ.2.1, upd σ.2.2.1 ((0 : Int32).toNatClampNeg) a2, σ.2.2.2.1, σ.2.2.2.2.1, σ.2.2.2.2.2.1, σ.2.2.2.2.2.2.1, σ.2.2.2.2.2.2.2.1, σ.2.2.2.2.2.2.2.2)) := hD
    refine lv_aload_n hx hb dX3_multiply_12 rfl (lv_at hl 0 rfl) ?_
    refine lv_iload_n hx hb dX3_multiply_13 rfl (lv_at hl 1 rfl) ?_
    refine va_put (D := (dC, dI)) (ci := 3) (v := .int a1) (ty := .int) (C := RX3) (T := TX3) (N := 9) hx hb hts (fun _ h9 => List.mem_cons_of_mem _ (List.mem_append_right _ h9)) tyX3 tyX3_ok nmX3 hown hK hP hD hS 0 rfl rfl 3 (by decide) (hts (.fieldLink RX3 24 "LowPowerCpuModel" "how" "I") (by decide +kernel)) (fun _ h9 => h9) rfl (by decide +kernel) rfl rfl (Nat.le_of_ble_eq_true rfl) dX3_multiply_14 (fun H locs hP hD hS => ?_)
    have hP : va_P (dC, dI) vwCl (wsR h k (σ.1, σ.2.1, upd σ.2.2.1 ((0 : Int32).toNatClampNeg) a2, a1, σ.2.2.2.2.1, σ.2.2.2.2.2.1, σ.2.2.2.2.2.2.1, σ.2.2.2.2.2.2.2.1, σ.2.2.2.2.2.2.2.2)) H := hP
    have hD : va_D (AX 4 h s.heap.size) (wsR h k (σ.1, σ.2.1, upd σ.2.2.1 ((0 : Int32).toNatClampNeg) a2, a1, σ.2.2.2.2.1, σ.2.2.2.2.2.1, σ.2.2.2.2.2.2.1, σ.2.2.2.2.2.2.2.1, σ.2.2.2.2.2.2.2.2)) := hD
    refine lv_goto (tgt := 54) hx hb dX3_multiply_17 (by decide) ?_
    exact retR_v hx hb hr hlocks (by exact if_neg c1) hP hD hS dX3_multiply_54

set_option maxHeartbeats 4000000 in
set_option maxRecDepth 100000 in
theorem c_X3_setWord (l : Launch) (dC : Nat → ClassId) (dI : Nat → Nat → Nat) (h : Nat → Nat) (k : Nat → ClassId) (sz : Nat) (σ : StR) (a1 : Int32) (a2 : Int32) (ha1 : vp_in a1 65536) : Met l yX3_setWord wsX3_setWord ({ frames := 2, cells := 0, slots := 0, locals := 52 }) (PcR (dC, dI) h k [.ref (h 0), .int a1, .int a2] sz σ) (va_Qv (fun u => u = f_X3_setWord σ a1 a2) (BR (dC, dI) h k (AX 4 h sz)) (AX 4 h sz)) 0 0 (AX 4 h sz) := by
  refine Met.ofW (cc := cX3_setWord) (maxL := 3) (ret := none) (by decide) rfl ?_
  intro p e s m args below meth c s₁ B hml hv
  obtain ⟨rfl, rfl, hP, hct, hD⟩ := hv
  have hx := B.exec
  have hb := B.bytes
  have hr := B.returns
  have hts := atoms_spec (ws := wsX3_setWord) B.pre
  have hown : s.vm.findClass RX3 = some m.cls := findClass_of_methodNamed B.named
  have hlocks := B.notSynchronized
  have hK := hct.1
  have hS : va_S (AX 4 h s.heap.size) s.heap s.heap [] := va_S.rf
  have hl := lv_entry ([.ref (h 0), .int a1, .int a2]) (n := 3) (Nat.le_of_ble_eq_true rfl)
  rw [lg_entry_eq]
  generalize (lg_sl ([.ref (h 0), .int a1, .int a2]) ++ List.replicate (3 - (lg_sl ([.ref (h 0), .int a1, .int a2])).length) Slot.unset).toArray = ls at hl ⊢
  have hl : lv_has ls 3 [(0, .ref (h 0)), (1, .int a1), (2, .int a2)] := hl
  refine lv_iload_n hx hb dX3_setWord_0 rfl (lv_at hl 1 rfl) ?_
  refine callR_ip (va_runS (As := [.int a1]) (rest := []) ⟨hx, hb, hml, hown, hts⟩ (c_X3_isMultiplier l dC dI h k _ σ a1) (va_cwS 1 hts gX3_setWord_X3_isMultiplier rfl rfl rfl (by decide +kernel) ⟨Nat.le_of_ble_eq_true rfl, Nat.le_of_ble_eq_true rfl⟩) (preR_S hct hP hD hS) rfl rfl hl.1 rfl (lv_room (Nat.le_of_ble_eq_true rfl)) dX3_setWord_1 ⟨Nat.le_of_ble_eq_true rfl, Nat.le_of_ble_eq_true rfl⟩) hS (fun x1 H locs ex1 hP hD hS => ?_)
  refine lv_if_eq (tgt := 22) hx hb dX3_setWord_4 (by decide) (fun c2 => ?_) (fun c2 => ?_)
  · refine lv_aload_n hx hb dX3_setWord_22 rfl (lv_at hl 0 rfl) ?_
    refine va_get (D := (dC, dI)) (ci := 3) (v := .ref (h 1)) (C := RX3) (T := TX3) (N := 9) hx hb hts (fun _ h9 => List.mem_cons_of_mem _ (List.mem_append_right _ h9)) hown hK hP 0 rfl rfl 0 (by decide) (hts (.fieldLink RX3 8 "LowPowerCpuModel" "words" "[S") (by decide +kernel)) (fun _ h9 => h9) rfl dX3_setWord_23 ?_
    refine lv_iload_n hx hb dX3_setWord_26 rfl (lv_at hl 1 rfl) ?_
    refine lv_iconst (v := 1) hx hb dX3_setWord_27 (by decide) ?_
    refine lv_ishr hx hb dX3_setWord_28 ?_
    refine lv_iload_n hx hb dX3_setWord_29 rfl (lv_at hl 2 rfl) ?_
    refine lv_i2s hx hb dX3_setWord_30 rfl ?_
    refine va_sast hx hb hK hP hD hS 1 1 rfl rfl (shr1_in ha1) dX3_setWord_31 (fun H locs hP hD hS => ?_)
    have hP : va_P (dC, dI) vwCl (wsR h k (upd σ.1 ((a1 >>> ((1 : Int32) &&& 31)).toNatClampNeg) (vp_nar .short a2.toInt16.toInt32), σ.2.1, σ.2.2.1, σ.2.2.2.1, σ.2.2.2.2.1, σ.2.2.2.2.2.1, σ.2.2.2.2.2.2.1, σ.2.2.2.2.2.2.2.1, σ.2.2.2.2.2.2.2.2)) H := hP
    have hD : va_D (AX 4 h s.heap.size) (wsR h k (upd σ.1 ((a1 >>> ((1 : Int32) &&& 31)).toNatClampNeg) (vp_nar .short a2.toInt16.toInt32), σ.2.1, σ.2.2.1, σ.2.2.2.1, σ.2.2.2.2.1, σ.2.2.2.2.2.1, σ.2.2.2.2.2.2.1, σ.2.2.2.2.2.2.2.1, σ.2.2.2.2.2.2.2.2)) := hD
    exact retR_v hx hb hr hlocks (by subst ex1; exact if_pos c2) hP hD hS dX3_setWord_32
  · refine lv_aload_n hx hb dX3_setWord_7 rfl (lv_at hl 0 rfl) ?_
    refine lv_iload_n hx hb dX3_setWord_8 rfl (lv_at hl 1 rfl) ?_
    refine lv_sipush (v := 304) hx hb dX3_setWord_9 (by decide) ?_
    refine lv_isub hx hb dX3_setWord_12 ?_
    refine lv_iconst (v := 2) hx hb dX3_setWord_13 (by decide) ?_
    refine lv_idiv hx hb dX3_setWord_14 (by decide) ?_
    refine lv_iload_n hx hb dX3_setWord_15 rfl (lv_at hl 2 rfl) ?_
    refine callR_v (va_runV (As := [.int ((a1 - (304 : Int32)) / (2 : Int32)), .int a2]) (rest := []) ⟨hx, hb, hml, hown, hts⟩ (c_X3_multiply l dC dI h k _ σ ((a1 - (304 : Int32)) / (2 : Int32)) a2) (cwV 2 hts gX3_setWord_X3_multiply rfl rfl rfl (by decide +kernel) ⟨Nat.le_of_ble_eq_true rfl, Nat.le_of_ble_eq_true rfl⟩) (preR_V (ci := 3) (q0 := 0) hct hP hD hS rfl rfl) rfl rfl hl.1 rfl (lv_room (Nat.le_of_ble_eq_true rfl)) dX3_setWord_16 ⟨Nat.le_of_ble_eq_true rfl, Nat.le_of_ble_eq_true rfl⟩) hS (fun σ3 H locs eσ3 hP hD hS => ?_)
    refine lv_goto (tgt := 32) hx hb dX3_setWord_19 (by decide) ?_
    exact retR_v hx hb hr hlocks (by subst eσ3; subst ex1; exact if_neg c2) hP hD hS dX3_setWord_32

set_option maxHeartbeats 4000000 in
set_option maxRecDepth 100000 in
theorem c_X3_setByte (l : Launch) (dC : Nat → ClassId) (dI : Nat → Nat → Nat) (h : Nat → Nat) (k : Nat → ClassId) (sz : Nat) (σ : StR) (a1 : Int32) (a2 : Int32) (ha1 : vp_in a1 65536) : Met l yX3_setByte wsX3_setByte ({ frames := 2, cells := 0, slots := 0, locals := 52 }) (PcR (dC, dI) h k [.ref (h 0), .int a1, .int a2] sz σ) (va_Qv (fun u => u = f_X3_setByte σ a1 a2) (BR (dC, dI) h k (AX 4 h sz)) (AX 4 h sz)) 0 0 (AX 4 h sz) := by
  refine Met.ofW (cc := cX3_setByte) (maxL := 3) (ret := none) (by decide) rfl ?_
  intro p e s m args below meth c s₁ B hml hv
  obtain ⟨rfl, rfl, hP, hct, hD⟩ := hv
  have hx := B.exec
  have hb := B.bytes
  have hr := B.returns
  have hts := atoms_spec (ws := wsX3_setByte) B.pre
  have hown : s.vm.findClass RX3 = some m.cls := findClass_of_methodNamed B.named
  have hlocks := B.notSynchronized
  have hK := hct.1
  have hS : va_S (AX 4 h s.heap.size) s.heap s.heap [] := va_S.rf
  have hl := lv_entry ([.ref (h 0), .int a1, .int a2]) (n := 3) (Nat.le_of_ble_eq_true rfl)
  rw [lg_entry_eq]
  generalize (lg_sl ([.ref (h 0), .int a1, .int a2]) ++ List.replicate (3 - (lg_sl ([.ref (h 0), .int a1, .int a2])).length) Slot.unset).toArray = ls at hl ⊢
  have hl : lv_has ls 3 [(0, .ref (h 0)), (1, .int a1), (2, .int a2)] := hl
  refine lv_iload_n hx hb dX3_setByte_0 rfl (lv_at hl 1 rfl) ?_
  refine callR_ip (va_runS (As := [.int a1]) (rest := []) ⟨hx, hb, hml, hown, hts⟩ (c_X3_isMultiplier l dC dI h k _ σ a1) (va_cwS 1 hts gX3_setByte_X3_isMultiplier rfl rfl rfl (by decide +kernel) ⟨Nat.le_of_ble_eq_true rfl, Nat.le_of_ble_eq_true rfl⟩) (preR_S hct hP hD hS) rfl rfl hl.1 rfl (lv_room (Nat.le_of_ble_eq_true rfl)) dX3_setByte_1 ⟨Nat.le_of_ble_eq_true rfl, Nat.le_of_ble_eq_true rfl⟩) hS (fun x1 H locs ex1 hP hD hS => ?_)
  refine lv_if_ne (tgt := 35) hx hb dX3_setByte_4 (by decide) (fun c2 => ?_) (fun c2 => ?_)
  · refine lv_iload_n hx hb dX3_setByte_35 rfl (lv_at hl 1 rfl) ?_
    refine lv_iconst (v := 1) hx hb dX3_setByte_36 (by decide) ?_
    refine lv_iand hx hb dX3_setByte_37 ?_
    refine lv_if_ne (tgt := 53) hx hb dX3_setByte_38 (by decide) (fun c3 => ?_) (fun c3 => ?_)
    · exact retR_v hx hb hr hlocks (by subst ex1; exact (if_neg c2).trans (if_neg c3)) hP hD hS dX3_setByte_53
    · refine lv_aload_n hx hb dX3_setByte_41 rfl (lv_at hl 0 rfl) ?_
      refine lv_iload_n hx hb dX3_setByte_42 rfl (lv_at hl 1 rfl) ?_
      refine lv_sipush (v := 304) hx hb dX3_setByte_43 (by decide) ?_
      refine lv_isub hx hb dX3_setByte_46 ?_
      refine lv_iconst (v := 2) hx hb dX3_setByte_47 (by decide) ?_
      refine lv_idiv hx hb dX3_setByte_48 (by decide) ?_
      refine lv_iload_n hx hb dX3_setByte_49 rfl (lv_at hl 2 rfl) ?_
      refine callR_v (va_runV (As := [.int ((a1 - (304 : Int32)) / (2 : Int32)), .int a2]) (rest := []) ⟨hx, hb, hml, hown, hts⟩ (c_X3_multiply l dC dI h k _ σ ((a1 - (304 : Int32)) / (2 : Int32)) a2) (cwV 2 hts gX3_setByte_X3_multiply rfl rfl rfl (by decide +kernel) ⟨Nat.le_of_ble_eq_true rfl, Nat.le_of_ble_eq_true rfl⟩) (preR_V (ci := 3) (q0 := 0) hct hP hD hS rfl rfl) rfl rfl hl.1 rfl (lv_room (Nat.le_of_ble_eq_true rfl)) dX3_setByte_50 ⟨Nat.le_of_ble_eq_true rfl, Nat.le_of_ble_eq_true rfl⟩) hS (fun σ4 H locs eσ4 hP hD hS => ?_)
      exact retR_v hx hb hr hlocks (by subst eσ4; subst ex1; exact (if_neg c2).trans (if_pos c3)) hP hD hS dX3_setByte_53
  · refine lv_aload_n hx hb dX3_setByte_7 rfl (lv_at hl 0 rfl) ?_
    refine va_get (D := (dC, dI)) (ci := 3) (v := .ref (h 1)) (C := RX3) (T := TX3) (N := 9) hx hb hts (fun _ h9 => List.mem_cons_of_mem _ (List.mem_append_right _ h9)) hown hK hP 0 rfl rfl 0 (by decide) (hts (.fieldLink RX3 8 "LowPowerCpuModel" "words" "[S") (by decide +kernel)) (fun _ h9 => h9) rfl dX3_setByte_8 ?_
    refine lv_iload_n hx hb dX3_setByte_11 rfl (lv_at hl 1 rfl) ?_
    refine lv_iconst (v := 1) hx hb dX3_setByte_12 (by decide) ?_
    refine lv_ishr hx hb dX3_setByte_13 ?_
    refine lv_aload_n hx hb dX3_setByte_14 rfl (lv_at hl 0 rfl) ?_
    refine va_get (D := (dC, dI)) (ci := 3) (v := .ref (h 1)) (C := RX3) (T := TX3) (N := 9) hx hb hts (fun _ h9 => List.mem_cons_of_mem _ (List.mem_append_right _ h9)) hown hK hP 0 rfl rfl 0 (by decide) (hts (.fieldLink RX3 8 "LowPowerCpuModel" "words" "[S") (by decide +kernel)) (fun _ h9 => h9) rfl dX3_setByte_15 ?_
    refine lv_iload_n hx hb dX3_setByte_18 rfl (lv_at hl 1 rfl) ?_
    refine lv_iconst (v := 1) hx hb dX3_setByte_19 (by decide) ?_
    refine lv_ishr hx hb dX3_setByte_20 ?_
    refine va_sald hx hb hK hP 1 1 rfl rfl (shr1_in ha1) dX3_setByte_21 ?_
    refine lv_ldc (v := 65535) hx hb hown (hts (.constant RX3 50 65535) (by decide +kernel)) dX3_setByte_22 ?_
    refine lv_iand hx hb dX3_setByte_24 ?_
    refine lv_iload_n hx hb dX3_setByte_25 rfl (lv_at hl 1 rfl) ?_
    refine lv_iload_n hx hb dX3_setByte_26 rfl (lv_at hl 2 rfl) ?_
    refine callR_ip (va_runS (As := [.int ((σ.1 (a1 >>> ((1 : Int32) &&& 31)).toNatClampNeg) &&& (65535 : Int32)), .int a1, .int a2]) (rest := [.int (a1 >>> ((1 : Int32) &&& 31)), .ref (h 1)]) ⟨hx, hb, hml, hown, hts⟩ (c_X3_withByte l dC dI h k _ σ ((σ.1 (a1 >>> ((1 : Int32) &&& 31)).toNatClampNeg) &&& (65535 : Int32)) a1 a2) (va_cwS 3 hts gX3_setByte_X3_withByte rfl rfl rfl (by decide +kernel) ⟨Nat.le_of_ble_eq_true rfl, Nat.le_of_ble_eq_true rfl⟩) (preR_S hct hP hD hS) rfl rfl hl.1 rfl (lv_room (Nat.le_of_ble_eq_true rfl)) dX3_setByte_27 ⟨Nat.le_of_ble_eq_true rfl, Nat.le_of_ble_eq_true rfl⟩) hS (fun x5 H locs ex5 hP hD hS => ?_)
    refine lv_i2s hx hb dX3_setByte_30 rfl ?_
    refine va_sast hx hb hK hP hD hS 1 1 rfl rfl (shr1_in ha1) dX3_setByte_31 (fun H locs hP hD hS => ?_)
    have hP : va_P (dC, dI) vwCl (wsR h k (upd σ.1 ((a1 >>> ((1 : Int32) &&& 31)).toNatClampNeg) (vp_nar .short x5.toInt16.toInt32), σ.2.1, σ.2.2.1, σ.2.2.2.1, σ.2.2.2.2.1, σ.2.2.2.2.2.1, σ.2.2.2.2.2.2.1, σ.2.2.2.2.2.2.2.1, σ.2.2.2.2.2.2.2.2)) H := hP
    have hD : va_D (AX 4 h s.heap.size) (wsR h k (upd σ.1 ((a1 >>> ((1 : Int32) &&& 31)).toNatClampNeg) (vp_nar .short x5.toInt16.toInt32), σ.2.1, σ.2.2.1, σ.2.2.2.1, σ.2.2.2.2.1, σ.2.2.2.2.2.1, σ.2.2.2.2.2.2.1, σ.2.2.2.2.2.2.2.1, σ.2.2.2.2.2.2.2.2)) := hD
    refine lv_goto (tgt := 53) hx hb dX3_setByte_32 (by decide) ?_
    exact retR_v hx hb hr hlocks (by subst ex5; subst ex1; exact if_pos c2) hP hD hS dX3_setByte_53
