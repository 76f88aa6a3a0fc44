set_option maxHeartbeats 4000000 in
set_option maxRecDepth 100000 in
theorem c_X3_decimal (l : Launch) (dC : Nat → ClassId) (dI : Nat → Nat → Nat) (h : Nat → Nat) (k : Nat → ClassId) (sz : Nat) (σ : StR) (a1 : Int32) (a2 : Int32) : Met l yX3_decimal wsX3_decimal ({ frames := 2, cells := 0, slots := 0, locals := 45 }) (PcR (dC, dI) h k [.ref (h 0), .int a1, .int a2] sz σ) (va_Qi (fun r u => (r, u) = (f_X3_decimal σ a1 a2)) (BR (dC, dI) h k (AX 4 h sz)) (AX 4 h sz)) 0 0 (AX 4 h sz) := by
  refine Met.ofW (cc := cX3_decimal) (maxL := 7) (ret := (some .int)) (by decide) rfl ?_
  intro p e s m args below meth c s₁ B hml hv
  obtain ⟨rfl, rfl, hP, hct, hD⟩ := hv
  have hx := B.exec
  have hb := B.bytes
  have hr := B.returns
  have hts := atoms_spec (ws := wsX3_decimal) B.pre
  have hown : s.vm.findClass RX3 = some m.cls := findClass_of_methodNamed B.named
  have hlocks := B.notSynchronized
  have hK := hct.1
  have hS : va_S (AX 4 h s.heap.size) s.heap s.heap [] := va_S.rf
  have hl := lv_entry ([.ref (h 0), .int a1, .int a2]) (n := 7) (Nat.le_of_ble_eq_true rfl)
  rw [lg_entry_eq]
  generalize (lg_sl ([.ref (h 0), .int a1, .int a2]) ++ List.replicate (7 - (lg_sl ([.ref (h 0), .int a1, .int a2])).length) Slot.unset).toArray = ls at hl ⊢
  have hl : lv_has ls 7 [(0, .ref (h 0)), (1, .int a1), (2, .int a2)] := hl
  refine lv_aload_n hx hb dX3_decimal_0 rfl (lv_at hl 0 rfl) ?_
  refine lv_iconst (v := 1) hx hb dX3_decimal_1 (by decide) ?_
  refine callR_ip (va_runV (As := [.int 1]) (rest := []) ⟨hx, hb, hml, hown, hts⟩ (c_X3_flag l dC dI h k _ σ 1) (cwV 1 hts gX3_decimal_X3_flag rfl rfl rfl (by decide +kernel) ⟨Nat.le_of_ble_eq_true rfl, Nat.le_of_ble_eq_true rfl⟩) (preR_V (ci := 3) (q0 := 0) hct hP hD hS rfl rfl) rfl rfl hl.1 rfl (lv_room (Nat.le_of_ble_eq_true rfl)) dX3_decimal_2 ⟨Nat.le_of_ble_eq_true rfl, Nat.le_of_ble_eq_true rfl⟩) hS (fun x1 H locs ex1 hP hD hS => ?_)
  refine lv_istore_n (lv' := [(3, .int x1), (0, .ref (h 0)), (1, .int a1), (2, .int a2)]) hx hb dX3_decimal_5 rfl hl (by decide) rfl (fun ls hl => ?_)
  refine lv_iconst (v := 0) hx hb dX3_decimal_6 (by decide) ?_
  refine lv_istore (lv' := [(4, .int 0), (3, .int x1), (0, .ref (h 0)), (1, .int a1), (2, .int a2)]) hx hb dX3_decimal_7 hl (by decide) rfl (fun ls hl => ?_)
  refine lv_iconst (v := 0) hx hb dX3_decimal_9 (by decide) ?_
  refine lv_istore (lv' := [(5, .int 0), (4, .int 0), (3, .int x1), (0, .ref (h 0)), (1, .int a1), (2, .int a2)]) hx hb dX3_decimal_10 hl (by decide) rfl (fun ls hl => ?_)
  refine lv_iload hx hb dX3_decimal_12 (lv_at hl 0 rfl) ?_
  refine lv_aload_n hx hb dX3_decimal_14 rfl (lv_at hl 3 rfl) ?_
  refine va_get (D := (dC, dI)) (ci := 3) (v := .int σ.2.2.2.2.2.2.2.2) (C := RX3) (T := TX3) (N := 9) hx hb hts (fun _ h9 => List.mem_cons_of_mem _ (List.mem_append_right _ h9)) hown hK hP 0 rfl rfl 8 (by decide) (hts (.fieldLink RX3 51 "LowPowerCpuModel" "bytes" "Z") (by decide +kernel)) (fun _ h9 => h9) rfl dX3_decimal_15 ?_
  refine lv_if_eq (tgt := 26) hx hb dX3_decimal_18 (by decide) (fun c2 => ?_) (fun c2 => ?_)
  · refine lv_bipush (v := 16) hx hb dX3_decimal_26 (by decide) ?_
    refine lv_icmp_ge (tgt := 87) hx hb dX3_decimal_28 (by decide) (fun c3 => absurd c3 (by decide)) (fun _ => ?_)
    refine lv_iload_n hx hb dX3_decimal_31 rfl (lv_at hl 4 rfl) ?_
    refine lv_iload hx hb dX3_decimal_32 (lv_at hl 0 rfl) ?_
    refine lv_ishr hx hb dX3_decimal_34 ?_
    refine lv_bipush (v := 15) hx hb dX3_decimal_35 (by decide) ?_
    refine lv_iand hx hb dX3_decimal_37 ?_
    refine lv_iload_n hx hb dX3_decimal_38 rfl (lv_at hl 5 rfl) ?_
    refine lv_iload hx hb dX3_decimal_39 (lv_at hl 0 rfl) ?_
    refine lv_ishr hx hb dX3_decimal_41 ?_
    refine lv_bipush (v := 15) hx hb dX3_decimal_42 (by decide) ?_
    refine lv_iand hx hb dX3_decimal_44 ?_
    refine lv_iadd hx hb dX3_decimal_45 ?_
    refine lv_iload_n hx hb dX3_decimal_46 rfl (lv_at hl 2 rfl) ?_
    refine lv_iadd hx hb dX3_decimal_47 ?_
    refine lv_topi (fun x4 ex4 => ?_)
    refine lv_istore (lv' := [(6, .int x4), (5, .int 0), (4, .int 0), (3, .int x1), (0, .ref (h 0)), (1, .int a1), (2, .int a2)]) hx hb dX3_decimal_48 hl (by decide) rfl (fun ls hl => ?_)
    refine lv_iload hx hb dX3_decimal_50 (lv_at hl 0 rfl) ?_
    refine lv_bipush (v := 9) hx hb dX3_decimal_52 (by decide) ?_
    refine wj (α := Int32) (D := (dC, dI)) (cl := vwCl) (A := AX 4 h s.heap.size) (H0 := s.heap) (if x4 ≤ 9 then 0 else 1) (fun v6 => wsR h k σ) (fun v6 => [(6, .int x4), (5, .int 0), (4, .int 0), (3, .int x1), (0, .ref (h 0)), (1, .int a1), (2, .int a2)]) 7 (fun v6 ls => F0 m 62 ls [.int v6]) ?_ ?_
    · intro v6 ls H locs ev6 hl hP hD hS
      try dsimp only at hl hP hD ⊢
      refine lv_istore_n (lv' := [(3, .int v6), (6, .int x4), (5, .int 0), (4, .int 0), (0, .ref (h 0)), (1, .int a1), (2, .int a2)]) hx hb dX3_decimal_62 rfl hl (by decide) rfl (fun ls hl => ?_)
      refine lv_iload hx hb dX3_decimal_63 (lv_at hl 3 rfl) ?_
      refine lv_iload hx hb dX3_decimal_65 (lv_at hl 1 rfl) ?_
      refine lv_bipush (v := 10) hx hb dX3_decimal_67 (by decide) ?_
      refine lv_iload_n hx hb dX3_decimal_69 rfl (lv_at hl 0 rfl) ?_
      refine lv_imul hx hb dX3_decimal_70 ?_
      refine lv_isub hx hb dX3_decimal_71 ?_
      refine lv_bipush (v := 15) hx hb dX3_decimal_72 (by decide) ?_
      refine lv_iand hx hb dX3_decimal_74 ?_
      refine lv_iload hx hb dX3_decimal_75 (lv_at hl 2 rfl) ?_
      refine lv_ishl hx hb dX3_decimal_77 ?_
      refine lv_ior hx hb dX3_decimal_78 ?_
      refine lv_topi (fun x7 ex7 => ?_)
      refine lv_istore (lv' := [(4, .int x7), (3, .int v6), (6, .int x4), (5, .int 0), (0, .ref (h 0)), (1, .int a1), (2, .int a2)]) hx hb dX3_decimal_79 hl (by decide) rfl (fun ls hl => ?_)
      -- iinc
      refine lv_iinc (v := 4) (lv' := [(5, .int 4), (4, .int x7), (3, .int v6), (6, .int x4), (0, .ref (h 0)), (1, .int a1), (2, .int a2)]) hx hb dX3_decimal_81 hl (k := 3) rfl (by decide) (by decide) rfl (fun ls hl => ?_)
      refine lv_goto (tgt := 12) hx hb dX3_decimal_84 (by decide) ?_
      refine lv_iload hx hb dX3_decimal_12 (lv_at hl 0 rfl) ?_
      refine lv_aload_n hx hb dX3_decimal_14 rfl (lv_at hl 4 rfl) ?_
      refine va_get (D := (dC, dI)) (ci := 3) (v := .int σ.2.2.2.2.2.2.2.2) (C := RX3) (T := TX3) (N := 9) hx hb hts (fun _ h9 => List.mem_cons_of_mem _ (List.mem_append_right _ h9)) hown hK hP 0 rfl rfl 8 (by decide) (hts (.fieldLink RX3 51 "LowPowerCpuModel" "bytes" "Z") (by decide +kernel)) (fun _ h9 => h9) rfl dX3_decimal_15 ?_
      refine lv_if_eq (tgt := 26) hx hb dX3_decimal_18 (by decide) (fun _ => ?_) (fun c8 => absurd c2 c8)
      refine lv_bipush (v := 16) hx hb dX3_decimal_26 (by decide) ?_
      refine lv_icmp_ge (tgt := 87) hx hb dX3_decimal_28 (by decide) (fun c9 => absurd c9 (by decide)) (fun _ => ?_)
      refine lv_iload_n hx hb dX3_decimal_31 rfl (lv_at hl 5 rfl) ?_
      refine lv_iload hx hb dX3_decimal_32 (lv_at hl 0 rfl) ?_
      refine lv_ishr hx hb dX3_decimal_34 ?_
      refine lv_bipush (v := 15) hx hb dX3_decimal_35 (by decide) ?_
      refine lv_iand hx hb dX3_decimal_37 ?_
      refine lv_iload_n hx hb dX3_decimal_38 rfl (lv_at hl 6 rfl) ?_
      refine lv_iload hx hb dX3_decimal_39 (lv_at hl 0 rfl) ?_
      refine lv_ishr hx hb dX3_decimal_41 ?_
      refine lv_bipush (v := 15) hx hb dX3_decimal_42 (by decide) ?_
      refine lv_iand hx hb dX3_decimal_44 ?_
      refine lv_iadd hx hb dX3_decimal_45 ?_
      refine lv_iload_n hx hb dX3_decimal_46 rfl (lv_at hl 2 rfl) ?_
      refine lv_iadd hx hb dX3_decimal_47 ?_
      refine lv_topi (fun x10 ex10 => ?_)
      refine lv_istore (lv' := [(6, .int x10), (5, .int 4), (4, .int x7), (3, .int v6), (0, .ref (h 0)), (1, .int a1), (2, .int a2)]) hx hb dX3_decimal_48 hl (by decide) rfl (fun ls hl => ?_)
      refine lv_iload hx hb dX3_decimal_50 (lv_at hl 0 rfl) ?_
      refine lv_bipush (v := 9) hx hb dX3_decimal_52 (by decide) ?_
      refine wj (α := Int32) (D := (dC, dI)) (cl := vwCl) (A := AX 4 h s.heap.size) (H0 := s.heap) (if x10 ≤ 9 then 0 else 1) (fun v12 => wsR h k σ) (fun v12 => [(6, .int x10), (5, .int 4), (4, .int x7), (3, .int v6), (0, .ref (h 0)), (1, .int a1), (2, .int a2)]) 7 (fun v12 ls => F0 m 62 ls [.int v12]) ?_ ?_
      · intro v12 ls H locs ev12 hl hP hD hS
        try dsimp only at hl hP hD ⊢
        refine lv_istore_n (lv' := [(3, .int v12), (6, .int x10), (5, .int 4), (4, .int x7), (0, .ref (h 0)), (1, .int a1), (2, .int a2)]) hx hb dX3_decimal_62 rfl hl (by decide) rfl (fun ls hl => ?_)
        refine lv_iload hx hb dX3_decimal_63 (lv_at hl 3 rfl) ?_
        refine lv_iload hx hb dX3_decimal_65 (lv_at hl 1 rfl) ?_
        refine lv_bipush (v := 10) hx hb dX3_decimal_67 (by decide) ?_
        refine lv_iload_n hx hb dX3_decimal_69 rfl (lv_at hl 0 rfl) ?_
        refine lv_imul hx hb dX3_decimal_70 ?_
        refine lv_isub hx hb dX3_decimal_71 ?_
        refine lv_bipush (v := 15) hx hb dX3_decimal_72 (by decide) ?_
        refine lv_iand hx hb dX3_decimal_74 ?_
        refine lv_iload hx hb dX3_decimal_75 (lv_at hl 2 rfl) ?_
        refine lv_ishl hx hb dX3_decimal_77 ?_
        refine lv_ior hx hb dX3_decimal_78 ?_
        refine lv_topi (fun x13 ex13 => ?_)
        refine lv_istore (lv' := [(4, .int x13), (3, .int v12), (6, .int x10), (5, .int 4), (0, .ref (h 0)), (1, .int a1), (2, .int a2)]) hx hb dX3_decimal_79 hl (by decide) rfl (fun ls hl => ?_)
        -- iinc
        refine lv_iinc (v := 8) (lv' := [(5, .int 8), (4, .int x13), (3, .int v12), (6, .int x10), (0, .ref (h 0)), (1, .int a1), (2, .int a2)]) hx hb dX3_decimal_81 hl (k := 3) rfl (by decide) (by decide) rfl (fun ls hl => ?_)
        refine lv_goto (tgt := 12) hx hb dX3_decimal_84 (by decide) ?_
        refine lv_iload hx hb dX3_decimal_12 (lv_at hl 0 rfl) ?_
        refine lv_aload_n hx hb dX3_decimal_14 rfl (lv_at hl 4 rfl) ?_
        refine va_get (D := (dC, dI)) (ci := 3) (v := .int σ.2.2.2.2.2.2.2.2) (C := RX3) (T := TX3) (N := 9) hx hb hts (fun _ h9 => List.mem_cons_of_mem _ (List.mem_append_right _ h9)) hown hK hP 0 rfl rfl 8 (by decide) (hts (.fieldLink RX3 51 "LowPowerCpuModel" "bytes" "Z") (by decide +kernel)) (fun _ h9 => h9) rfl dX3_decimal_15 ?_
        refine lv_if_eq (tgt := 26) hx hb dX3_decimal_18 (by decide) (fun _ => ?_) (fun c14 => absurd c2 c14)
        refine lv_bipush (v := 16) hx hb dX3_decimal_26 (by decide) ?_
        refine lv_icmp_ge (tgt := 87) hx hb dX3_decimal_28 (by decide) (fun c15 => absurd c15 (by decide)) (fun _ => ?_)
        refine lv_iload_n hx hb dX3_decimal_31 rfl (lv_at hl 5 rfl) ?_
        refine lv_iload hx hb dX3_decimal_32 (lv_at hl 0 rfl) ?_
        refine lv_ishr hx hb dX3_decimal_34 ?_
        refine lv_bipush (v := 15) hx hb dX3_decimal_35 (by decide) ?_
        refine lv_iand hx hb dX3_decimal_37 ?_
        refine lv_iload_n hx hb dX3_decimal_38 rfl (lv_at hl 6 rfl) ?_
        refine lv_iload hx hb dX3_decimal_39 (lv_at hl 0 rfl) ?_
        refine lv_ishr hx hb dX3_decimal_41 ?_
        refine lv_bipush (v := 15) hx hb dX3_decimal_42 (by decide) ?_
        refine lv_iand hx hb dX3_decimal_44 ?_
        refine lv_iadd hx hb dX3_decimal_45 ?_
        refine lv_iload_n hx hb dX3_decimal_46 rfl (lv_at hl 2 rfl) ?_
        refine lv_iadd hx hb dX3_decimal_47 ?_
        refine lv_topi (fun x16 ex16 => ?_)
        refine lv_istore (lv' := [(6, .int x16), (5, .int 8), (4, .int x13), (3, .int v12), (0, .ref (h 0)), (1, .int a1), (2, .int a2)]) hx hb dX3_decimal_48 hl (by decide) rfl (fun ls hl => ?_)
        refine lv_iload hx hb dX3_decimal_50 (lv_at hl 0 rfl) ?_
        refine lv_bipush (v := 9) hx hb dX3_decimal_52 (by decide) ?_
        refine wj (α := Int32) (D := (dC, dI)) (cl := vwCl) (A := AX 4 h s.heap.size) (H0 := s.heap) (if x16 ≤ 9 then 0 else 1) (fun v18 => wsR h k σ) (fun v18 => [(6, .int x16), (5, .int 8), (4, .int x13), (3, .int v12), (0, .ref (h 0)), (1, .int a1), (2, .int a2)]) 7 (fun v18 ls => F0 m 62 ls [.int v18]) ?_ ?_
        · intro v18 ls H locs ev18 hl hP hD hS
          try dsimp only at hl hP hD ⊢
          refine lv_istore_n (lv' := [(3, .int v18), (6, .int x16), (5, .int 8), (4, .int x13), (0, .ref (h 0)), (1, .int a1), (2, .int a2)]) hx hb dX3_decimal_62 rfl hl (by decide) rfl (fun ls hl => ?_)
          refine lv_iload hx hb dX3_decimal_63 (lv_at hl 3 rfl) ?_
          refine lv_iload hx hb dX3_decimal_65 (lv_at hl 1 rfl) ?_
          refine lv_bipush (v := 10) hx hb dX3_decimal_67 (by decide) ?_
          refine lv_iload_n hx hb dX3_decimal_69 rfl (lv_at hl 0 rfl) ?_
          refine lv_imul hx hb dX3_decimal_70 ?_
          refine lv_isub hx hb dX3_decimal_71 ?_
          refine lv_bipush (v := 15) hx hb dX3_decimal_72 (by decide) ?_
          refine lv_iand hx hb dX3_decimal_74 ?_
          refine lv_iload hx hb dX3_decimal_75 (lv_at hl 2 rfl) ?_
          refine lv_ishl hx hb dX3_decimal_77 ?_
          refine lv_ior hx hb dX3_decimal_78 ?_
          refine lv_topi (fun x19 ex19 => ?_)
          refine lv_istore (lv' := [(4, .int x19), (3, .int v18), (6, .int x16), (5, .int 8), (0, .ref (h 0)), (1, .int a1), (2, .int a2)]) hx hb dX3_decimal_79 hl (by decide) rfl (fun ls hl => ?_)
          -- iinc
          refine lv_iinc (v := 12) (lv' := [(5, .int 12), (4, .int x19), (3, .int v18), (6, .int x16), (0, .ref (h 0)), (1, .int a1), (2, .int a2)]) hx hb dX3_decimal_81 hl (k := 3) rfl (by decide) (by decide) rfl (fun ls hl => ?_)
          refine lv_goto (tgt := 12) hx hb dX3_decimal_84 (by decide) ?_
          refine lv_iload hx hb dX3_decimal_12 (lv_at hl 0 rfl) ?_
          refine lv_aload_n hx hb dX3_decimal_14 rfl (lv_at hl 4 rfl) ?_
          refine va_get (D := (dC, dI)) (ci := 3) (v := .int σ.2.2.2.2.2.2.2.2) (C := RX3) (T := TX3) (N := 9) hx hb hts (fun _ h9 => List.mem_cons_of_mem _ (List.mem_append_right _ h9)) hown hK hP 0 rfl rfl 8 (by decide) (hts (.fieldLink RX3 51 "LowPowerCpuModel" "bytes" "Z") (by decide +kernel)) (fun _ h9 => h9) rfl dX3_decimal_15 ?_
          refine lv_if_eq (tgt := 26) hx hb dX3_decimal_18 (by decide) (fun _ => ?_) (fun c20 => absurd c2 c20)
          refine lv_bipush (v := 16) hx hb dX3_decimal_26 (by decide) ?_
          refine lv_icmp_ge (tgt := 87) hx hb dX3_decimal_28 (by decide) (fun c21 => absurd c21 (by decide)) (fun _ => ?_)
          refine lv_iload_n hx hb dX3_decimal_31 rfl (lv_at hl 5 rfl) ?_
          refine lv_iload hx hb dX3_decimal_32 (lv_at hl 0 rfl) ?_
          refine lv_ishr hx hb dX3_decimal_34 ?_
          refine lv_bipush (v := 15) hx hb dX3_decimal_35 (by decide) ?_
          refine lv_iand hx hb dX3_decimal_37 ?_
          refine lv_iload_n hx hb dX3_decimal_38 rfl (lv_at hl 6 rfl) ?_
          refine lv_iload hx hb dX3_decimal_39 (lv_at hl 0 rfl) ?_
          refine lv_ishr hx hb dX3_decimal_41 ?_
          refine lv_bipush (v := 15) hx hb dX3_decimal_42 (by decide) ?_
          refine lv_iand hx hb dX3_decimal_44 ?_
          refine lv_iadd hx hb dX3_decimal_45 ?_
          refine lv_iload_n hx hb dX3_decimal_46 rfl (lv_at hl 2 rfl) ?_
          refine lv_iadd hx hb dX3_decimal_47 ?_
          refine lv_topi (fun x22 ex22 => ?_)
          refine lv_istore (lv' := [(6, .int x22), (5, .int 12), (4, .int x19), (3, .int v18), (0, .ref (h 0)), (1, .int a1), (2, .int a2)]) hx hb dX3_decimal_48 hl (by decide) rfl (fun ls hl => ?_)
          refine lv_iload hx hb dX3_decimal_50 (lv_at hl 0 rfl) ?_
          refine lv_bipush (v := 9) hx hb dX3_decimal_52 (by decide) ?_
          refine wj (α := Int32) (D := (dC, dI)) (cl := vwCl) (A := AX 4 h s.heap.size) (H0 := s.heap) (if x22 ≤ 9 then 0 else 1) (fun v24 => wsR h k σ) (fun v24 => [(6, .int x22), (5, .int 12), (4, .int x19), (3, .int v18), (0, .ref (h 0)), (1, .int a1), (2, .int a2)]) 7 (fun v24 ls => F0 m 62 ls [.int v24]) ?_ ?_
          · intro v24 ls H locs ev24 hl hP hD hS
            try dsimp only at hl hP hD ⊢
            refine lv_istore_n (lv' := [(3, .int v24), (6, .int x22), (5, .int 12), (4, .int x19), (0, .ref (h 0)), (1, .int a1), (2, .int a2)]) hx hb dX3_decimal_62 rfl hl (by decide) rfl (fun ls hl => ?_)
            refine lv_iload hx hb dX3_decimal_63 (lv_at hl 3 rfl) ?_
            refine lv_iload hx hb dX3_decimal_65 (lv_at hl 1 rfl) ?_
            refine lv_bipush (v := 10) hx hb dX3_decimal_67 (by decide) ?_
            refine lv_iload_n hx hb dX3_decimal_69 rfl (lv_at hl 0 rfl) ?_
            refine lv_imul hx hb dX3_decimal_70 ?_
            refine lv_isub hx hb dX3_decimal_71 ?_
            refine lv_bipush (v := 15) hx hb dX3_decimal_72 (by decide) ?_
            refine lv_iand hx hb dX3_decimal_74 ?_
            refine lv_iload hx hb dX3_decimal_75 (lv_at hl 2 rfl) ?_
            refine lv_ishl hx hb dX3_decimal_77 ?_
            refine lv_ior hx hb dX3_decimal_78 ?_
            refine lv_topi (fun x25 ex25 => ?_)
            refine lv_istore (lv' := [(4, .int x25), (3, .int v24), (6, .int x22), (5, .int 12), (0, .ref (h 0)), (1, .int a1), (2, .int a2)]) hx hb dX3_decimal_79 hl (by decide) rfl (fun ls hl => ?_)
            -- iinc
            refine lv_iinc (v := 16) (lv' := [(5, .int 16), (4, .int x25), (3, .int v24), (6, .int x22), (0, .ref (h 0)), (1, .int a1), (2, .int a2)]) hx hb dX3_decimal_81 hl (k := 3) rfl (by decide) (by decide) rfl (fun ls hl => ?_)
            refine lv_goto (tgt := 12) hx hb dX3_decimal_84 (by decide) ?_
            refine lv_iload hx hb dX3_decimal_12 (lv_at hl 0 rfl) ?_
            refine lv_aload_n hx hb dX3_decimal_14 rfl (lv_at hl 4 rfl) ?_
            refine va_get (D := (dC, dI)) (ci := 3) (v := .int σ.2.2.2.2.2.2.2.2) (C := RX3) (T := TX3) (N := 9) hx hb hts (fun _ h9 => List.mem_cons_of_mem _ (List.mem_append_right _ h9)) hown hK hP 0 rfl rfl 8 (by decide) (hts (.fieldLink RX3 51 "LowPowerCpuModel" "bytes" "Z") (by decide +kernel)) (fun _ h9 => h9) rfl dX3_decimal_15 ?_
            refine lv_if_eq (tgt := 26) hx hb dX3_decimal_18 (by decide) (fun _ => ?_) (fun c26 => absurd c2 c26)
            refine lv_bipush (v := 16) hx hb dX3_decimal_26 (by decide) ?_
            refine lv_icmp_ge (tgt := 87) hx hb dX3_decimal_28 (by decide) (fun _ => ?_) (fun c27 => absurd c27 (by decide))
            refine lv_aload_n hx hb dX3_decimal_87 rfl (lv_at hl 4 rfl) ?_
            refine lv_iload hx hb dX3_decimal_88 (lv_at hl 1 rfl) ?_
            refine lv_iload_n hx hb dX3_decimal_90 rfl (lv_at hl 2 rfl) ?_
            refine lv_iconst (v := 1) hx hb dX3_decimal_91 (by decide) ?_
            refine wj (α := Int32) (D := (dC, dI)) (cl := vwCl) (A := AX 4 h s.heap.size) (H0 := s.heap) (if v24 = 1 then 1 else 0) (fun v29 => wsR h k σ) (fun v29 => [(5, .int 16), (4, .int x25), (3, .int v24), (6, .int x22), (0, .ref (h 0)), (1, .int a1), (2, .int a2)]) 7 (fun v29 ls => F0 m 100 ls [.int v29, .int x25, .ref (h 0)]) ?_ ?_
            · intro v29 ls H locs ev29 hl hP hD hS
              try dsimp only at hl hP hD ⊢
              refine lv_iconst (v := 0) hx hb dX3_decimal_100 (by decide) ?_
              refine callR_v (va_runV (As := [.int x25, .int v29, .int 0]) (rest := []) ⟨hx, hb, hml, hown, hts⟩ (c_X3_flags l dC dI h k _ σ x25 v29 0) (cwV 3 hts gX3_decimal_X3_flags rfl rfl rfl (by decide +kernel) ⟨Nat.le_of_ble_eq_true rfl, Nat.le_of_ble_eq_true rfl⟩) (preR_V (ci := 3) (q0 := 0) hct hP hD hS rfl rfl) rfl rfl hl.1 rfl (lv_room (Nat.le_of_ble_eq_true rfl)) dX3_decimal_101 ⟨Nat.le_of_ble_eq_true rfl, Nat.le_of_ble_eq_true rfl⟩) hS (fun σ30 H locs eσ30 hP hD hS => ?_)
              refine lv_iload hx hb dX3_decimal_104 (lv_at hl 1 rfl) ?_
              exact retR_i hx hb hr hlocks (by subst eσ30; subst ev29; subst ex25; subst ev24; subst ex22; subst ex19; subst ev18; subst ex16; subst ex13; subst ev12; subst ex10; subst ex7; subst ev6; subst ex4; subst ex1; exact if_pos c2) hP hD hS dX3_decimal_106
            · intro J
              refine lv_icmp_ne (tgt := 99) hx hb dX3_decimal_92 (by decide) (fun c28 => ?_) (fun c28 => ?_)
              · refine lv_iconst (v := 0) hx hb dX3_decimal_99 (by decide) ?_
                exact J (0) ls _ _ (by exact (if_neg c28).symm) (lv_sub hl [0, 1, 2, 3, 4, 5, 6] rfl) hP hD hS
              · refine lv_iconst (v := 1) hx hb dX3_decimal_95 (by decide) ?_
                refine lv_goto (tgt := 100) hx hb dX3_decimal_96 (by decide) ?_
                exact J (1) ls _ _ (by exact (if_pos c28).symm) (lv_sub hl [0, 1, 2, 3, 4, 5, 6] rfl) hP hD hS
          · intro J
            refine lv_icmp_le (tgt := 61) hx hb dX3_decimal_54 (by decide) (fun c23 => ?_) (fun c23 => ?_)
            · refine lv_iconst (v := 0) hx hb dX3_decimal_61 (by decide) ?_
              exact J (0) ls _ _ (by exact (if_pos c23).symm) (lv_sub hl [0, 1, 2, 3, 4, 5, 6] rfl) hP hD hS
            · refine lv_iconst (v := 1) hx hb dX3_decimal_57 (by decide) ?_
              refine lv_goto (tgt := 62) hx hb dX3_decimal_58 (by decide) ?_
              exact J (1) ls _ _ (by exact (if_neg c23).symm) (lv_sub hl [0, 1, 2, 3, 4, 5, 6] rfl) hP hD hS
        · intro J
          refine lv_icmp_le (tgt := 61) hx hb dX3_decimal_54 (by decide) (fun c17 => ?_) (fun c17 => ?_)
          · refine lv_iconst (v := 0) hx hb dX3_decimal_61 (by decide) ?_
            exact J (0) ls _ _ (by exact (if_pos c17).symm) (lv_sub hl [0, 1, 2, 3, 4, 5, 6] rfl) hP hD hS
          · refine lv_iconst (v := 1) hx hb dX3_decimal_57 (by decide) ?_
            refine lv_goto (tgt := 62) hx hb dX3_decimal_58 (by decide) ?_
            exact J (1) ls _ _ (by exact (if_neg c17).symm) (lv_sub hl [0, 1, 2, 3, 4, 5, 6] rfl) hP hD hS
      · intro J
        refine lv_icmp_le (tgt := 61) hx hb dX3_decimal_54 (by decide) (fun c11 => ?_) (fun c11 => ?_)
        · refine lv_iconst (v := 0) hx hb dX3_decimal_61 (by decide) ?_
          exact J (0) ls _ _ (by exact (if_pos c11).symm) (lv_sub hl [0, 1, 2, 3, 4, 5, 6] rfl) hP hD hS
        · refine lv_iconst (v := 1) hx hb dX3_decimal_57 (by decide) ?_
          refine lv_goto (tgt := 62) hx hb dX3_decimal_58 (by decide) ?_
          exact J (1) ls _ _ (by exact (if_neg c11).symm) (lv_sub hl [0, 1, 2, 3, 4, 5, 6] rfl) hP hD hS
    · intro J
      refine lv_icmp_le (tgt := 61) hx hb dX3_decimal_54 (by decide) (fun c5 => ?_) (fun c5 => ?_)
      · refine lv_iconst (v := 0) hx hb dX3_decimal_61 (by decide) ?_
        exact J (0) ls _ _ (by exact (if_pos c5).symm) (lv_sub hl [0, 1, 2, 3, 4, 5, 6] rfl) hP hD hS
      · refine lv_iconst (v := 1) hx hb dX3_decimal_57 (by decide) ?_
        refine lv_goto (tgt := 62) hx hb dX3_decimal_58 (by decide) ?_
        exact J (1) ls _ _ (by exact (if_neg c5).symm) (lv_sub hl [0, 1, 2, 3, 4, 5, 6] rfl) hP hD hS
  · refine lv_bipush (v := 8) hx hb dX3_decimal_21 (by decide) ?_
    refine lv_goto (tgt := 28) hx hb dX3_decimal_23 (by decide) ?_
    refine lv_icmp_ge (tgt := 87) hx hb dX3_decimal_28 (by decide) (fun c31 => absurd c31 (by decide)) (fun _ => ?_)
    refine lv_iload_n hx hb dX3_decimal_31 rfl (lv_at hl 4 rfl) ?_
    refine lv_iload hx hb dX3_decimal_32 (lv_at hl 0 rfl) ?_
    refine lv_ishr hx hb dX3_decimal_34 ?_
    refine lv_bipush (v := 15) hx hb dX3_decimal_35 (by decide) ?_
    refine lv_iand hx hb dX3_decimal_37 ?_
    refine lv_iload_n hx hb dX3_decimal_38 rfl (lv_at hl 5 rfl) ?_
    refine lv_iload hx hb dX3_decimal_39 (lv_at hl 0 rfl) ?_
    refine lv_ishr hx hb dX3_decimal_41 ?_
    refine lv_bipush (v := 15) hx hb dX3_decimal_42 (by decide) ?_
    refine lv_iand hx hb dX3_decimal_44 ?_
    refine lv_iadd hx hb dX3_decimal_45 ?_
    refine lv_iload_n hx hb dX3_decimal_46 rfl (lv_at hl 2 rfl) ?_
    refine lv_iadd hx hb dX3_decimal_47 ?_
    refine lv_topi (fun x32 ex32 => ?_)
    refine lv_istore (lv' := [(6, .int x32), (5, .int 0), (4, .int 0), (3, .int x1), (0, .ref (h 0)), (1, .int a1), (2, .int a2)]) hx hb dX3_decimal_48 hl (by decide) rfl (fun ls hl => ?_)
    refine lv_iload hx hb dX3_decimal_50 (lv_at hl 0 rfl) ?_
    refine lv_bipush (v := 9) hx hb dX3_decimal_52 (by decide) ?_
    refine wj (α := Int32) (D := (dC, dI)) (cl := vwCl) (A := AX 4 h s.heap.size) (H0 := s.heap) (if x32 ≤ 9 then 0 else 1) (fun v34 => wsR h k σ) (fun v34 => [(6, .int x32), (5, .int 0), (4, .int 0), (3, .int x1), (0, .ref (h 0)), (1, .int a1), (2, .int a2)]) 7 (fun v34 ls => F0 m 62 ls [.int v34]) ?_ ?_
    · intro v34 ls H locs ev34 hl hP hD hS
      try dsimp only at hl hP hD ⊢
      refine lv_istore_n (lv' := [(3, .int v34), (6, .int x32), (5, .int 0), (4, .int 0), (0, .ref (h 0)), (1, .int a1), (2, .int a2)]) hx hb dX3_decimal_62 rfl hl (by decide) rfl (fun ls hl => ?_)
      refine lv_iload hx hb dX3_decimal_63 (lv_at hl 3 rfl) ?_
      refine lv_iload hx hb dX3_decimal_65 (lv_at hl 1 rfl) ?_
      refine lv_bipush (v := 10) hx hb dX3_decimal_67 (by decide) ?_
      refine lv_iload_n hx hb dX3_decimal_69 rfl (lv_at hl 0 rfl) ?_
      refine lv_imul hx hb dX3_decimal_70 ?_
      refine lv_isub hx hb dX3_decimal_71 ?_
      refine lv_bipush (v := 15) hx hb dX3_decimal_72 (by decide) ?_
      refine lv_iand hx hb dX3_decimal_74 ?_
      refine lv_iload hx hb dX3_decimal_75 (lv_at hl 2 rfl) ?_
      refine lv_ishl hx hb dX3_decimal_77 ?_
      refine lv_ior hx hb dX3_decimal_78 ?_
      refine lv_topi (fun x35 ex35 => ?_)
      refine lv_istore (lv' := [(4, .int x35), (3, .int v34), (6, .int x32), (5, .int 0), (0, .ref (h 0)), (1, .int a1), (2, .int a2)]) hx hb dX3_decimal_79 hl (by decide) rfl (fun ls hl => ?_)
      -- iinc
      refine lv_iinc (v := 4) (lv' := [(5, .int 4), (4, .int x35), (3, .int v34), (6, .int x32), (0, .ref (h 0)), (1, .int a1), (2, .int a2)]) hx hb dX3_decimal_81 hl (k := 3) rfl (by decide) (by decide) rfl (fun ls hl => ?_)
      refine lv_goto (tgt := 12) hx hb dX3_decimal_84 (by decide) ?_
      refine lv_iload hx hb dX3_decimal_12 (lv_at hl 0 rfl) ?_
      refine lv_aload_n hx hb dX3_decimal_14 rfl (lv_at hl 4 rfl) ?_
      refine va_get (D := (dC, dI)) (ci := 3) (v := .int σ.2.2.2.2.2.2.2.2) (C := RX3) (T := TX3) (N := 9) hx hb hts (fun _ h9 => List.mem_cons_of_mem _ (List.mem_append_right _ h9)) hown hK hP 0 rfl rfl 8 (by decide) (hts (.fieldLink RX3 51 "LowPowerCpuModel" "bytes" "Z") (by decide +kernel)) (fun _ h9 => h9) rfl dX3_decimal_15 ?_
      refine lv_if_eq (tgt := 26) hx hb dX3_decimal_18 (by decide) (fun c36 => absurd c36 c2) (fun _ => ?_)
      refine lv_bipush (v := 8) hx hb dX3_decimal_21 (by decide) ?_
      refine lv_goto (tgt := 28) hx hb dX3_decimal_23 (by decide) ?_
      refine lv_icmp_ge (tgt := 87) hx hb dX3_decimal_28 (by decide) (fun c37 => absurd c37 (by decide)) (fun _ => ?_)
      refine lv_iload_n hx hb dX3_decimal_31 rfl (lv_at hl 5 rfl) ?_
      refine lv_iload hx hb dX3_decimal_32 (lv_at hl 0 rfl) ?_
      refine lv_ishr hx hb dX3_decimal_34 ?_
      refine lv_bipush (v := 15) hx hb dX3_decimal_35 (by decide) ?_
      refine lv_iand hx hb dX3_decimal_37 ?_
      refine lv_iload_n hx hb dX3_decimal_38 rfl (lv_at hl 6 rfl) ?_
      refine lv_iload hx hb dX3_decimal_39 (lv_at hl 0 rfl) ?_
      refine lv_ishr hx hb dX3_decimal_41 ?_
      refine lv_bipush (v := 15) hx hb dX3_decimal_42 (by decide) ?_
      refine lv_iand hx hb dX3_decimal_44 ?_
      refine lv_iadd hx hb dX3_decimal_45 ?_
      refine lv_iload_n hx hb dX3_decimal_46 rfl (lv_at hl 2 rfl) ?_
      refine lv_iadd hx hb dX3_decimal_47 ?_
      refine lv_topi (fun x38 ex38 => ?_)
      refine lv_istore (lv' := [(6, .int x38), (5, .int 4), (4, .int x35), (3, .int v34), (0, .ref (h 0)), (1, .int a1), (2, .int a2)]) hx hb dX3_decimal_48 hl (by decide) rfl (fun ls hl => ?_)
      refine lv_iload hx hb dX3_decimal_50 (lv_at hl 0 rfl) ?_
      refine lv_bipush (v := 9) hx hb dX3_decimal_52 (by decide) ?_
      refine wj (α := Int32) (D := (dC, dI)) (cl := vwCl) (A := AX 4 h s.heap.size) (H0 := s.heap) (if x38 ≤ 9 then 0 else 1) (fun v40 => wsR h k σ) (fun v40 => [(6, .int x38), (5, .int 4), (4, .int x35), (3, .int v34), (0, .ref (h 0)), (1, .int a1), (2, .int a2)]) 7 (fun v40 ls => F0 m 62 ls [.int v40]) ?_ ?_
      · intro v40 ls H locs ev40 hl hP hD hS
        try dsimp only at hl hP hD ⊢
        refine lv_istore_n (lv' := [(3, .int v40), (6, .int x38), (5, .int 4), (4, .int x35), (0, .ref (h 0)), (1, .int a1), (2, .int a2)]) hx hb dX3_decimal_62 rfl hl (by decide) rfl (fun ls hl => ?_)
        refine lv_iload hx hb dX3_decimal_63 (lv_at hl 3 rfl) ?_
        refine lv_iload hx hb dX3_decimal_65 (lv_at hl 1 rfl) ?_
        refine lv_bipush (v := 10) hx hb dX3_decimal_67 (by decide) ?_
        refine lv_iload_n hx hb dX3_decimal_69 rfl (lv_at hl 0 rfl) ?_
        refine lv_imul hx hb dX3_decimal_70 ?_
        refine lv_isub hx hb dX3_decimal_71 ?_
        refine lv_bipush (v := 15) hx hb dX3_decimal_72 (by decide) ?_
        refine lv_iand hx hb dX3_decimal_74 ?_
        refine lv_iload hx hb dX3_decimal_75 (lv_at hl 2 rfl) ?_
        refine lv_ishl hx hb dX3_decimal_77 ?_
        refine lv_ior hx hb dX3_decimal_78 ?_
        refine lv_topi (fun x41 ex41 => ?_)
        refine lv_istore (lv' := [(4, .int x41), (3, .int v40), (6, .int x38), (5, .int 4), (0, .ref (h 0)), (1, .int a1), (2, .int a2)]) hx hb dX3_decimal_79 hl (by decide) rfl (fun ls hl => ?_)
        -- iinc
        refine lv_iinc (v := 8) (lv' := [(5, .int 8), (4, .int x41), (3, .int v40), (6, .int x38), (0, .ref (h 0)), (1, .int a1), (2, .int a2)]) hx hb dX3_decimal_81 hl (k := 3) rfl (by decide) (by decide) rfl (fun ls hl => ?_)
        refine lv_goto (tgt := 12) hx hb dX3_decimal_84 (by decide) ?_
        refine lv_iload hx hb dX3_decimal_12 (lv_at hl 0 rfl) ?_
        refine lv_aload_n hx hb dX3_decimal_14 rfl (lv_at hl 4 rfl) ?_
        refine va_get (D := (dC, dI)) (ci := 3) (v := .int σ.2.2.2.2.2.2.2.2) (C := RX3) (T := TX3) (N := 9) hx hb hts (fun _ h9 => List.mem_cons_of_mem _ (List.mem_append_right _ h9)) hown hK hP 0 rfl rfl 8 (by decide) (hts (.fieldLink RX3 51 "LowPowerCpuModel" "bytes" "Z") (by decide +kernel)) (fun _ h9 => h9) rfl dX3_decimal_15 ?_
        refine lv_if_eq (tgt := 26) hx hb dX3_decimal_18 (by decide) (fun c42 => absurd c42 c2) (fun _ => ?_)
        refine lv_bipush (v := 8) hx hb dX3_decimal_21 (by decide) ?_
        refine lv_goto (tgt := 28) hx hb dX3_decimal_23 (by decide) ?_
        refine lv_icmp_ge (tgt := 87) hx hb dX3_decimal_28 (by decide) (fun _ => ?_) (fun c43 => absurd c43 (by decide))
        refine lv_aload_n hx hb dX3_decimal_87 rfl (lv_at hl 4 rfl) ?_
        refine lv_iload hx hb dX3_decimal_88 (lv_at hl 1 rfl) ?_
        refine lv_iload_n hx hb dX3_decimal_90 rfl (lv_at hl 2 rfl) ?_
        refine lv_iconst (v := 1) hx hb dX3_decimal_91 (by decide) ?_
        refine wj (α := Int32) (D := (dC, dI)) (cl := vwCl) (A := AX 4 h s.heap.size) (H0 := s.heap) (if v40 = 1 then 1 else 0) (fun v45 => wsR h k σ) (fun v45 => [(5, .int 8), (4, .int x41), (3, .int v40), (6, .int x38), (0, .ref (h 0)), (1, .int a1), (2, .int a2)]) 7 (fun v45 ls => F0 m 100 ls [.int v45, .int x41, .ref (h 0)]) ?_ ?_
        · intro v45 ls H locs ev45 hl hP hD hS
          try dsimp only at hl hP hD ⊢
          refine lv_iconst (v := 0) hx hb dX3_decimal_100 (by decide) ?_
          refine callR_v (va_runV (As := [.int x41, .int v45, .int 0]) (rest := []) ⟨hx, hb, hml, hown, hts⟩ (c_X3_flags l dC dI h k _ σ x41 v45 0) (cwV 3 hts gX3_decimal_X3_flags rfl rfl rfl (by decide +kernel) ⟨Nat.le_of_ble_eq_true rfl, Nat.le_of_ble_eq_true rfl⟩) (preR_V (ci := 3) (q0 := 0) hct hP hD hS rfl rfl) rfl rfl hl.1 rfl (lv_room (Nat.le_of_ble_eq_true rfl)) dX3_decimal_101 ⟨Nat.le_of_ble_eq_true rfl, Nat.le_of_ble_eq_true rfl⟩) hS (fun σ46 H locs eσ46 hP hD hS => ?_)
          refine lv_iload hx hb dX3_decimal_104 (lv_at hl 1 rfl) ?_
          exact retR_i hx hb hr hlocks (by subst eσ46; subst ev45; subst ex41; subst ev40; subst ex38; subst ex35; subst ev34; subst ex32; subst ex1; exact if_neg c2) hP hD hS dX3_decimal_106
        · intro J
          refine lv_icmp_ne (tgt := 99) hx hb dX3_decimal_92 (by decide) (fun c44 => ?_) (fun c44 => ?_)
          · refine lv_iconst (v := 0) hx hb dX3_decimal_99 (by decide) ?_
            exact J (0) ls _ _ (by exact (if_neg c44).symm) (lv_sub hl [0, 1, 2, 3, 4, 5, 6] rfl) hP hD hS
          · refine lv_iconst (v := 1) hx hb dX3_decimal_95 (by decide) ?_
            refine lv_goto (tgt := 100) hx hb dX3_decimal_96 (by decide) ?_
            exact J (1) ls _ _ (by exact (if_pos c44).symm) (lv_sub hl [0, 1, 2, 3, 4, 5, 6] rfl) hP hD hS
      · intro J
        refine lv_icmp_le (tgt := 61) hx hb dX3_decimal_54 (by decide) (fun c39 => ?_) (fun c39 => ?_)
        · refine lv_iconst (v := 0) hx hb dX3_decimal_61 (by decide) ?_
          exact J (0) ls _ _ (by exact (if_pos c39).symm) (lv_sub hl [0, 1, 2, 3, 4, 5, 6] rfl) hP hD hS
        · refine lv_iconst (v := 1) hx hb dX3_decimal_57 (by decide) ?_
          refine lv_goto (tgt := 62) hx hb dX3_decimal_58 (by decide) ?_
          exact J (1) ls _ _ (by exact (if_neg c39).symm) (lv_sub hl [0, 1, 2, 3, 4, 5, 6] rfl) hP hD hS
    · intro J
      refine lv_icmp_le (tgt := 61) hx hb dX3_decimal_54 (by decide) (fun c33 => ?_) (fun c33 => ?_)
      · refine lv_iconst (v := 0) hx hb dX3_decimal_61 (by decide) ?_
        exact J (0) ls _ _ (by exact (if_pos c33).symm) (lv_sub hl [0, 1, 2, 3, 4, 5, 6] rfl) hP hD hS
      · refine lv_iconst (v := 1) hx hb dX3_decimal_57 (by decide) ?_
        refine lv_goto (tgt := 62) hx hb dX3_decimal_58 (by decide) ?_
        exact J (1) ls _ _ (by exact (if_neg c33).symm) (lv_sub hl [0, 1, 2, 3, 4, 5, 6] rfl) hP hD hS

set_option maxHeartbeats 4000000 in
set_option maxRecDepth 100000 in
theorem c_X3_joined (l : Launch) (dC : Nat → ClassId) (dI : Nat → Nat → Nat) (h : Nat → Nat) (k : Nat → ClassId) (sz : Nat) (σ : StR) (a1 : Int32) (a2 : Int32) (a3 : Int32) : Met l yX3_joined wsX3_joined ({ frames := 3, cells := 0, slots := 0, locals := 71 }) (PcR (dC, dI) h k [.ref (h 0), .int a1, .int a2, .int a3] sz σ) (va_Qi (fun r u => (r, u) = (f_X3_joined σ a1 a2 a3)) (BR (dC, dI) h k (AX 4 h sz)) (AX 4 h sz)) 0 0 (AX 4 h sz) := by
  refine Met.ofW (cc := cX3_joined) (maxL := 6) (ret := (some .int)) (by decide) rfl ?_
  intro p e s m args below meth c s₁ B hml hv
  obtain ⟨rfl, rfl, hP, hct, hD⟩ := hv
  have hx := B.exec
  have hb := B.bytes
  have hr := B.returns
  have hts := atoms_spec (ws := wsX3_joined) B.pre
  have hown : s.vm.findClass RX3 = some m.cls := findClass_of_methodNamed B.named
  have hlocks := B.notSynchronized
  have hK := hct.1
  have hS : va_S (AX 4 h s.heap.size) s.heap s.heap [] := va_S.rf
  have hl := lv_entry ([.ref (h 0), .int a1, .int a2, .int a3]) (n := 6) (Nat.le_of_ble_eq_true rfl)
  rw [lg_entry_eq]
  generalize (lg_sl ([.ref (h 0), .int a1, .int a2, .int a3]) ++ List.replicate (6 - (lg_sl ([.ref (h 0), .int a1, .int a2, .int a3])).length) Slot.unset).toArray = ls at hl ⊢
  have hl : lv_has ls 6 [(0, .ref (h 0)), (1, .int a1), (2, .int a2), (3, .int a3)] := hl
  refine lv_iload_n hx hb dX3_joined_0 rfl (lv_at hl 2 rfl) ?_
  refine lv_aload_n hx hb dX3_joined_1 rfl (lv_at hl 0 rfl) ?_
  refine callR_ip (va_runV (As := []) (rest := [.int a2]) ⟨hx, hb, hml, hown, hts⟩ (c_X3_all l dC dI h k _ σ ) (cwV 0 hts gX3_joined_X3_all rfl rfl rfl (by decide +kernel) ⟨Nat.le_of_ble_eq_true rfl, Nat.le_of_ble_eq_true rfl⟩) (preR_V (ci := 3) (q0 := 0) hct hP hD hS rfl rfl) rfl rfl hl.1 rfl (lv_room (Nat.le_of_ble_eq_true rfl)) dX3_joined_2 ⟨Nat.le_of_ble_eq_true rfl, Nat.le_of_ble_eq_true rfl⟩) hS (fun x1 H locs ex1 hP hD hS => ?_)
  refine lv_ixor hx hb dX3_joined_5 ?_
  refine lv_topi (fun x2 ex2 => ?_)
  refine lv_istore (lv' := [(4, .int x2), (0, .ref (h 0)), (1, .int a1), (2, .int a2), (3, .int a3)]) hx hb dX3_joined_6 hl (by decide) rfl (fun ls hl => ?_)
  refine lv_iload_n hx hb dX3_joined_8 rfl (lv_at hl 2 rfl) ?_
  rcases Classical.em (a1 = 4) with c3 | c3
  · refine lv_tableIn (tgt := 68) hx hb dX3_joined_9 (by rw [c3]; decide) (by rw [c3]; decide) (by rw [c3]; rfl) (by decide) ?_
    refine lv_iload_n hx hb dX3_joined_68 rfl (lv_at hl 3 rfl) ?_
    exact retR_i hx hb hr hlocks (by subst ex2; subst ex1; exact if_pos c3) hP hD hS dX3_joined_69
  · skip
    rcases Classical.em (a1 = 5) with c4 | c4
    · refine lv_tableIn (tgt := 70) hx hb dX3_joined_9 (by rw [c4]; decide) (by rw [c4]; decide) (by rw [c4]; rfl) (by decide) ?_
      refine lv_aload_n hx hb dX3_joined_70 rfl (lv_at hl 1 rfl) ?_
      refine lv_iload_n hx hb dX3_joined_71 rfl (lv_at hl 3 rfl) ?_
      refine lv_iload_n hx hb dX3_joined_72 rfl (lv_at hl 4 rfl) ?_
      refine lv_iconst (v := 0) hx hb dX3_joined_73 (by decide) ?_
      refine callR_i (va_runV (As := [.int a2, .int a3, .int 0]) (rest := []) ⟨hx, hb, hml, hown, hts⟩ (c_X3_sum l dC dI h k _ σ a2 a3 0) (cwV 3 hts gX3_joined_X3_sum rfl rfl rfl (by decide +kernel) ⟨Nat.le_of_ble_eq_true rfl, Nat.le_of_ble_eq_true rfl⟩) (preR_V (ci := 3) (q0 := 0) hct hP hD hS rfl rfl) rfl rfl hl.1 rfl (lv_room (Nat.le_of_ble_eq_true rfl)) dX3_joined_74 ⟨Nat.le_of_ble_eq_true rfl, Nat.le_of_ble_eq_true rfl⟩) hS (fun x5 σ6 H locs ex5 eσ6 hP hD hS => ?_)
      exact retR_i hx hb hr hlocks (by subst eσ6; subst ex5; subst ex2; subst ex1; exact (if_neg c3).trans (if_pos c4)) hP hD hS dX3_joined_77
    · skip
      rcases Classical.em (a1 = 6) with c7 | c7
      · refine lv_tableIn (tgt := 78) hx hb dX3_joined_9 (by rw [c7]; decide) (by rw [c7]; decide) (by rw [c7]; rfl) (by decide) ?_
        refine lv_aload_n hx hb dX3_joined_78 rfl (lv_at hl 1 rfl) ?_
        refine lv_iload_n hx hb dX3_joined_79 rfl (lv_at hl 3 rfl) ?_
        refine lv_iload_n hx hb dX3_joined_80 rfl (lv_at hl 4 rfl) ?_
        refine lv_aload_n hx hb dX3_joined_81 rfl (lv_at hl 1 rfl) ?_
        refine lv_iconst (v := 1) hx hb dX3_joined_82 (by decide) ?_
        refine callR_ip (va_runV (As := [.int 1]) (rest := [.int a3, .int a2, .ref (h 0)]) ⟨hx, hb, hml, hown, hts⟩ (c_X3_flag l dC dI h k _ σ 1) (cwV 1 hts gX3_joined_X3_flag rfl rfl rfl (by decide +kernel) ⟨Nat.le_of_ble_eq_true rfl, Nat.le_of_ble_eq_true rfl⟩) (preR_V (ci := 3) (q0 := 0) hct hP hD hS rfl rfl) rfl rfl hl.1 rfl (lv_room (Nat.le_of_ble_eq_true rfl)) dX3_joined_83 ⟨Nat.le_of_ble_eq_true rfl, Nat.le_of_ble_eq_true rfl⟩) hS (fun x8 H locs ex8 hP hD hS => ?_)
        refine callR_i (va_runV (As := [.int a2, .int a3, .int x8]) (rest := []) ⟨hx, hb, hml, hown, hts⟩ (c_X3_sum l dC dI h k _ σ a2 a3 x8) (cwV 3 hts gX3_joined_X3_sum rfl rfl rfl (by decide +kernel) ⟨Nat.le_of_ble_eq_true rfl, Nat.le_of_ble_eq_true rfl⟩) (preR_V (ci := 3) (q0 := 0) hct hP hD hS rfl rfl) rfl rfl hl.1 rfl (lv_room (Nat.le_of_ble_eq_true rfl)) dX3_joined_86 ⟨Nat.le_of_ble_eq_true rfl, Nat.le_of_ble_eq_true rfl⟩) hS (fun x9 σ10 H locs ex9 eσ10 hP hD hS => ?_)
        exact retR_i hx hb hr hlocks (by subst eσ10; subst ex9; subst ex8; subst ex2; subst ex1; exact (if_neg c3).trans ((if_neg c4).trans (if_pos c7))) hP hD hS dX3_joined_89
      · skip
        rcases Classical.em (a1 = 7) with c11 | c11
        · refine lv_tableIn (tgt := 90) hx hb dX3_joined_9 (by rw [c11]; decide) (by rw [c11]; decide) (by rw [c11]; rfl) (by decide) ?_
          refine lv_aload_n hx hb dX3_joined_90 rfl (lv_at hl 1 rfl) ?_
          refine lv_iload hx hb dX3_joined_91 (lv_at hl 0 rfl) ?_
          refine lv_iload_n hx hb dX3_joined_93 rfl (lv_at hl 4 rfl) ?_
          refine lv_aload_n hx hb dX3_joined_94 rfl (lv_at hl 1 rfl) ?_
          refine lv_iconst (v := 1) hx hb dX3_joined_95 (by decide) ?_
          refine callR_ip (va_runV (As := [.int 1]) (rest := [.int a3, .int x2, .ref (h 0)]) ⟨hx, hb, hml, hown, hts⟩ (c_X3_flag l dC dI h k _ σ 1) (cwV 1 hts gX3_joined_X3_flag rfl rfl rfl (by decide +kernel) ⟨Nat.le_of_ble_eq_true rfl, Nat.le_of_ble_eq_true rfl⟩) (preR_V (ci := 3) (q0 := 0) hct hP hD hS rfl rfl) rfl rfl hl.1 rfl (lv_room (Nat.le_of_ble_eq_true rfl)) dX3_joined_96 ⟨Nat.le_of_ble_eq_true rfl, Nat.le_of_ble_eq_true rfl⟩) hS (fun x12 H locs ex12 hP hD hS => ?_)
          refine callR_i (va_runV (As := [.int x2, .int a3, .int x12]) (rest := []) ⟨hx, hb, hml, hown, hts⟩ (c_X3_sum l dC dI h k _ σ x2 a3 x12) (cwV 3 hts gX3_joined_X3_sum rfl rfl rfl (by decide +kernel) ⟨Nat.le_of_ble_eq_true rfl, Nat.le_of_ble_eq_true rfl⟩) (preR_V (ci := 3) (q0 := 0) hct hP hD hS rfl rfl) rfl rfl hl.1 rfl (lv_room (Nat.le_of_ble_eq_true rfl)) dX3_joined_99 ⟨Nat.le_of_ble_eq_true rfl, Nat.le_of_ble_eq_true rfl⟩) hS (fun x13 σ14 H locs ex13 eσ14 hP hD hS => ?_)
          exact retR_i hx hb hr hlocks (by subst eσ14; subst ex13; subst ex12; subst ex2; subst ex1; exact (if_neg c3).trans ((if_neg c4).trans ((if_neg c7).trans (if_pos c11)))) hP hD hS dX3_joined_102
        · skip
          rcases Classical.em (a1 = 8) with c15 | c15
          · refine lv_tableIn (tgt := 103) hx hb dX3_joined_9 (by rw [c15]; decide) (by rw [c15]; decide) (by rw [c15]; rfl) (by decide) ?_
            refine lv_aload_n hx hb dX3_joined_103 rfl (lv_at hl 1 rfl) ?_
            refine lv_iload hx hb dX3_joined_104 (lv_at hl 0 rfl) ?_
            refine lv_iload_n hx hb dX3_joined_106 rfl (lv_at hl 4 rfl) ?_
            refine lv_iconst (v := 1) hx hb dX3_joined_107 (by decide) ?_
            refine callR_i (va_runV (As := [.int x2, .int a3, .int 1]) (rest := []) ⟨hx, hb, hml, hown, hts⟩ (c_X3_sum l dC dI h k _ σ x2 a3 1) (cwV 3 hts gX3_joined_X3_sum rfl rfl rfl (by decide +kernel) ⟨Nat.le_of_ble_eq_true rfl, Nat.le_of_ble_eq_true rfl⟩) (preR_V (ci := 3) (q0 := 0) hct hP hD hS rfl rfl) rfl rfl hl.1 rfl (lv_room (Nat.le_of_ble_eq_true rfl)) dX3_joined_108 ⟨Nat.le_of_ble_eq_true rfl, Nat.le_of_ble_eq_true rfl⟩) hS (fun x16 σ17 H locs ex16 eσ17 hP hD hS => ?_)
            exact retR_i hx hb hr hlocks (by subst eσ17; subst ex16; subst ex2; subst ex1; exact (if_neg c3).trans ((if_neg c4).trans ((if_neg c7).trans ((if_neg c11).trans (if_pos c15))))) hP hD hS dX3_joined_111
          · skip
            rcases Classical.em (a1 = 9) with c18 | c18
            · refine lv_tableIn (tgt := 103) hx hb dX3_joined_9 (by rw [c18]; decide) (by rw [c18]; decide) (by rw [c18]; rfl) (by decide) ?_
              refine lv_aload_n hx hb dX3_joined_103 rfl (lv_at hl 1 rfl) ?_
              refine lv_iload hx hb dX3_joined_104 (lv_at hl 0 rfl) ?_
              refine lv_iload_n hx hb dX3_joined_106 rfl (lv_at hl 4 rfl) ?_
              refine lv_iconst (v := 1) hx hb dX3_joined_107 (by decide) ?_
              refine callR_i (va_runV (As := [.int x2, .int a3, .int 1]) (rest := []) ⟨hx, hb, hml, hown, hts⟩ (c_X3_sum l dC dI h k _ σ x2 a3 1) (cwV 3 hts gX3_joined_X3_sum rfl rfl rfl (by decide +kernel) ⟨Nat.le_of_ble_eq_true rfl, Nat.le_of_ble_eq_true rfl⟩) (preR_V (ci := 3) (q0 := 0) hct hP hD hS rfl rfl) rfl rfl hl.1 rfl (lv_room (Nat.le_of_ble_eq_true rfl)) dX3_joined_108 ⟨Nat.le_of_ble_eq_true rfl, Nat.le_of_ble_eq_true rfl⟩) hS (fun x19 σ20 H locs ex19 eσ20 hP hD hS => ?_)
              exact retR_i hx hb hr hlocks (by subst eσ20; subst ex19; subst ex2; subst ex1; exact (if_neg c3).trans ((if_neg c4).trans ((if_neg c7).trans ((if_neg c11).trans ((if_neg c15).trans (if_pos c18)))))) hP hD hS dX3_joined_111
            · skip
              rcases Classical.em (a1 = 10) with c21 | c21
              · refine lv_tableIn (tgt := 112) hx hb dX3_joined_9 (by rw [c21]; decide) (by rw [c21]; decide) (by rw [c21]; rfl) (by decide) ?_
                refine lv_aload_n hx hb dX3_joined_112 rfl (lv_at hl 1 rfl) ?_
                refine lv_iload_n hx hb dX3_joined_113 rfl (lv_at hl 3 rfl) ?_
                refine lv_iload_n hx hb dX3_joined_114 rfl (lv_at hl 4 rfl) ?_
                refine callR_i (va_runV (As := [.int a2, .int a3]) (rest := []) ⟨hx, hb, hml, hown, hts⟩ (c_X3_decimal l dC dI h k _ σ a2 a3) (cwV 2 hts gX3_joined_X3_decimal rfl rfl rfl (by decide +kernel) ⟨Nat.le_of_ble_eq_true rfl, Nat.le_of_ble_eq_true rfl⟩) (preR_V (ci := 3) (q0 := 0) hct hP hD hS rfl rfl) rfl rfl hl.1 rfl (lv_room (Nat.le_of_ble_eq_true rfl)) dX3_joined_115 ⟨Nat.le_of_ble_eq_true rfl, Nat.le_of_ble_eq_true rfl⟩) hS (fun x22 σ23 H locs ex22 eσ23 hP hD hS => ?_)
                exact retR_i hx hb hr hlocks (by subst eσ23; subst ex22; subst ex2; subst ex1; exact (if_neg c3).trans ((if_neg c4).trans ((if_neg c7).trans ((if_neg c11).trans ((if_neg c15).trans ((if_neg c18).trans (if_pos c21))))))) hP hD hS dX3_joined_118
              · skip
                rcases Classical.em (a1 = 11) with c24 | c24
                · refine lv_tableIn (tgt := 168) hx hb dX3_joined_9 (by rw [c24]; decide) (by rw [c24]; decide) (by rw [c24]; rfl) (by decide) ?_
                  refine lv_iload_n hx hb dX3_joined_168 rfl (lv_at hl 3 rfl) ?_
                  refine lv_iload_n hx hb dX3_joined_169 rfl (lv_at hl 4 rfl) ?_
                  refine lv_iand hx hb dX3_joined_170 ?_
                  refine lv_topi (fun x25 ex25 => ?_)
                  refine lv_istore (lv' := [(5, .int x25), (4, .int x2), (0, .ref (h 0)), (1, .int a1), (2, .int a2), (3, .int a3)]) hx hb dX3_joined_171 hl (by decide) rfl (fun ls hl => ?_)
                  refine lv_aload_n hx hb dX3_joined_173 rfl (lv_at hl 2 rfl) ?_
                  refine lv_iload hx hb dX3_joined_174 (lv_at hl 0 rfl) ?_
                  refine lv_iload hx hb dX3_joined_176 (lv_at hl 0 rfl) ?_
                  refine wj (α := Int32) (D := (dC, dI)) (cl := vwCl) (A := AX 4 h s.heap.size) (H0 := s.heap) (if x25 = 0 then 0 else 1) (fun v27 => wsR h k σ) (fun v27 => [(5, .int x25), (4, .int x2), (0, .ref (h 0)), (1, .int a1), (2, .int a2), (3, .int a3)]) 6 (fun v27 ls => F0 m 186 ls [.int v27, .int x25, .ref (h 0)]) ?_ ?_
                  · intro v27 ls H locs ev27 hl hP hD hS
                    try dsimp only at hl hP hD ⊢
                    refine lv_iconst (v := 0) hx hb dX3_joined_186 (by decide) ?_
                    refine callR_v (va_runV (As := [.int x25, .int v27, .int 0]) (rest := []) ⟨hx, hb, hml, hown, hts⟩ (c_X3_flags l dC dI h k _ σ x25 v27 0) (cwV 3 hts gX3_joined_X3_flags rfl rfl rfl (by decide +kernel) ⟨Nat.le_of_ble_eq_true rfl, Nat.le_of_ble_eq_true rfl⟩) (preR_V (ci := 3) (q0 := 0) hct hP hD hS rfl rfl) rfl rfl hl.1 rfl (lv_room (Nat.le_of_ble_eq_true rfl)) dX3_joined_187 ⟨Nat.le_of_ble_eq_true rfl, Nat.le_of_ble_eq_true rfl⟩) hS (fun σ28 H locs eσ28 hP hD hS => ?_)
                    refine lv_iload hx hb dX3_joined_190 (lv_at hl 0 rfl) ?_
                    exact retR_i hx hb hr hlocks (by subst eσ28; subst ev27; subst ex25; subst ex2; subst ex1; exact (if_neg c3).trans ((if_neg c4).trans ((if_neg c7).trans ((if_neg c11).trans ((if_neg c15).trans ((if_neg c18).trans ((if_neg c21).trans (if_pos c24)))))))) hP hD hS dX3_joined_192
                  · intro J
                    refine lv_if_eq (tgt := 185) hx hb dX3_joined_178 (by decide) (fun c26 => ?_) (fun c26 => ?_)
                    · refine lv_iconst (v := 0) hx hb dX3_joined_185 (by decide) ?_
                      exact J (0) ls _ _ (by exact (if_pos c26).symm) (lv_sub hl [0, 1, 2, 3, 4, 5] rfl) hP hD hS
                    · refine lv_iconst (v := 1) hx hb dX3_joined_181 (by decide) ?_
                      refine lv_goto (tgt := 186) hx hb dX3_joined_182 (by decide) ?_
                      exact J (1) ls _ _ (by exact (if_neg c26).symm) (lv_sub hl [0, 1, 2, 3, 4, 5] rfl) hP hD hS
                · skip
                  rcases Classical.em (a1 = 12) with c29 | c29
                  · refine lv_tableIn (tgt := 119) hx hb dX3_joined_9 (by rw [c29]; decide) (by rw [c29]; decide) (by rw [c29]; rfl) (by decide) ?_
                    refine lv_iload_n hx hb dX3_joined_119 rfl (lv_at hl 4 rfl) ?_
                    refine lv_iload hx hb dX3_joined_120 (lv_at hl 0 rfl) ?_
                    refine lv_iand hx hb dX3_joined_122 ?_
                    exact retR_i hx hb hr hlocks (by subst ex2; subst ex1; exact (if_neg c3).trans ((if_neg c4).trans ((if_neg c7).trans ((if_neg c11).trans ((if_neg c15).trans ((if_neg c18).trans ((if_neg c21).trans ((if_neg c24).trans (if_pos c29))))))))) hP hD hS dX3_joined_123
                  · skip
                    rcases Classical.em (a1 = 13) with c30 | c30
                    · refine lv_tableIn (tgt := 124) hx hb dX3_joined_9 (by rw [c30]; decide) (by rw [c30]; decide) (by rw [c30]; rfl) (by decide) ?_
                      refine lv_iload_n hx hb dX3_joined_124 rfl (lv_at hl 4 rfl) ?_
                      refine lv_iload_n hx hb dX3_joined_125 rfl (lv_at hl 3 rfl) ?_
                      refine lv_ior hx hb dX3_joined_126 ?_
                      exact retR_i hx hb hr hlocks (by subst ex2; subst ex1; exact (if_neg c3).trans ((if_neg c4).trans ((if_neg c7).trans ((if_neg c11).trans ((if_neg c15).trans ((if_neg c18).trans ((if_neg c21).trans ((if_neg c24).trans ((if_neg c29).trans (if_pos c30)))))))))) hP hD hS dX3_joined_127
                    · skip
                      rcases Classical.em (a1 = 14) with c31 | c31
                      · refine lv_tableIn (tgt := 128) hx hb dX3_joined_9 (by rw [c31]; decide) (by rw [c31]; decide) (by rw [c31]; rfl) (by decide) ?_
                        refine lv_iload_n hx hb dX3_joined_128 rfl (lv_at hl 3 rfl) ?_
                        refine lv_iload_n hx hb dX3_joined_129 rfl (lv_at hl 4 rfl) ?_
                        refine lv_ixor hx hb dX3_joined_130 ?_
                        refine lv_topi (fun x32 ex32 => ?_)
                        refine lv_istore (lv' := [(5, .int x32), (4, .int x2), (0, .ref (h 0)), (1, .int a1), (2, .int a2), (3, .int a3)]) hx hb dX3_joined_131 hl (by decide) rfl (fun ls hl => ?_)
                        refine lv_aload_n hx hb dX3_joined_133 rfl (lv_at hl 2 rfl) ?_
                        refine lv_iload hx hb dX3_joined_134 (lv_at hl 0 rfl) ?_
                        refine lv_iload hx hb dX3_joined_136 (lv_at hl 0 rfl) ?_
                        refine wj (α := Int32) (D := (dC, dI)) (cl := vwCl) (A := AX 4 h s.heap.size) (H0 := s.heap) (if x32 = 0 then 0 else 1) (fun v34 => wsR h k σ) (fun v34 => [(5, .int x32), (4, .int x2), (0, .ref (h 0)), (1, .int a1), (2, .int a2), (3, .int a3)]) 6 (fun v34 ls => F0 m 146 ls [.int v34, .int x32, .ref (h 0)]) ?_ ?_
                        · intro v34 ls H locs ev34 hl hP hD hS
                          try dsimp only at hl hP hD ⊢
                          refine lv_iload_n hx hb dX3_joined_146 rfl (lv_at hl 4 rfl) ?_
                          refine lv_iload_n hx hb dX3_joined_147 rfl (lv_at hl 5 rfl) ?_
                          refine lv_iand hx hb dX3_joined_148 ?_
                          refine lv_aload_n hx hb dX3_joined_149 rfl (lv_at hl 2 rfl) ?_
                          refine callR_ip (va_runV (As := []) (rest := [.int (a2 &&& a3), .int v34, .int x32, .ref (h 0)]) ⟨hx, hb, hml, hown, hts⟩ (c_X3_high l dC dI h k _ σ ) (cwV 0 hts gX3_joined_X3_high rfl rfl rfl (by decide +kernel) ⟨Nat.le_of_ble_eq_true rfl, Nat.le_of_ble_eq_true rfl⟩) (preR_V (ci := 3) (q0 := 0) hct hP hD hS rfl rfl) rfl rfl hl.1 rfl (lv_room (Nat.le_of_ble_eq_true rfl)) dX3_joined_150 ⟨Nat.le_of_ble_eq_true rfl, Nat.le_of_ble_eq_true rfl⟩) hS (fun x35 H locs ex35 hP hD hS => ?_)
                          refine lv_iand hx hb dX3_joined_153 ?_
                          refine wj (α := Int32) (D := (dC, dI)) (cl := vwCl) (A := AX 4 h s.heap.size) (H0 := s.heap) (if ((a2 &&& a3) &&& x35) = 0 then 0 else 1) (fun v37 => wsR h k σ) (fun v37 => [(5, .int x32), (4, .int x2), (0, .ref (h 0)), (1, .int a1), (2, .int a2), (3, .int a3)]) 6 (fun v37 ls => F0 m 162 ls [.int v37, .int v34, .int x32, .ref (h 0)]) ?_ ?_
                          · intro v37 ls H locs ev37 hl hP hD hS
                            try dsimp only at hl hP hD ⊢
                            refine callR_v (va_runV (As := [.int x32, .int v34, .int v37]) (rest := []) ⟨hx, hb, hml, hown, hts⟩ (c_X3_flags l dC dI h k _ σ x32 v34 v37) (cwV 3 hts gX3_joined_X3_flags rfl rfl rfl (by decide +kernel) ⟨Nat.le_of_ble_eq_true rfl, Nat.le_of_ble_eq_true rfl⟩) (preR_V (ci := 3) (q0 := 0) hct hP hD hS rfl rfl) rfl rfl hl.1 rfl (lv_room (Nat.le_of_ble_eq_true rfl)) dX3_joined_162 ⟨Nat.le_of_ble_eq_true rfl, Nat.le_of_ble_eq_true rfl⟩) hS (fun σ38 H locs eσ38 hP hD hS => ?_)
                            refine lv_iload hx hb dX3_joined_165 (lv_at hl 0 rfl) ?_
                            exact retR_i hx hb hr hlocks (by subst eσ38; subst ev37; subst ex35; subst ev34; subst ex32; subst ex2; subst ex1; exact (if_neg c3).trans ((if_neg c4).trans ((if_neg c7).trans ((if_neg c11).trans ((if_neg c15).trans ((if_neg c18).trans ((if_neg c21).trans ((if_neg c24).trans ((if_neg c29).trans ((if_neg c30).trans (if_pos c31))))))))))) hP hD hS dX3_joined_167
                          · intro J
                            refine lv_if_eq (tgt := 161) hx hb dX3_joined_154 (by decide) (fun c36 => ?_) (fun c36 => ?_)
                            · refine lv_iconst (v := 0) hx hb dX3_joined_161 (by decide) ?_
                              exact J (0) ls _ _ (by exact (if_pos c36).symm) (lv_sub hl [0, 1, 2, 3, 4, 5] rfl) hP hD hS
                            · refine lv_iconst (v := 1) hx hb dX3_joined_157 (by decide) ?_
                              refine lv_goto (tgt := 162) hx hb dX3_joined_158 (by decide) ?_
                              exact J (1) ls _ _ (by exact (if_neg c36).symm) (lv_sub hl [0, 1, 2, 3, 4, 5] rfl) hP hD hS
                        · intro J
                          refine lv_if_eq (tgt := 145) hx hb dX3_joined_138 (by decide) (fun c33 => ?_) (fun c33 => ?_)
                          · refine lv_iconst (v := 0) hx hb dX3_joined_145 (by decide) ?_
                            exact J (0) ls _ _ (by exact (if_pos c33).symm) (lv_sub hl [0, 1, 2, 3, 4, 5] rfl) hP hD hS
                          · refine lv_iconst (v := 1) hx hb dX3_joined_141 (by decide) ?_
                            refine lv_goto (tgt := 146) hx hb dX3_joined_142 (by decide) ?_
                            exact J (1) ls _ _ (by exact (if_neg c33).symm) (lv_sub hl [0, 1, 2, 3, 4, 5] rfl) hP hD hS
                      · skip
                        have nc3 := i32ne (n := 4) (by decide) c3
                        have nc4 := i32ne (n := 5) (by decide) c4
                        have nc7 := i32ne (n := 6) (by decide) c7
                        have nc11 := i32ne (n := 7) (by decide) c11
                        have nc15 := i32ne (n := 8) (by decide) c15
                        have nc18 := i32ne (n := 9) (by decide) c18
                        have nc21 := i32ne (n := 10) (by decide) c21
                        have nc24 := i32ne (n := 11) (by decide) c24
                        have nc29 := i32ne (n := 12) (by decide) c29
                        have nc30 := i32ne (n := 13) (by decide) c30
                        have nc31 := i32ne (n := 14) (by decide) c31
                        refine lv_tableOut (tgt := 168) hx hb dX3_joined_9 (by omega) (by decide) ?_
                        refine lv_iload_n hx hb dX3_joined_168 rfl (lv_at hl 3 rfl) ?_
                        refine lv_iload_n hx hb dX3_joined_169 rfl (lv_at hl 4 rfl) ?_
                        refine lv_iand hx hb dX3_joined_170 ?_
                        refine lv_topi (fun x39 ex39 => ?_)
                        refine lv_istore (lv' := [(5, .int x39), (4, .int x2), (0, .ref (h 0)), (1, .int a1), (2, .int a2), (3, .int a3)]) hx hb dX3_joined_171 hl (by decide) rfl (fun ls hl => ?_)
                        refine lv_aload_n hx hb dX3_joined_173 rfl (lv_at hl 2 rfl) ?_
                        refine lv_iload hx hb dX3_joined_174 (lv_at hl 0 rfl) ?_
                        refine lv_iload hx hb dX3_joined_176 (lv_at hl 0 rfl) ?_
                        refine wj (α := Int32) (D := (dC, dI)) (cl := vwCl) (A := AX 4 h s.heap.size) (H0 := s.heap) (if x39 = 0 then 0 else 1) (fun v41 => wsR h k σ) (fun v41 => [(5, .int x39), (4, .int x2), (0, .ref (h 0)), (1, .int a1), (2, .int a2), (3, .int a3)]) 6 (fun v41 ls => F0 m 186 ls [.int v41, .int x39, .ref (h 0)]) ?_ ?_
                        · intro v41 ls H locs ev41 hl hP hD hS
                          try dsimp only at hl hP hD ⊢
                          refine lv_iconst (v := 0) hx hb dX3_joined_186 (by decide) ?_
                          refine callR_v (va_runV (As := [.int x39, .int v41, .int 0]) (rest := []) ⟨hx, hb, hml, hown, hts⟩ (c_X3_flags l dC dI h k _ σ x39 v41 0) (cwV 3 hts gX3_joined_X3_flags rfl rfl rfl (by decide +kernel) ⟨Nat.le_of_ble_eq_true rfl, Nat.le_of_ble_eq_true rfl⟩) (preR_V (ci := 3) (q0 := 0) hct hP hD hS rfl rfl) rfl rfl hl.1 rfl (lv_room (Nat.le_of_ble_eq_true rfl)) dX3_joined_187 ⟨Nat.le_of_ble_eq_true rfl, Nat.le_of_ble_eq_true rfl⟩) hS (fun σ42 H locs eσ42 hP hD hS => ?_)
                          refine lv_iload hx hb dX3_joined_190 (lv_at hl 0 rfl) ?_
                          exact retR_i hx hb hr hlocks (by subst eσ42; subst ev41; subst ex39; subst ex2; subst ex1; exact (if_neg c3).trans ((if_neg c4).trans ((if_neg c7).trans ((if_neg c11).trans ((if_neg c15).trans ((if_neg c18).trans ((if_neg c21).trans ((if_neg c24).trans ((if_neg c29).trans ((if_neg c30).trans (if_neg c31))))))))))) hP hD hS dX3_joined_192
                        · intro J
                          refine lv_if_eq (tgt := 185) hx hb dX3_joined_178 (by decide) (fun c40 => ?_) (fun c40 => ?_)
                          · refine lv_iconst (v := 0) hx hb dX3_joined_185 (by decide) ?_
                            exact J (0) ls _ _ (by exact (if_pos c40).symm) (lv_sub hl [0, 1, 2, 3, 4, 5] rfl) hP hD hS
                          · refine lv_iconst (v := 1) hx hb dX3_joined_181 (by decide) ?_
                            refine lv_goto (tgt := 186) hx hb dX3_joined_182 (by decide) ?_
                            exact J (1) ls _ _ (by exact (if_neg c40).symm) (lv_sub hl [0, 1, 2, 3, 4, 5] rfl) hP hD hS
