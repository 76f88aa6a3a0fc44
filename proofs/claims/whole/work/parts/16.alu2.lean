set_option maxHeartbeats 4000000 in
set_option maxRecDepth 100000 in
theorem c_X2_addDecimal (l : Launch) (dC : Nat → ClassId) (dI : Nat → Nat → Nat) (h : Nat → Nat) (k : Nat → ClassId) (g : Nat → Nat) (sz : Nat) (σ : StC) (a1 : Int32) (a2 : Int32) (a3 : Int32) : Met l yX2_addDecimal wsX2_addDecimal ({ frames := 2, cells := 0, slots := 0, locals := 47 }) (PcC (dC, dI) h k g [.ref (h 0), .int a1, .int a2, .int a3] sz σ) (va_Qi (fun r u => (r, u) = (f_X2_addDecimal σ a1 a2 a3)) (BC (dC, dI) h k (AX 5 h sz)) (AX 5 h sz)) 0 0 (AX 5 h sz) := by
  refine Met.ofW (cc := cX2_addDecimal) (maxL := 8) (ret := (some .int)) (by decide) rfl ?_
  intro p e s m args below meth c s₁ B hml hv
  obtain ⟨rfl, rfl, hP, hct, hD⟩ := hv
  have hx := B.exec
  have hb := B.bytes
  have hr := B.returns
  have hts := atoms_spec (ws := wsX2_addDecimal) B.pre
  have hown : s.vm.findClass RX2 = some m.cls := findClass_of_methodNamed B.named
  have hlocks := B.notSynchronized
  have hK := hct.1
  have hN := hct.2.1
  have hS : va_S (AX 5 h s.heap.size) s.heap s.heap [] := va_S.rf
  have hl := lv_entry ([.ref (h 0), .int a1, .int a2, .int a3]) (n := 8) (Nat.le_of_ble_eq_true rfl)
  rw [lg_entry_eq]
  generalize (lg_sl ([.ref (h 0), .int a1, .int a2, .int a3]) ++ List.replicate (8 - (lg_sl ([.ref (h 0), .int a1, .int a2, .int a3])).length) Slot.unset).toArray = ls at hl ⊢
  have hl : lv_has ls 8 [(0, .ref (h 0)), (1, .int a1), (2, .int a2), (3, .int a3)] := hl
  refine lv_iconst (v := 0) hx hb dX2_addDecimal_0 (by decide) ?_
  refine lv_istore (lv' := [(4, .int 0), (0, .ref (h 0)), (1, .int a1), (2, .int a2), (3, .int a3)]) hx hb dX2_addDecimal_1 hl (by decide) rfl (fun ls hl => ?_)
  refine lv_aload_n hx hb dX2_addDecimal_3 rfl (lv_at hl 1 rfl) ?_
  refine va_get (D := (dC, dI)) (ci := 2) (v := .ref (h 2)) (C := RX2) (T := TX2) (N := 4) hx hb hts (fun _ h9 => List.mem_cons_of_mem _ (List.mem_append_right _ h9)) hown hK hP 0 rfl rfl 1 (by decide) (hts (.fieldLink RX2 16 "LowPowerCpu" "registers" "[I") (by decide +kernel)) (fun _ h9 => h9) rfl dX2_addDecimal_4 ?_
  refine lv_iconst (v := 2) hx hb dX2_addDecimal_7 (by decide) ?_
  refine va_iald hx hb hK hP 2 0 rfl rfl (in_c (by decide)) dX2_addDecimal_8 ?_
  refine lv_iconst (v := 1) hx hb dX2_addDecimal_9 (by decide) ?_
  refine lv_iand hx hb dX2_addDecimal_10 ?_
  refine lv_topi (fun x1 ex1 => ?_)
  refine lv_istore (lv' := [(5, .int x1), (4, .int 0), (0, .ref (h 0)), (1, .int a1), (2, .int a2), (3, .int a3)]) hx hb dX2_addDecimal_11 hl (by decide) rfl (fun ls hl => ?_)
  refine lv_iconst (v := 0) hx hb dX2_addDecimal_13 (by decide) ?_
  refine lv_istore (lv' := [(6, .int 0), (5, .int x1), (4, .int 0), (0, .ref (h 0)), (1, .int a1), (2, .int a2), (3, .int a3)]) hx hb dX2_addDecimal_14 hl (by decide) rfl (fun ls hl => ?_)
  refine lv_iload hx hb dX2_addDecimal_16 (lv_at hl 0 rfl) ?_
  refine lv_bipush (v := 16) hx hb dX2_addDecimal_18 (by decide) ?_
  refine lv_icmp_ge (tgt := 89) hx hb dX2_addDecimal_20 (by decide) (fun c2 => absurd c2 (by decide)) (fun _ => ?_)
  refine lv_iload_n hx hb dX2_addDecimal_23 rfl (lv_at hl 6 rfl) ?_
  refine lv_iload hx hb dX2_addDecimal_24 (lv_at hl 0 rfl) ?_
  refine lv_ishr hx hb dX2_addDecimal_26 ?_
  refine wj (α := Int32 × Int32 × Int32) (D := (dC, dI)) (cl := vwCl) (A := AX 5 h s.heap.size) (H0 := s.heap) (if (a3 >>> ((0 : Int32) &&& 31)) = 0 then (0, x1, 0) else let x5 : Int32 := ((((a1 >>> ((0 : Int32) &&& 31)) &&& (15 : Int32)) + ((a2 >>> ((0 : Int32) &&& 31)) &&& (15 : Int32))) + x1); let v7 : Int32 := (if x5 ≤ 9 then 0 else 1); let x8 : Int32 := ((0 : Int32) ||| (((x5 - ((10 : Int32) * v7)) &&& (15 : Int32)) <<< ((0 : Int32) &&& 31))); if (a3 >>> ((4 : Int32) &&& 31)) = 0 then (4, v7, x8) else let x11 : Int32 := ((((a1 >>> ((4 : Int32) &&& 31)) &&& (15 : Int32)) + ((a2 >>> ((4 : Int32) &&& 31)) &&& (15 : Int32))) + v7); let v13 : Int32 := (if x11 ≤ 9 then 0 else 1); let x14 : Int32 := (x8 ||| (((x11 - ((10 : Int32) * v13)) &&& (15 : Int32)) <<< ((4 : Int32) &&& 31))); if (a3 >>> ((8 : Int32) &&& 31)) = 0 then (8, v13, x14) else let x17 : Int32 := ((((a1 >>> ((8 : Int32) &&& 31)) &&& (15 : Int32)) + ((a2 >>> ((8 : Int32) &&& 31)) &&& (15 : Int32))) + v13); let v19 : Int32 := (if x17 ≤ 9 then 0 else 1); let x20 : Int32 := (x14 ||| (((x17 - ((10 : Int32) * v19)) &&& (15 : Int32)) <<< ((8 : Int32) &&& 31))); if (a3 >>> ((12 : Int32) &&& 31)) = 0 then (12, v19, x20) else let x23 : Int32 := ((((a1 >>> ((12 : Int32) &&& 31)) &&& (15 : Int32)) + ((a2 >>> ((12 : Int32) &&& 31)) &&& (15 : Int32))) + v19); let v25 : Int32 := (if x23 ≤ 9 then 0 else 1); let x26 : Int32 := (x20 ||| (((x23 - ((10 : Int32) * v25)) &&& (15 : Int32)) <<< ((12 : Int32) &&& 31))); (16, v25, x26)) (fun v4 => wsC h k σ) (fun v4 => [(6, .int v4.1), (5, .int v4.2.1), (4, .int v4.2.2), (0, .ref (h 0)), (1, .int a1), (2, .int a2), (3, .int a3)]) 8 (fun v4 ls => F0 m 89 ls []) ?_ ?_
  · intro v4 ls H locs ev4 hl hP hD hS
    try dsimp only at hl hP hD ⊢
    refine lv_aload_n hx hb dX2_addDecimal_89 rfl (lv_at hl 3 rfl) ?_
    refine lv_iload hx hb dX2_addDecimal_90 (lv_at hl 2 rfl) ?_
    refine lv_iload hx hb dX2_addDecimal_92 (lv_at hl 1 rfl) ?_
    refine lv_iconst (v := 1) hx hb dX2_addDecimal_94 (by decide) ?_
    refine wj (α := Int32) (D := (dC, dI)) (cl := vwCl) (A := AX 5 h s.heap.size) (H0 := s.heap) (if v4.2.1 = 1 then 1 else 0) (fun v6 => wsC h k σ) (fun v6 => [(6, .int v4.1), (5, .int v4.2.1), (4, .int v4.2.2), (0, .ref (h 0)), (1, .int a1), (2, .int a2), (3, .int a3)]) 8 (fun v6 ls => F0 m 103 ls [.int v6, .int v4.2.2, .ref (h 0)]) ?_ ?_
    · intro v6 ls H locs ev6 hl hP hD hS
      try dsimp only at hl hP hD ⊢
      refine lv_iconst (v := 0) hx hb dX2_addDecimal_103 (by decide) ?_
      refine lv_iload_n hx hb dX2_addDecimal_104 rfl (lv_at hl 6 rfl) ?_
      refine callC_v (va_runV (As := [.int v4.2.2, .int v6, .int 0, .int a3]) (rest := []) ⟨hx, hb, hml, hown, hts⟩ (c_X2_setFlags l dC dI h k g _ σ v4.2.2 v6 0 a3) (cwV 4 hts gX2_addDecimal_X2_setFlags rfl rfl rfl (by decide +kernel) ⟨Nat.le_of_ble_eq_true rfl, Nat.le_of_ble_eq_true rfl⟩) (preC_V (ci := 2) (q0 := 0) hct hP hD hS rfl rfl) rfl rfl hl.1 rfl (lv_room (Nat.le_of_ble_eq_true rfl)) dX2_addDecimal_105 ⟨Nat.le_of_ble_eq_true rfl, Nat.le_of_ble_eq_true rfl⟩) hS (fun σ7 H locs eσ7 hP hD hS => ?_)
      refine lv_iload hx hb dX2_addDecimal_108 (lv_at hl 2 rfl) ?_
      exact retC_i hx hb hr hlocks (by subst eσ7; subst ev6; subst ev4; subst ex1; exact rfl) hP hD hS dX2_addDecimal_110
    · intro J
      refine lv_icmp_ne (tgt := 102) hx hb dX2_addDecimal_95 (by decide) (fun c5 => ?_) (fun c5 => ?_)
      · refine lv_iconst (v := 0) hx hb dX2_addDecimal_102 (by decide) ?_
        exact J (0) ls _ _ (by exact (if_neg c5).symm) (lv_sub hl [0, 1, 2, 3, 4, 5, 6] rfl) hP hD hS
      · refine lv_iconst (v := 1) hx hb dX2_addDecimal_98 (by decide) ?_
        refine lv_goto (tgt := 103) hx hb dX2_addDecimal_99 (by decide) ?_
        exact J (1) ls _ _ (by exact (if_pos c5).symm) (lv_sub hl [0, 1, 2, 3, 4, 5, 6] rfl) hP hD hS
  · intro J
    refine lv_if_eq (tgt := 89) hx hb dX2_addDecimal_27 (by decide) (fun c3 => ?_) (fun c3 => ?_)
    · exact J ((0, x1, 0)) ls _ _ (by exact (if_pos c3).symm) (lv_sub hl [0, 1, 2, 3, 4, 5, 6] rfl) hP hD hS
    · refine lv_iload_n hx hb dX2_addDecimal_30 rfl (lv_at hl 4 rfl) ?_
      refine lv_iload hx hb dX2_addDecimal_31 (lv_at hl 0 rfl) ?_
      refine lv_ishr hx hb dX2_addDecimal_33 ?_
      refine lv_bipush (v := 15) hx hb dX2_addDecimal_34 (by decide) ?_
      refine lv_iand hx hb dX2_addDecimal_36 ?_
      refine lv_iload_n hx hb dX2_addDecimal_37 rfl (lv_at hl 5 rfl) ?_
      refine lv_iload hx hb dX2_addDecimal_38 (lv_at hl 0 rfl) ?_
      refine lv_ishr hx hb dX2_addDecimal_40 ?_
      refine lv_bipush (v := 15) hx hb dX2_addDecimal_41 (by decide) ?_
      refine lv_iand hx hb dX2_addDecimal_43 ?_
      refine lv_iadd hx hb dX2_addDecimal_44 ?_
      refine lv_iload hx hb dX2_addDecimal_45 (lv_at hl 1 rfl) ?_
      refine lv_iadd hx hb dX2_addDecimal_47 ?_
      refine lv_topi (fun x8 ex8 => ?_)
      refine lv_istore (lv' := [(7, .int x8), (6, .int 0), (5, .int x1), (4, .int 0), (0, .ref (h 0)), (1, .int a1), (2, .int a2), (3, .int a3)]) hx hb dX2_addDecimal_48 hl (by decide) rfl (fun ls hl => ?_)
      refine lv_iload hx hb dX2_addDecimal_50 (lv_at hl 0 rfl) ?_
      refine lv_bipush (v := 9) hx hb dX2_addDecimal_52 (by decide) ?_
      refine wj (α := Int32) (D := (dC, dI)) (cl := vwCl) (A := AX 5 h s.heap.size) (H0 := s.heap) (if x8 ≤ 9 then 0 else 1) (fun v10 => wsC h k σ) (fun v10 => [(7, .int x8), (6, .int 0), (5, .int x1), (4, .int 0), (0, .ref (h 0)), (1, .int a1), (2, .int a2), (3, .int a3)]) 8 (fun v10 ls => F0 m 62 ls [.int v10]) ?_ ?_
      · intro v10 ls H locs ev10 hl hP hD hS
        try dsimp only at hl hP hD ⊢
        refine lv_istore (lv' := [(5, .int v10), (7, .int x8), (6, .int 0), (4, .int 0), (0, .ref (h 0)), (1, .int a1), (2, .int a2), (3, .int a3)]) hx hb dX2_addDecimal_62 hl (by decide) rfl (fun ls hl => ?_)
        refine lv_iload hx hb dX2_addDecimal_64 (lv_at hl 3 rfl) ?_
        refine lv_iload hx hb dX2_addDecimal_66 (lv_at hl 1 rfl) ?_
        refine lv_bipush (v := 10) hx hb dX2_addDecimal_68 (by decide) ?_
        refine lv_iload hx hb dX2_addDecimal_70 (lv_at hl 0 rfl) ?_
        refine lv_imul hx hb dX2_addDecimal_72 ?_
        refine lv_isub hx hb dX2_addDecimal_73 ?_
        refine lv_bipush (v := 15) hx hb dX2_addDecimal_74 (by decide) ?_
        refine lv_iand hx hb dX2_addDecimal_76 ?_
        refine lv_iload hx hb dX2_addDecimal_77 (lv_at hl 2 rfl) ?_
        refine lv_ishl hx hb dX2_addDecimal_79 ?_
        refine lv_ior hx hb dX2_addDecimal_80 ?_
        refine lv_topi (fun x11 ex11 => ?_)
        refine lv_istore (lv' := [(4, .int x11), (5, .int v10), (7, .int x8), (6, .int 0), (0, .ref (h 0)), (1, .int a1), (2, .int a2), (3, .int a3)]) hx hb dX2_addDecimal_81 hl (by decide) rfl (fun ls hl => ?_)
        -- iinc
        refine lv_iinc (v := 4) (lv' := [(6, .int 4), (4, .int x11), (5, .int v10), (7, .int x8), (0, .ref (h 0)), (1, .int a1), (2, .int a2), (3, .int a3)]) hx hb dX2_addDecimal_83 hl (k := 3) rfl (by decide) (by decide) rfl (fun ls hl => ?_)
        refine lv_goto (tgt := 16) hx hb dX2_addDecimal_86 (by decide) ?_
        refine lv_iload hx hb dX2_addDecimal_16 (lv_at hl 0 rfl) ?_
        refine lv_bipush (v := 16) hx hb dX2_addDecimal_18 (by decide) ?_
        refine lv_icmp_ge (tgt := 89) hx hb dX2_addDecimal_20 (by decide) (fun c12 => absurd c12 (by decide)) (fun _ => ?_)
        refine lv_iload_n hx hb dX2_addDecimal_23 rfl (lv_at hl 7 rfl) ?_
        refine lv_iload hx hb dX2_addDecimal_24 (lv_at hl 0 rfl) ?_
        refine lv_ishr hx hb dX2_addDecimal_26 ?_
        refine lv_if_eq (tgt := 89) hx hb dX2_addDecimal_27 (by decide) (fun c13 => ?_) (fun c13 => ?_)
        · exact J ((4, v10, x11)) ls _ _ (by subst ex11; subst ev10; subst ex8; exact ((if_neg c3).trans (if_pos c13)).symm) (lv_sub hl [0, 2, 1, 4, 5, 6, 7] rfl) hP hD hS
        · refine lv_iload_n hx hb dX2_addDecimal_30 rfl (lv_at hl 5 rfl) ?_
          refine lv_iload hx hb dX2_addDecimal_31 (lv_at hl 0 rfl) ?_
          refine lv_ishr hx hb dX2_addDecimal_33 ?_
          refine lv_bipush (v := 15) hx hb dX2_addDecimal_34 (by decide) ?_
          refine lv_iand hx hb dX2_addDecimal_36 ?_
          refine lv_iload_n hx hb dX2_addDecimal_37 rfl (lv_at hl 6 rfl) ?_
          refine lv_iload hx hb dX2_addDecimal_38 (lv_at hl 0 rfl) ?_
          refine lv_ishr hx hb dX2_addDecimal_40 ?_
          refine lv_bipush (v := 15) hx hb dX2_addDecimal_41 (by decide) ?_
          refine lv_iand hx hb dX2_addDecimal_43 ?_
          refine lv_iadd hx hb dX2_addDecimal_44 ?_
          refine lv_iload hx hb dX2_addDecimal_45 (lv_at hl 2 rfl) ?_
          refine lv_iadd hx hb dX2_addDecimal_47 ?_
          refine lv_topi (fun x14 ex14 => ?_)
          refine lv_istore (lv' := [(7, .int x14), (6, .int 4), (4, .int x11), (5, .int v10), (0, .ref (h 0)), (1, .int a1), (2, .int a2), (3, .int a3)]) hx hb dX2_addDecimal_48 hl (by decide) rfl (fun ls hl => ?_)
          refine lv_iload hx hb dX2_addDecimal_50 (lv_at hl 0 rfl) ?_
          refine lv_bipush (v := 9) hx hb dX2_addDecimal_52 (by decide) ?_
          refine wj (α := Int32) (D := (dC, dI)) (cl := vwCl) (A := AX 5 h s.heap.size) (H0 := s.heap) (if x14 ≤ 9 then 0 else 1) (fun v16 => wsC h k σ) (fun v16 => [(7, .int x14), (6, .int 4), (4, .int x11), (5, .int v10), (0, .ref (h 0)), (1, .int a1), (2, .int a2), (3, .int a3)]) 8 (fun v16 ls => F0 m 62 ls [.int v16]) ?_ ?_
          · intro v16 ls H locs ev16 hl hP hD hS
            try dsimp only at hl hP hD ⊢
            refine lv_istore (lv' := [(5, .int v16), (7, .int x14), (6, .int 4), (4, .int x11), (0, .ref (h 0)), (1, .int a1), (2, .int a2), (3, .int a3)]) hx hb dX2_addDecimal_62 hl (by decide) rfl (fun ls hl => ?_)
            refine lv_iload hx hb dX2_addDecimal_64 (lv_at hl 3 rfl) ?_
            refine lv_iload hx hb dX2_addDecimal_66 (lv_at hl 1 rfl) ?_
            refine lv_bipush (v := 10) hx hb dX2_addDecimal_68 (by decide) ?_
            refine lv_iload hx hb dX2_addDecimal_70 (lv_at hl 0 rfl) ?_
            refine lv_imul hx hb dX2_addDecimal_72 ?_
            refine lv_isub hx hb dX2_addDecimal_73 ?_
            refine lv_bipush (v := 15) hx hb dX2_addDecimal_74 (by decide) ?_
            refine lv_iand hx hb dX2_addDecimal_76 ?_
            refine lv_iload hx hb dX2_addDecimal_77 (lv_at hl 2 rfl) ?_
            refine lv_ishl hx hb dX2_addDecimal_79 ?_
            refine lv_ior hx hb dX2_addDecimal_80 ?_
            refine lv_topi (fun x17 ex17 => ?_)
            refine lv_istore (lv' := [(4, .int x17), (5, .int v16), (7, .int x14), (6, .int 4), (0, .ref (h 0)), (1, .int a1), (2, .int a2), (3, .int a3)]) hx hb dX2_addDecimal_81 hl (by decide) rfl (fun ls hl => ?_)
            -- iinc
            refine lv_iinc (v := 8) (lv' := [(6, .int 8), (4, .int x17), (5, .int v16), (7, .int x14), (0, .ref (h 0)), (1, .int a1), (2, .int a2), (3, .int a3)]) hx hb dX2_addDecimal_83 hl (k := 3) rfl (by decide) (by decide) rfl (fun ls hl => ?_)
            refine lv_goto (tgt := 16) hx hb dX2_addDecimal_86 (by decide) ?_
            refine lv_iload hx hb dX2_addDecimal_16 (lv_at hl 0 rfl) ?_
            refine lv_bipush (v := 16) hx hb dX2_addDecimal_18 (by decide) ?_
            refine lv_icmp_ge (tgt := 89) hx hb dX2_addDecimal_20 (by decide) (fun c18 => absurd c18 (by decide)) (fun _ => ?_)
            refine lv_iload_n hx hb dX2_addDecimal_23 rfl (lv_at hl 7 rfl) ?_
            refine lv_iload hx hb dX2_addDecimal_24 (lv_at hl 0 rfl) ?_
            refine lv_ishr hx hb dX2_addDecimal_26 ?_
            refine lv_if_eq (tgt := 89) hx hb dX2_addDecimal_27 (by decide) (fun c19 => ?_) (fun c19 => ?_)
            · exact J ((8, v16, x17)) ls _ _ (by subst ex17; subst ev16; subst ex14; subst ex11; subst ev10; subst ex8; exact ((if_neg c3).trans ((if_neg c13).trans (if_pos c19))).symm) (lv_sub hl [0, 2, 1, 4, 5, 6, 7] rfl) hP hD hS
            · refine lv_iload_n hx hb dX2_addDecimal_30 rfl (lv_at hl 5 rfl) ?_
              refine lv_iload hx hb dX2_addDecimal_31 (lv_at hl 0 rfl) ?_
              refine lv_ishr hx hb dX2_addDecimal_33 ?_
              refine lv_bipush (v := 15) hx hb dX2_addDecimal_34 (by decide) ?_
              refine lv_iand hx hb dX2_addDecimal_36 ?_
              refine lv_iload_n hx hb dX2_addDecimal_37 rfl (lv_at hl 6 rfl) ?_
              refine lv_iload hx hb dX2_addDecimal_38 (lv_at hl 0 rfl) ?_
              refine lv_ishr hx hb dX2_addDecimal_40 ?_
              refine lv_bipush (v := 15) hx hb dX2_addDecimal_41 (by decide) ?_
              refine lv_iand hx hb dX2_addDecimal_43 ?_
              refine lv_iadd hx hb dX2_addDecimal_44 ?_
              refine lv_iload hx hb dX2_addDecimal_45 (lv_at hl 2 rfl) ?_
              refine lv_iadd hx hb dX2_addDecimal_47 ?_
              refine lv_topi (fun x20 ex20 => ?_)
              refine lv_istore (lv' := [(7, .int x20), (6, .int 8), (4, .int x17), (5, .int v16), (0, .ref (h 0)), (1, .int a1), (2, .int a2), (3, .int a3)]) hx hb dX2_addDecimal_48 hl (by decide) rfl (fun ls hl => ?_)
              refine lv_iload hx hb dX2_addDecimal_50 (lv_at hl 0 rfl) ?_
              refine lv_bipush (v := 9) hx hb dX2_addDecimal_52 (by decide) ?_
              refine wj (α := Int32) (D := (dC, dI)) (cl := vwCl) (A := AX 5 h s.heap.size) (H0 := s.heap) (if x20 ≤ 9 then 0 else 1) (fun v22 => wsC h k σ) (fun v22 => [(7, .int x20), (6, .int 8), (4, .int x17), (5, .int v16), (0, .ref (h 0)), (1, .int a1), (2, .int a2), (3, .int a3)]) 8 (fun v22 ls => F0 m 62 ls [.int v22]) ?_ ?_
              · intro v22 ls H locs ev22 hl hP hD hS
                try dsimp only at hl hP hD ⊢
                refine lv_istore (lv' := [(5, .int v22), (7, .int x20), (6, .int 8), (4, .int x17), (0, .ref (h 0)), (1, .int a1), (2, .int a2), (3, .int a3)]) hx hb dX2_addDecimal_62 hl (by decide) rfl (fun ls hl => ?_)
                refine lv_iload hx hb dX2_addDecimal_64 (lv_at hl 3 rfl) ?_
                refine lv_iload hx hb dX2_addDecimal_66 (lv_at hl 1 rfl) ?_
                refine lv_bipush (v := 10) hx hb dX2_addDecimal_68 (by decide) ?_
                refine lv_iload hx hb dX2_addDecimal_70 (lv_at hl 0 rfl) ?_
                refine lv_imul hx hb dX2_addDecimal_72 ?_
                refine lv_isub hx hb dX2_addDecimal_73 ?_
                refine lv_bipush (v := 15) hx hb dX2_addDecimal_74 (by decide) ?_
                refine lv_iand hx hb dX2_addDecimal_76 ?_
                refine lv_iload hx hb dX2_addDecimal_77 (lv_at hl 2 rfl) ?_
                refine lv_ishl hx hb dX2_addDecimal_79 ?_
                refine lv_ior hx hb dX2_addDecimal_80 ?_
                refine lv_topi (fun x23 ex23 => ?_)
                refine lv_istore (lv' := [(4, .int x23), (5, .int v22), (7, .int x20), (6, .int 8), (0, .ref (h 0)), (1, .int a1), (2, .int a2), (3, .int a3)]) hx hb dX2_addDecimal_81 hl (by decide) rfl (fun ls hl => ?_)
                -- iinc
                refine lv_iinc (v := 12) (lv' := [(6, .int 12), (4, .int x23), (5, .int v22), (7, .int x20), (0, .ref (h 0)), (1, .int a1), (2, .int a2), (3, .int a3)]) hx hb dX2_addDecimal_83 hl (k := 3) rfl (by decide) (by decide) rfl (fun ls hl => ?_)
                refine lv_goto (tgt := 16) hx hb dX2_addDecimal_86 (by decide) ?_
                refine lv_iload hx hb dX2_addDecimal_16 (lv_at hl 0 rfl) ?_
                refine lv_bipush (v := 16) hx hb dX2_addDecimal_18 (by decide) ?_
                refine lv_icmp_ge (tgt := 89) hx hb dX2_addDecimal_20 (by decide) (fun c24 => absurd c24 (by decide)) (fun _ => ?_)
                refine lv_iload_n hx hb dX2_addDecimal_23 rfl (lv_at hl 7 rfl) ?_
                refine lv_iload hx hb dX2_addDecimal_24 (lv_at hl 0 rfl) ?_
                refine lv_ishr hx hb dX2_addDecimal_26 ?_
                refine lv_if_eq (tgt := 89) hx hb dX2_addDecimal_27 (by decide) (fun c25 => ?_) (fun c25 => ?_)
                · exact J ((12, v22, x23)) ls _ _ (by subst ex23; subst ev22; subst ex20; subst ex17; subst ev16; subst ex14; subst ex11; subst ev10; subst ex8; exact ((if_neg c3).trans ((if_neg c13).trans ((if_neg c19).trans (if_pos c25)))).symm) (lv_sub hl [0, 2, 1, 4, 5, 6, 7] rfl) hP hD hS
                · refine lv_iload_n hx hb dX2_addDecimal_30 rfl (lv_at hl 5 rfl) ?_
                  refine lv_iload hx hb dX2_addDecimal_31 (lv_at hl 0 rfl) ?_
                  refine lv_ishr hx hb dX2_addDecimal_33 ?_
                  refine lv_bipush (v := 15) hx hb dX2_addDecimal_34 (by decide) ?_
                  refine lv_iand hx hb dX2_addDecimal_36 ?_
                  refine lv_iload_n hx hb dX2_addDecimal_37 rfl (lv_at hl 6 rfl) ?_
                  refine lv_iload hx hb dX2_addDecimal_38 (lv_at hl 0 rfl) ?_
                  refine lv_ishr hx hb dX2_addDecimal_40 ?_
                  refine lv_bipush (v := 15) hx hb dX2_addDecimal_41 (by decide) ?_
                  refine lv_iand hx hb dX2_addDecimal_43 ?_
                  refine lv_iadd hx hb dX2_addDecimal_44 ?_
                  refine lv_iload hx hb dX2_addDecimal_45 (lv_at hl 2 rfl) ?_
                  refine lv_iadd hx hb dX2_addDecimal_47 ?_
                  refine lv_topi (fun x26 ex26 => ?_)
                  refine lv_istore (lv' := [(7, .int x26), (6, .int 12), (4, .int x23), (5, .int v22), (0, .ref (h 0)), (1, .int a1), (2, .int a2), (3, .int a3)]) hx hb dX2_addDecimal_48 hl (by decide) rfl (fun ls hl => ?_)
                  refine lv_iload hx hb dX2_addDecimal_50 (lv_at hl 0 rfl) ?_
                  refine lv_bipush (v := 9) hx hb dX2_addDecimal_52 (by decide) ?_
                  refine wj (α := Int32) (D := (dC, dI)) (cl := vwCl) (A := AX 5 h s.heap.size) (H0 := s.heap) (if x26 ≤ 9 then 0 else 1) (fun v28 => wsC h k σ) (fun v28 => [(7, .int x26), (6, .int 12), (4, .int x23), (5, .int v22), (0, .ref (h 0)), (1, .int a1), (2, .int a2), (3, .int a3)]) 8 (fun v28 ls => F0 m 62 ls [.int v28]) ?_ ?_
                  · intro v28 ls H locs ev28 hl hP hD hS
                    try dsimp only at hl hP hD ⊢
                    refine lv_istore (lv' := [(5, .int v28), (7, .int x26), (6, .int 12), (4, .int x23), (0, .ref (h 0)), (1, .int a1), (2, .int a2), (3, .int a3)]) hx hb dX2_addDecimal_62 hl (by decide) rfl (fun ls hl => ?_)
                    refine lv_iload hx hb dX2_addDecimal_64 (lv_at hl 3 rfl) ?_
                    refine lv_iload hx hb dX2_addDecimal_66 (lv_at hl 1 rfl) ?_
                    refine lv_bipush (v := 10) hx hb dX2_addDecimal_68 (by decide) ?_
                    refine lv_iload hx hb dX2_addDecimal_70 (lv_at hl 0 rfl) ?_
                    refine lv_imul hx hb dX2_addDecimal_72 ?_
                    refine lv_isub hx hb dX2_addDecimal_73 ?_
                    refine lv_bipush (v := 15) hx hb dX2_addDecimal_74 (by decide) ?_
                    refine lv_iand hx hb dX2_addDecimal_76 ?_
                    refine lv_iload hx hb dX2_addDecimal_77 (lv_at hl 2 rfl) ?_
                    refine lv_ishl hx hb dX2_addDecimal_79 ?_
                    refine lv_ior hx hb dX2_addDecimal_80 ?_
                    refine lv_topi (fun x29 ex29 => ?_)
                    refine lv_istore (lv' := [(4, .int x29), (5, .int v28), (7, .int x26), (6, .int 12), (0, .ref (h 0)), (1, .int a1), (2, .int a2), (3, .int a3)]) hx hb dX2_addDecimal_81 hl (by decide) rfl (fun ls hl => ?_)
                    -- iinc
                    refine lv_iinc (v := 16) (lv' := [(6, .int 16), (4, .int x29), (5, .int v28), (7, .int x26), (0, .ref (h 0)), (1, .int a1), (2, .int a2), (3, .int a3)]) hx hb dX2_addDecimal_83 hl (k := 3) rfl (by decide) (by decide) rfl (fun ls hl => ?_)
                    refine lv_goto (tgt := 16) hx hb dX2_addDecimal_86 (by decide) ?_
                    refine lv_iload hx hb dX2_addDecimal_16 (lv_at hl 0 rfl) ?_
                    refine lv_bipush (v := 16) hx hb dX2_addDecimal_18 (by decide) ?_
                    refine lv_icmp_ge (tgt := 89) hx hb dX2_addDecimal_20 (by decide) (fun _ => ?_) (fun c30 => absurd c30 (by decide))
                    exact J ((16, v28, x29)) ls _ _ (by subst ex29; subst ev28; subst ex26; subst ex23; subst ev22; subst ex20; subst ex17; subst ev16; subst ex14; subst ex11; subst ev10; subst ex8; exact ((if_neg c3).trans ((if_neg c13).trans ((if_neg c19).trans (if_neg c25)))).symm) (lv_sub hl [0, 2, 1, 4, 5, 6, 7] rfl) hP hD hS
                  · intro J
                    refine lv_icmp_le (tgt := 61) hx hb dX2_addDecimal_54 (by decide) (fun c27 => ?_) (fun c27 => ?_)
                    · refine lv_iconst (v := 0) hx hb dX2_addDecimal_61 (by decide) ?_
                      exact J (0) ls _ _ (by exact (if_pos c27).symm) (lv_sub hl [0, 1, 2, 3, 4, 5, 6, 7] rfl) hP hD hS
                    · refine lv_iconst (v := 1) hx hb dX2_addDecimal_57 (by decide) ?_
                      refine lv_goto (tgt := 62) hx hb dX2_addDecimal_58 (by decide) ?_
                      exact J (1) ls _ _ (by exact (if_neg c27).symm) (lv_sub hl [0, 1, 2, 3, 4, 5, 6, 7] rfl) hP hD hS
              · intro J
                refine lv_icmp_le (tgt := 61) hx hb dX2_addDecimal_54 (by decide) (fun c21 => ?_) (fun c21 => ?_)
                · refine lv_iconst (v := 0) hx hb dX2_addDecimal_61 (by decide) ?_
                  exact J (0) ls _ _ (by exact (if_pos c21).symm) (lv_sub hl [0, 1, 2, 3, 4, 5, 6, 7] rfl) hP hD hS
                · refine lv_iconst (v := 1) hx hb dX2_addDecimal_57 (by decide) ?_
                  refine lv_goto (tgt := 62) hx hb dX2_addDecimal_58 (by decide) ?_
                  exact J (1) ls _ _ (by exact (if_neg c21).symm) (lv_sub hl [0, 1, 2, 3, 4, 5, 6, 7] rfl) hP hD hS
          · intro J
            refine lv_icmp_le (tgt := 61) hx hb dX2_addDecimal_54 (by decide) (fun c15 => ?_) (fun c15 => ?_)
            · refine lv_iconst (v := 0) hx hb dX2_addDecimal_61 (by decide) ?_
              exact J (0) ls _ _ (by exact (if_pos c15).symm) (lv_sub hl [0, 1, 2, 3, 4, 5, 6, 7] rfl) hP hD hS
            · refine lv_iconst (v := 1) hx hb dX2_addDecimal_57 (by decide) ?_
              refine lv_goto (tgt := 62) hx hb dX2_addDecimal_58 (by decide) ?_
              exact J (1) ls _ _ (by exact (if_neg c15).symm) (lv_sub hl [0, 1, 2, 3, 4, 5, 6, 7] rfl) hP hD hS
      · intro J
        refine lv_icmp_le (tgt := 61) hx hb dX2_addDecimal_54 (by decide) (fun c9 => ?_) (fun c9 => ?_)
        · refine lv_iconst (v := 0) hx hb dX2_addDecimal_61 (by decide) ?_
          exact J (0) ls _ _ (by exact (if_pos c9).symm) (lv_sub hl [0, 1, 2, 3, 4, 5, 6, 7] rfl) hP hD hS
        · refine lv_iconst (v := 1) hx hb dX2_addDecimal_57 (by decide) ?_
          refine lv_goto (tgt := 62) hx hb dX2_addDecimal_58 (by decide) ?_
          exact J (1) ls _ _ (by exact (if_neg c9).symm) (lv_sub hl [0, 1, 2, 3, 4, 5, 6, 7] rfl) hP hD hS

set_option maxHeartbeats 4000000 in
set_option maxRecDepth 100000 in
theorem c_X2_combine (l : Launch) (dC : Nat → ClassId) (dI : Nat → Nat → Nat) (h : Nat → Nat) (k : Nat → ClassId) (g : Nat → Nat) (sz : Nat) (σ : StC) (a1 : Int32) (a2 : Int32) (a3 : Int32) (a4 : Int32) : Met l yX2_combine wsX2_combine ({ frames := 3, cells := 0, slots := 0, locals := 74 }) (PcC (dC, dI) h k g [.ref (h 0), .int a1, .int a2, .int a3, .int a4] sz σ) (va_Qi (fun r u => (r, u) = (f_X2_combine σ a1 a2 a3 a4)) (BC (dC, dI) h k (AX 5 h sz)) (AX 5 h sz)) 0 0 (AX 5 h sz) := by
  refine Met.ofW (cc := cX2_combine) (maxL := 6) (ret := (some .int)) (by decide) rfl ?_
  intro p e s m args below meth c s₁ B hml hv
  obtain ⟨rfl, rfl, hP, hct, hD⟩ := hv
  have hx := B.exec
  have hb := B.bytes
  have hr := B.returns
  have hts := atoms_spec (ws := wsX2_combine) B.pre
  have hown : s.vm.findClass RX2 = some m.cls := findClass_of_methodNamed B.named
  have hlocks := B.notSynchronized
  have hK := hct.1
  have hN := hct.2.1
  have hS : va_S (AX 5 h s.heap.size) s.heap s.heap [] := va_S.rf
  have hl := lv_entry ([.ref (h 0), .int a1, .int a2, .int a3, .int a4]) (n := 6) (Nat.le_of_ble_eq_true rfl)
  rw [lg_entry_eq]
  generalize (lg_sl ([.ref (h 0), .int a1, .int a2, .int a3, .int a4]) ++ List.replicate (6 - (lg_sl ([.ref (h 0), .int a1, .int a2, .int a3, .int a4])).length) Slot.unset).toArray = ls at hl ⊢
  have hl : lv_has ls 6 [(0, .ref (h 0)), (1, .int a1), (2, .int a2), (3, .int a3), (4, .int a4)] := hl
  refine lv_iload hx hb dX2_combine_0 (lv_at hl 4 rfl) ?_
  refine wj (α := Int32) (D := (dC, dI)) (cl := vwCl) (A := AX 5 h s.heap.size) (H0 := s.heap) (if a4 = 0 then 65535 else 255) (fun v2 => wsC h k σ) (fun v2 => [(0, .ref (h 0)), (1, .int a1), (2, .int a2), (3, .int a3), (4, .int a4)]) 6 (fun v2 ls => F0 m 13 ls [.int v2]) ?_ ?_
  · intro v2 ls H locs ev2 hl hP hD hS
    try dsimp only at hl hP hD ⊢
    refine lv_istore (lv' := [(5, .int v2), (0, .ref (h 0)), (1, .int a1), (2, .int a2), (3, .int a3), (4, .int a4)]) hx hb dX2_combine_13 hl (by decide) rfl (fun ls hl => ?_)
    refine lv_iload_n hx hb dX2_combine_15 rfl (lv_at hl 2 rfl) ?_
    rcases Classical.em (a1 = 4) with c3 | c3
    · refine lv_tableIn (tgt := 76) hx hb dX2_combine_16 (by rw [c3]; decide) (by rw [c3]; decide) (by rw [c3]; rfl) (by decide) ?_
      refine lv_iload_n hx hb dX2_combine_76 rfl (lv_at hl 3 rfl) ?_
      exact retC_i hx hb hr hlocks (by subst ev2; exact if_pos c3) hP hD hS dX2_combine_77
    · skip
      rcases Classical.em (a1 = 5) with c4 | c4
      · refine lv_tableIn (tgt := 78) hx hb dX2_combine_16 (by rw [c4]; decide) (by rw [c4]; decide) (by rw [c4]; rfl) (by decide) ?_
        refine lv_aload_n hx hb dX2_combine_78 rfl (lv_at hl 1 rfl) ?_
        refine lv_iload_n hx hb dX2_combine_79 rfl (lv_at hl 3 rfl) ?_
        refine lv_iload_n hx hb dX2_combine_80 rfl (lv_at hl 4 rfl) ?_
        refine lv_iconst (v := 0) hx hb dX2_combine_81 (by decide) ?_
        refine lv_iload hx hb dX2_combine_82 (lv_at hl 0 rfl) ?_
        refine callC_i (va_runV (As := [.int a2, .int a3, .int 0, .int v2]) (rest := []) ⟨hx, hb, hml, hown, hts⟩ (c_X2_add l dC dI h k g _ σ a2 a3 0 v2) (cwV 4 hts gX2_combine_X2_add rfl rfl rfl (by decide +kernel) ⟨Nat.le_of_ble_eq_true rfl, Nat.le_of_ble_eq_true rfl⟩) (preC_V (ci := 2) (q0 := 0) hct hP hD hS rfl rfl) rfl rfl hl.1 rfl (lv_room (Nat.le_of_ble_eq_true rfl)) dX2_combine_84 ⟨Nat.le_of_ble_eq_true rfl, Nat.le_of_ble_eq_true rfl⟩) hS (fun x5 σ6 H locs ex5 eσ6 hP hD hS => ?_)
        exact retC_i hx hb hr hlocks (by subst eσ6; subst ex5; subst ev2; exact (if_neg c3).trans (if_pos c4)) hP hD hS dX2_combine_87
      · skip
        rcases Classical.em (a1 = 6) with c7 | c7
        · refine lv_tableIn (tgt := 88) hx hb dX2_combine_16 (by rw [c7]; decide) (by rw [c7]; decide) (by rw [c7]; rfl) (by decide) ?_
          refine lv_aload_n hx hb dX2_combine_88 rfl (lv_at hl 1 rfl) ?_
          refine lv_iload_n hx hb dX2_combine_89 rfl (lv_at hl 3 rfl) ?_
          refine lv_iload_n hx hb dX2_combine_90 rfl (lv_at hl 4 rfl) ?_
          refine lv_aload_n hx hb dX2_combine_91 rfl (lv_at hl 1 rfl) ?_
          refine va_get (D := (dC, dI)) (ci := 2) (v := .ref (h 2)) (C := RX2) (T := TX2) (N := 4) hx hb hts (fun _ h9 => List.mem_cons_of_mem _ (List.mem_append_right _ h9)) hown hK hP 0 rfl rfl 1 (by decide) (hts (.fieldLink RX2 16 "LowPowerCpu" "registers" "[I") (by decide +kernel)) (fun _ h9 => h9) rfl dX2_combine_92 ?_
          refine lv_iconst (v := 2) hx hb dX2_combine_95 (by decide) ?_
          refine va_iald hx hb hK hP 2 0 rfl rfl (in_c (by decide)) dX2_combine_96 ?_
          refine lv_iconst (v := 1) hx hb dX2_combine_97 (by decide) ?_
          refine lv_iand hx hb dX2_combine_98 ?_
          refine lv_iload hx hb dX2_combine_99 (lv_at hl 0 rfl) ?_
          refine callC_i (va_runV (As := [.int a2, .int a3, .int ((σ.1 (2 : Int32).toNatClampNeg) &&& (1 : Int32)), .int v2]) (rest := []) ⟨hx, hb, hml, hown, hts⟩ (c_X2_add l dC dI h k g _ σ a2 a3 ((σ.1 (2 : Int32).toNatClampNeg) &&& (1 : Int32)) v2) (cwV 4 hts gX2_combine_X2_add rfl rfl rfl (by decide +kernel) ⟨Nat.le_of_ble_eq_true rfl, Nat.le_of_ble_eq_true rfl⟩) (preC_V (ci := 2) (q0 := 0) hct hP hD hS rfl rfl) rfl rfl hl.1 rfl (lv_room (Nat.le_of_ble_eq_true rfl)) dX2_combine_101 ⟨Nat.le_of_ble_eq_true rfl, Nat.le_of_ble_eq_true rfl⟩) hS (fun x8 σ9 H locs ex8 eσ9 hP hD hS => ?_)
          exact retC_i hx hb hr hlocks (by subst eσ9; subst ex8; subst ev2; exact (if_neg c3).trans ((if_neg c4).trans (if_pos c7))) hP hD hS dX2_combine_104
        · skip
          rcases Classical.em (a1 = 7) with c10 | c10
          · refine lv_tableIn (tgt := 105) hx hb dX2_combine_16 (by rw [c10]; decide) (by rw [c10]; decide) (by rw [c10]; rfl) (by decide) ?_
            refine lv_aload_n hx hb dX2_combine_105 rfl (lv_at hl 1 rfl) ?_
            refine lv_iload_n hx hb dX2_combine_106 rfl (lv_at hl 3 rfl) ?_
            refine lv_iload hx hb dX2_combine_107 (lv_at hl 0 rfl) ?_
            refine lv_ixor hx hb dX2_combine_109 ?_
            refine lv_iload_n hx hb dX2_combine_110 rfl (lv_at hl 4 rfl) ?_
            refine lv_aload_n hx hb dX2_combine_111 rfl (lv_at hl 1 rfl) ?_
            refine va_get (D := (dC, dI)) (ci := 2) (v := .ref (h 2)) (C := RX2) (T := TX2) (N := 4) hx hb hts (fun _ h9 => List.mem_cons_of_mem _ (List.mem_append_right _ h9)) hown hK hP 0 rfl rfl 1 (by decide) (hts (.fieldLink RX2 16 "LowPowerCpu" "registers" "[I") (by decide +kernel)) (fun _ h9 => h9) rfl dX2_combine_112 ?_
            refine lv_iconst (v := 2) hx hb dX2_combine_115 (by decide) ?_
            refine va_iald hx hb hK hP 2 0 rfl rfl (in_c (by decide)) dX2_combine_116 ?_
            refine lv_iconst (v := 1) hx hb dX2_combine_117 (by decide) ?_
            refine lv_iand hx hb dX2_combine_118 ?_
            refine lv_iload hx hb dX2_combine_119 (lv_at hl 0 rfl) ?_
            refine callC_i (va_runV (As := [.int (a2 ^^^ v2), .int a3, .int ((σ.1 (2 : Int32).toNatClampNeg) &&& (1 : Int32)), .int v2]) (rest := []) ⟨hx, hb, hml, hown, hts⟩ (c_X2_add l dC dI h k g _ σ (a2 ^^^ v2) a3 ((σ.1 (2 : Int32).toNatClampNeg) &&& (1 : Int32)) v2) (cwV 4 hts gX2_combine_X2_add rfl rfl rfl (by decide +kernel) ⟨Nat.le_of_ble_eq_true rfl, Nat.le_of_ble_eq_true rfl⟩) (preC_V (ci := 2) (q0 := 0) hct hP hD hS rfl rfl) rfl rfl hl.1 rfl (lv_room (Nat.le_of_ble_eq_true rfl)) dX2_combine_121 ⟨Nat.le_of_ble_eq_true rfl, Nat.le_of_ble_eq_true rfl⟩) hS (fun x11 σ12 H locs ex11 eσ12 hP hD hS => ?_)
            exact retC_i hx hb hr hlocks (by subst eσ12; subst ex11; subst ev2; exact (if_neg c3).trans ((if_neg c4).trans ((if_neg c7).trans (if_pos c10)))) hP hD hS dX2_combine_124
          · skip
            rcases Classical.em (a1 = 8) with c13 | c13
            · refine lv_tableIn (tgt := 125) hx hb dX2_combine_16 (by rw [c13]; decide) (by rw [c13]; decide) (by rw [c13]; rfl) (by decide) ?_
              refine lv_aload_n hx hb dX2_combine_125 rfl (lv_at hl 1 rfl) ?_
              refine lv_iload_n hx hb dX2_combine_126 rfl (lv_at hl 3 rfl) ?_
              refine lv_iload hx hb dX2_combine_127 (lv_at hl 0 rfl) ?_
              refine lv_ixor hx hb dX2_combine_129 ?_
              refine lv_iload_n hx hb dX2_combine_130 rfl (lv_at hl 4 rfl) ?_
              refine lv_iconst (v := 1) hx hb dX2_combine_131 (by decide) ?_
              refine lv_iload hx hb dX2_combine_132 (lv_at hl 0 rfl) ?_
              refine callC_i (va_runV (As := [.int (a2 ^^^ v2), .int a3, .int 1, .int v2]) (rest := []) ⟨hx, hb, hml, hown, hts⟩ (c_X2_add l dC dI h k g _ σ (a2 ^^^ v2) a3 1 v2) (cwV 4 hts gX2_combine_X2_add rfl rfl rfl (by decide +kernel) ⟨Nat.le_of_ble_eq_true rfl, Nat.le_of_ble_eq_true rfl⟩) (preC_V (ci := 2) (q0 := 0) hct hP hD hS rfl rfl) rfl rfl hl.1 rfl (lv_room (Nat.le_of_ble_eq_true rfl)) dX2_combine_134 ⟨Nat.le_of_ble_eq_true rfl, Nat.le_of_ble_eq_true rfl⟩) hS (fun x14 σ15 H locs ex14 eσ15 hP hD hS => ?_)
              exact retC_i hx hb hr hlocks (by subst eσ15; subst ex14; subst ev2; exact (if_neg c3).trans ((if_neg c4).trans ((if_neg c7).trans ((if_neg c10).trans (if_pos c13))))) hP hD hS dX2_combine_137
            · skip
              rcases Classical.em (a1 = 9) with c16 | c16
              · refine lv_tableIn (tgt := 125) hx hb dX2_combine_16 (by rw [c16]; decide) (by rw [c16]; decide) (by rw [c16]; rfl) (by decide) ?_
                refine lv_aload_n hx hb dX2_combine_125 rfl (lv_at hl 1 rfl) ?_
                refine lv_iload_n hx hb dX2_combine_126 rfl (lv_at hl 3 rfl) ?_
                refine lv_iload hx hb dX2_combine_127 (lv_at hl 0 rfl) ?_
                refine lv_ixor hx hb dX2_combine_129 ?_
                refine lv_iload_n hx hb dX2_combine_130 rfl (lv_at hl 4 rfl) ?_
                refine lv_iconst (v := 1) hx hb dX2_combine_131 (by decide) ?_
                refine lv_iload hx hb dX2_combine_132 (lv_at hl 0 rfl) ?_
                refine callC_i (va_runV (As := [.int (a2 ^^^ v2), .int a3, .int 1, .int v2]) (rest := []) ⟨hx, hb, hml, hown, hts⟩ (c_X2_add l dC dI h k g _ σ (a2 ^^^ v2) a3 1 v2) (cwV 4 hts gX2_combine_X2_add rfl rfl rfl (by decide +kernel) ⟨Nat.le_of_ble_eq_true rfl, Nat.le_of_ble_eq_true rfl⟩) (preC_V (ci := 2) (q0 := 0) hct hP hD hS rfl rfl) rfl rfl hl.1 rfl (lv_room (Nat.le_of_ble_eq_true rfl)) dX2_combine_134 ⟨Nat.le_of_ble_eq_true rfl, Nat.le_of_ble_eq_true rfl⟩) hS (fun x17 σ18 H locs ex17 eσ18 hP hD hS => ?_)
                exact retC_i hx hb hr hlocks (by subst eσ18; subst ex17; subst ev2; exact (if_neg c3).trans ((if_neg c4).trans ((if_neg c7).trans ((if_neg c10).trans ((if_neg c13).trans (if_pos c16)))))) hP hD hS dX2_combine_137
              · skip
                rcases Classical.em (a1 = 10) with c19 | c19
                · refine lv_tableIn (tgt := 138) hx hb dX2_combine_16 (by rw [c19]; decide) (by rw [c19]; decide) (by rw [c19]; rfl) (by decide) ?_
                  refine lv_aload_n hx hb dX2_combine_138 rfl (lv_at hl 1 rfl) ?_
                  refine lv_iload_n hx hb dX2_combine_139 rfl (lv_at hl 3 rfl) ?_
                  refine lv_iload_n hx hb dX2_combine_140 rfl (lv_at hl 4 rfl) ?_
                  refine lv_iload hx hb dX2_combine_141 (lv_at hl 0 rfl) ?_
                  refine callC_i (va_runV (As := [.int a2, .int a3, .int v2]) (rest := []) ⟨hx, hb, hml, hown, hts⟩ (c_X2_addDecimal l dC dI h k g _ σ a2 a3 v2) (cwV 3 hts gX2_combine_X2_addDecimal rfl rfl rfl (by decide +kernel) ⟨Nat.le_of_ble_eq_true rfl, Nat.le_of_ble_eq_true rfl⟩) (preC_V (ci := 2) (q0 := 0) hct hP hD hS rfl rfl) rfl rfl hl.1 rfl (lv_room (Nat.le_of_ble_eq_true rfl)) dX2_combine_143 ⟨Nat.le_of_ble_eq_true rfl, Nat.le_of_ble_eq_true rfl⟩) hS (fun x20 σ21 H locs ex20 eσ21 hP hD hS => ?_)
                  exact retC_i hx hb hr hlocks (by subst eσ21; subst ex20; subst ev2; exact (if_neg c3).trans ((if_neg c4).trans ((if_neg c7).trans ((if_neg c10).trans ((if_neg c13).trans ((if_neg c16).trans (if_pos c19))))))) hP hD hS dX2_combine_146
                · skip
                  rcases Classical.em (a1 = 11) with c22 | c22
                  · refine lv_tableIn (tgt := 175) hx hb dX2_combine_16 (by rw [c22]; decide) (by rw [c22]; decide) (by rw [c22]; rfl) (by decide) ?_
                    refine lv_aload_n hx hb dX2_combine_175 rfl (lv_at hl 1 rfl) ?_
                    refine lv_iload_n hx hb dX2_combine_176 rfl (lv_at hl 3 rfl) ?_
                    refine lv_iload_n hx hb dX2_combine_177 rfl (lv_at hl 4 rfl) ?_
                    refine lv_iand hx hb dX2_combine_178 ?_
                    refine lv_iconst (v := 0) hx hb dX2_combine_179 (by decide) ?_
                    refine lv_iload hx hb dX2_combine_180 (lv_at hl 0 rfl) ?_
                    refine callC_i (va_runV (As := [.int (a2 &&& a3), .int 0, .int v2]) (rest := []) ⟨hx, hb, hml, hown, hts⟩ (c_X2_logical l dC dI h k g _ σ (a2 &&& a3) 0 v2) (cwV 3 hts gX2_combine_X2_logical rfl rfl rfl (by decide +kernel) ⟨Nat.le_of_ble_eq_true rfl, Nat.le_of_ble_eq_true rfl⟩) (preC_V (ci := 2) (q0 := 0) hct hP hD hS rfl rfl) rfl rfl hl.1 rfl (lv_room (Nat.le_of_ble_eq_true rfl)) dX2_combine_182 ⟨Nat.le_of_ble_eq_true rfl, Nat.le_of_ble_eq_true rfl⟩) hS (fun x23 σ24 H locs ex23 eσ24 hP hD hS => ?_)
                    exact retC_i hx hb hr hlocks (by subst eσ24; subst ex23; subst ev2; exact (if_neg c3).trans ((if_neg c4).trans ((if_neg c7).trans ((if_neg c10).trans ((if_neg c13).trans ((if_neg c16).trans ((if_neg c19).trans (if_pos c22)))))))) hP hD hS dX2_combine_185
                  · skip
                    rcases Classical.em (a1 = 12) with c25 | c25
                    · refine lv_tableIn (tgt := 147) hx hb dX2_combine_16 (by rw [c25]; decide) (by rw [c25]; decide) (by rw [c25]; rfl) (by decide) ?_
                      refine lv_iload_n hx hb dX2_combine_147 rfl (lv_at hl 4 rfl) ?_
                      refine lv_iload_n hx hb dX2_combine_148 rfl (lv_at hl 3 rfl) ?_
                      refine lv_iconst (v := (-1)) hx hb dX2_combine_149 (by decide) ?_
                      refine lv_ixor hx hb dX2_combine_150 ?_
                      refine lv_iand hx hb dX2_combine_151 ?_
                      exact retC_i hx hb hr hlocks (by subst ev2; exact (if_neg c3).trans ((if_neg c4).trans ((if_neg c7).trans ((if_neg c10).trans ((if_neg c13).trans ((if_neg c16).trans ((if_neg c19).trans ((if_neg c22).trans (if_pos c25))))))))) hP hD hS dX2_combine_152
                    · skip
                      rcases Classical.em (a1 = 13) with c26 | c26
                      · refine lv_tableIn (tgt := 153) hx hb dX2_combine_16 (by rw [c26]; decide) (by rw [c26]; decide) (by rw [c26]; rfl) (by decide) ?_
                        refine lv_iload_n hx hb dX2_combine_153 rfl (lv_at hl 4 rfl) ?_
                        refine lv_iload_n hx hb dX2_combine_154 rfl (lv_at hl 3 rfl) ?_
                        refine lv_ior hx hb dX2_combine_155 ?_
                        exact retC_i hx hb hr hlocks (by subst ev2; exact (if_neg c3).trans ((if_neg c4).trans ((if_neg c7).trans ((if_neg c10).trans ((if_neg c13).trans ((if_neg c16).trans ((if_neg c19).trans ((if_neg c22).trans ((if_neg c25).trans (if_pos c26)))))))))) hP hD hS dX2_combine_156
                      · skip
                        rcases Classical.em (a1 = 14) with c27 | c27
                        · refine lv_tableIn (tgt := 157) hx hb dX2_combine_16 (by rw [c27]; decide) (by rw [c27]; decide) (by rw [c27]; rfl) (by decide) ?_
                          refine lv_aload_n hx hb dX2_combine_157 rfl (lv_at hl 1 rfl) ?_
                          refine lv_iload_n hx hb dX2_combine_158 rfl (lv_at hl 3 rfl) ?_
                          refine lv_iload_n hx hb dX2_combine_159 rfl (lv_at hl 4 rfl) ?_
                          refine lv_ixor hx hb dX2_combine_160 ?_
                          refine lv_iload_n hx hb dX2_combine_161 rfl (lv_at hl 3 rfl) ?_
                          refine lv_iload_n hx hb dX2_combine_162 rfl (lv_at hl 4 rfl) ?_
                          refine lv_iand hx hb dX2_combine_163 ?_
                          refine lv_iload hx hb dX2_combine_164 (lv_at hl 0 rfl) ?_
                          refine callC_ip (va_runS (As := [.int (a2 &&& a3), .int v2]) (rest := [.int (a2 ^^^ a3), .ref (h 0)]) ⟨hx, hb, hml, hown, hts⟩ (c_X2_isHighestSet l dC dI h k g _ σ (a2 &&& a3) v2) (va_cwS 2 hts gX2_combine_X2_isHighestSet rfl rfl rfl (by decide +kernel) ⟨Nat.le_of_ble_eq_true rfl, Nat.le_of_ble_eq_true rfl⟩) (preC_S hct hP hD hS) rfl rfl hl.1 rfl (lv_room (Nat.le_of_ble_eq_true rfl)) dX2_combine_166 ⟨Nat.le_of_ble_eq_true rfl, Nat.le_of_ble_eq_true rfl⟩) hS (fun x28 H locs ex28 hP hD hS => ?_)
                          refine lv_iload hx hb dX2_combine_169 (lv_at hl 0 rfl) ?_
                          refine callC_i (va_runV (As := [.int (a2 ^^^ a3), .int x28, .int v2]) (rest := []) ⟨hx, hb, hml, hown, hts⟩ (c_X2_logical l dC dI h k g _ σ (a2 ^^^ a3) x28 v2) (cwV 3 hts gX2_combine_X2_logical rfl rfl rfl (by decide +kernel) ⟨Nat.le_of_ble_eq_true rfl, Nat.le_of_ble_eq_true rfl⟩) (preC_V (ci := 2) (q0 := 0) hct hP hD hS rfl rfl) rfl rfl hl.1 rfl (lv_room (Nat.le_of_ble_eq_true rfl)) dX2_combine_171 ⟨Nat.le_of_ble_eq_true rfl, Nat.le_of_ble_eq_true rfl⟩) hS (fun x29 σ30 H locs ex29 eσ30 hP hD hS => ?_)
                          exact retC_i hx hb hr hlocks (by subst eσ30; subst ex29; subst ex28; subst ev2; exact (if_neg c3).trans ((if_neg c4).trans ((if_neg c7).trans ((if_neg c10).trans ((if_neg c13).trans ((if_neg c16).trans ((if_neg c19).trans ((if_neg c22).trans ((if_neg c25).trans ((if_neg c26).trans (if_pos c27))))))))))) hP hD hS dX2_combine_174
                        · skip
                          have nc3 := i32ne (n := 4) (by decide) c3
                          have nc4 := i32ne (n := 5) (by decide) c4
                          have nc7 := i32ne (n := 6) (by decide) c7
                          have nc10 := i32ne (n := 7) (by decide) c10
                          have nc13 := i32ne (n := 8) (by decide) c13
                          have nc16 := i32ne (n := 9) (by decide) c16
                          have nc19 := i32ne (n := 10) (by decide) c19
                          have nc22 := i32ne (n := 11) (by decide) c22
                          have nc25 := i32ne (n := 12) (by decide) c25
                          have nc26 := i32ne (n := 13) (by decide) c26
                          have nc27 := i32ne (n := 14) (by decide) c27
                          refine lv_tableOut (tgt := 175) hx hb dX2_combine_16 (by omega) (by decide) ?_
                          refine lv_aload_n hx hb dX2_combine_175 rfl (lv_at hl 1 rfl) ?_
                          refine lv_iload_n hx hb dX2_combine_176 rfl (lv_at hl 3 rfl) ?_
                          refine lv_iload_n hx hb dX2_combine_177 rfl (lv_at hl 4 rfl) ?_
                          refine lv_iand hx hb dX2_combine_178 ?_
                          refine lv_iconst (v := 0) hx hb dX2_combine_179 (by decide) ?_
                          refine lv_iload hx hb dX2_combine_180 (lv_at hl 0 rfl) ?_
                          refine callC_i (va_runV (As := [.int (a2 &&& a3), .int 0, .int v2]) (rest := []) ⟨hx, hb, hml, hown, hts⟩ (c_X2_logical l dC dI h k g _ σ (a2 &&& a3) 0 v2) (cwV 3 hts gX2_combine_X2_logical rfl rfl rfl (by decide +kernel) ⟨Nat.le_of_ble_eq_true rfl, Nat.le_of_ble_eq_true rfl⟩) (preC_V (ci := 2) (q0 := 0) hct hP hD hS rfl rfl) rfl rfl hl.1 rfl (lv_room (Nat.le_of_ble_eq_true rfl)) dX2_combine_182 ⟨Nat.le_of_ble_eq_true rfl, Nat.le_of_ble_eq_true rfl⟩) hS (fun x31 σ32 H locs ex31 eσ32 hP hD hS => ?_)
                          exact retC_i hx hb hr hlocks (by subst eσ32; subst ex31; subst ev2; exact (if_neg c3).trans ((if_neg c4).trans ((if_neg c7).trans ((if_neg c10).trans ((if_neg c13).trans ((if_neg c16).trans ((if_neg c19).trans ((if_neg c22).trans ((if_neg c25).trans ((if_neg c26).trans (if_neg c27))))))))))) hP hD hS dX2_combine_185
  · intro J
    refine lv_if_eq (tgt := 11) hx hb dX2_combine_2 (by decide) (fun c1 => ?_) (fun c1 => ?_)
    · refine lv_ldc (v := 65535) hx hb hown (hts (.constant RX2 149 65535) (by decide +kernel)) dX2_combine_11 ?_
      exact J (65535) ls _ _ (by exact (if_pos c1).symm) (lv_sub hl [0, 1, 2, 3, 4] rfl) hP hD hS
    · refine lv_sipush (v := 255) hx hb dX2_combine_5 (by decide) ?_
      refine lv_goto (tgt := 13) hx hb dX2_combine_8 (by decide) ?_
      exact J (255) ls _ _ (by exact (if_neg c1).symm) (lv_sub hl [0, 1, 2, 3, 4] rfl) hP hD hS
