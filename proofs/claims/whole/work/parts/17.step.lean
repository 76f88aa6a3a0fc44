set_option maxHeartbeats 4000000 in
set_option maxRecDepth 100000 in
theorem c_X2_doTwoParts (l : Launch) (dC : Nat → ClassId) (dI : Nat → Nat → Nat) (h : Nat → Nat) (k : Nat → ClassId) (g : Nat → Nat) (sz : Nat) (σ : StC) (a1 : Int32) : Met l yX2_doTwoParts wsX2_doTwoParts ({ frames := 5, cells := 0, slots := 0, locals := 113 }) (PcC (dC, dI) h k g [.ref (h 0), .int a1] sz σ) (va_Qv (fun u => u = f_X2_doTwoParts σ a1) (BC (dC, dI) h k (AX 5 h sz)) (AX 5 h sz)) 0 0 (AX 5 h sz) := by
  refine Met.ofW (cc := cX2_doTwoParts) (maxL := 9) (ret := none) (by decide) rfl ?_
  intro p e s m args below meth c s₁ B hml hv
  obtain ⟨rfl, rfl, hP, hct, hD⟩ := hv
  have hx := B.exec
  have hb := B.bytes
  have hr := B.returns
  have hts := atoms_spec (ws := wsX2_doTwoParts) B.pre
  have hown : s.vm.findClass RX2 = some m.cls := findClass_of_methodNamed B.named
  have hlocks := B.notSynchronized
  have hK := hct.1
  have hN := hct.2.1
  have hS : va_S (AX 5 h s.heap.size) s.heap s.heap [] := va_S.rf
  have hl := lv_entry ([.ref (h 0), .int a1]) (n := 9) (Nat.le_of_ble_eq_true rfl)
  rw [lg_entry_eq]
  generalize (lg_sl ([.ref (h 0), .int a1]) ++ List.replicate (9 - (lg_sl ([.ref (h 0), .int a1])).length) Slot.unset).toArray = ls at hl ⊢
  have hl : lv_has ls 9 [(0, .ref (h 0)), (1, .int a1)] := hl
  refine lv_iload_n hx hb dX2_doTwoParts_0 rfl (lv_at hl 1 rfl) ?_
  refine lv_bipush (v := 64) hx hb dX2_doTwoParts_1 (by decide) ?_
  refine lv_iand hx hb dX2_doTwoParts_3 ?_
  refine wj (α := Int32) (D := (dC, dI)) (cl := vwCl) (A := AX 5 h s.heap.size) (H0 := s.heap) (if (a1 &&& (64 : Int32)) = 0 then 0 else 1) (fun v2 => wsC h k σ) (fun v2 => [(0, .ref (h 0)), (1, .int a1)]) 9 (fun v2 ls => F0 m 12 ls [.int v2]) ?_ ?_
  · intro v2 ls H locs ev2 hl hP hD hS
    try dsimp only at hl hP hD ⊢
    refine lv_istore_n (lv' := [(2, .int v2), (0, .ref (h 0)), (1, .int a1)]) hx hb dX2_doTwoParts_12 rfl hl (by decide) rfl (fun ls hl => ?_)
    refine lv_aload_n hx hb dX2_doTwoParts_13 rfl (lv_at hl 1 rfl) ?_
    refine lv_iload_n hx hb dX2_doTwoParts_14 rfl (lv_at hl 2 rfl) ?_
    refine lv_iload_n hx hb dX2_doTwoParts_15 rfl (lv_at hl 2 rfl) ?_
    refine lv_bipush (v := 8) hx hb dX2_doTwoParts_16 (by decide) ?_
    refine lv_ishr hx hb dX2_doTwoParts_18 ?_
    refine lv_bipush (v := 15) hx hb dX2_doTwoParts_19 (by decide) ?_
    refine lv_iand hx hb dX2_doTwoParts_21 ?_
    refine callC_i (va_runV (As := [.int a1, .int ((a1 >>> ((8 : Int32) &&& 31)) &&& (15 : Int32))]) (rest := []) ⟨hx, hb, hml, hown, hts⟩ (c_X2_sourcePlace l dC dI h k g _ σ a1 ((a1 >>> ((8 : Int32) &&& 31)) &&& (15 : Int32)) (pk_andIn _ 4 (by decide) (by decide))) (cwV 2 hts gX2_doTwoParts_X2_sourcePlace rfl rfl rfl (by decide +kernel) ⟨Nat.le_of_ble_eq_true rfl, Nat.le_of_ble_eq_true rfl⟩) (preC_V (ci := 2) (q0 := 0) hct hP hD hS rfl rfl) rfl rfl hl.1 rfl (lv_room (Nat.le_of_ble_eq_true rfl)) dX2_doTwoParts_22 ⟨Nat.le_of_ble_eq_true rfl, Nat.le_of_ble_eq_true rfl⟩) hS (fun x3 σ4 H locs ex3 eσ4 hP hD hS => ?_)
    refine lv_istore_n (lv' := [(3, .int x3), (2, .int v2), (0, .ref (h 0)), (1, .int a1)]) hx hb dX2_doTwoParts_25 rfl hl (by decide) rfl (fun ls hl => ?_)
    refine lv_aload_n hx hb dX2_doTwoParts_26 rfl (lv_at hl 2 rfl) ?_
    refine lv_iload_n hx hb dX2_doTwoParts_27 rfl (lv_at hl 0 rfl) ?_
    refine lv_iload_n hx hb dX2_doTwoParts_28 rfl (lv_at hl 1 rfl) ?_
    refine callC_ip (va_runV (As := [.int x3, .int v2]) (rest := []) ⟨hx, hb, hml, hown, hts⟩ (c_X2_valueAt l dC dI h k g _ σ4 x3 v2) (cwV 2 hts gX2_doTwoParts_X2_valueAt rfl rfl rfl (by decide +kernel) ⟨Nat.le_of_ble_eq_true rfl, Nat.le_of_ble_eq_true rfl⟩) (preC_V (ci := 2) (q0 := 0) hct hP hD hS rfl rfl) rfl rfl hl.1 rfl (lv_room (Nat.le_of_ble_eq_true rfl)) dX2_doTwoParts_29 ⟨Nat.le_of_ble_eq_true rfl, Nat.le_of_ble_eq_true rfl⟩) hS (fun x5 H locs ex5 hP hD hS => ?_)
    refine lv_istore (lv' := [(4, .int x5), (3, .int x3), (2, .int v2), (0, .ref (h 0)), (1, .int a1)]) hx hb dX2_doTwoParts_32 hl (by decide) rfl (fun ls hl => ?_)
    refine lv_aload_n hx hb dX2_doTwoParts_34 rfl (lv_at hl 3 rfl) ?_
    refine lv_iload_n hx hb dX2_doTwoParts_35 rfl (lv_at hl 4 rfl) ?_
    refine callC_i (va_runV (As := [.int a1]) (rest := []) ⟨hx, hb, hml, hown, hts⟩ (c_X2_destinationPlace l dC dI h k g _ σ4 a1) (cwV 1 hts gX2_doTwoParts_X2_destinationPlace rfl rfl rfl (by decide +kernel) ⟨Nat.le_of_ble_eq_true rfl, Nat.le_of_ble_eq_true rfl⟩) (preC_V (ci := 2) (q0 := 0) hct hP hD hS rfl rfl) rfl rfl hl.1 rfl (lv_room (Nat.le_of_ble_eq_true rfl)) dX2_doTwoParts_36 ⟨Nat.le_of_ble_eq_true rfl, Nat.le_of_ble_eq_true rfl⟩) hS (fun x6 σ7 H locs ex6 eσ7 hP hD hS => ?_)
    refine lv_istore (lv' := [(5, .int x6), (4, .int x5), (3, .int x3), (2, .int v2), (0, .ref (h 0)), (1, .int a1)]) hx hb dX2_doTwoParts_39 hl (by decide) rfl (fun ls hl => ?_)
    refine lv_aload_n hx hb dX2_doTwoParts_41 rfl (lv_at hl 4 rfl) ?_
    refine lv_iload hx hb dX2_doTwoParts_42 (lv_at hl 0 rfl) ?_
    refine lv_iload_n hx hb dX2_doTwoParts_44 rfl (lv_at hl 3 rfl) ?_
    refine callC_ip (va_runV (As := [.int x6, .int v2]) (rest := []) ⟨hx, hb, hml, hown, hts⟩ (c_X2_valueAt l dC dI h k g _ σ7 x6 v2) (cwV 2 hts gX2_doTwoParts_X2_valueAt rfl rfl rfl (by decide +kernel) ⟨Nat.le_of_ble_eq_true rfl, Nat.le_of_ble_eq_true rfl⟩) (preC_V (ci := 2) (q0 := 0) hct hP hD hS rfl rfl) rfl rfl hl.1 rfl (lv_room (Nat.le_of_ble_eq_true rfl)) dX2_doTwoParts_45 ⟨Nat.le_of_ble_eq_true rfl, Nat.le_of_ble_eq_true rfl⟩) hS (fun x8 H locs ex8 hP hD hS => ?_)
    refine lv_istore (lv' := [(6, .int x8), (5, .int x6), (4, .int x5), (3, .int x3), (2, .int v2), (0, .ref (h 0)), (1, .int a1)]) hx hb dX2_doTwoParts_48 hl (by decide) rfl (fun ls hl => ?_)
    refine lv_iload_n hx hb dX2_doTwoParts_50 rfl (lv_at hl 6 rfl) ?_
    refine lv_bipush (v := 12) hx hb dX2_doTwoParts_51 (by decide) ?_
    refine lv_ishr hx hb dX2_doTwoParts_53 ?_
    refine lv_topi (fun x9 ex9 => ?_)
    refine lv_istore (lv' := [(7, .int x9), (6, .int x8), (5, .int x6), (4, .int x5), (3, .int x3), (2, .int v2), (0, .ref (h 0)), (1, .int a1)]) hx hb dX2_doTwoParts_54 hl (by decide) rfl (fun ls hl => ?_)
    refine lv_aload_n hx hb dX2_doTwoParts_56 rfl (lv_at hl 6 rfl) ?_
    refine lv_iload hx hb dX2_doTwoParts_57 (lv_at hl 0 rfl) ?_
    refine lv_iload hx hb dX2_doTwoParts_59 (lv_at hl 3 rfl) ?_
    refine lv_iload hx hb dX2_doTwoParts_61 (lv_at hl 1 rfl) ?_
    refine lv_iload_n hx hb dX2_doTwoParts_63 rfl (lv_at hl 5 rfl) ?_
    refine callC_i (va_runV (As := [.int x9, .int x5, .int x8, .int v2]) (rest := []) ⟨hx, hb, hml, hown, hts⟩ (c_X2_combine l dC dI h k g _ σ7 x9 x5 x8 v2) (cwV 4 hts gX2_doTwoParts_X2_combine rfl rfl rfl (by decide +kernel) ⟨Nat.le_of_ble_eq_true rfl, Nat.le_of_ble_eq_true rfl⟩) (preC_V (ci := 2) (q0 := 0) hct hP hD hS rfl rfl) rfl rfl hl.1 rfl (lv_room (Nat.le_of_ble_eq_true rfl)) dX2_doTwoParts_64 ⟨Nat.le_of_ble_eq_true rfl, Nat.le_of_ble_eq_true rfl⟩) hS (fun x10 σ11 H locs ex10 eσ11 hP hD hS => ?_)
    refine lv_istore (lv' := [(8, .int x10), (7, .int x9), (6, .int x8), (5, .int x6), (4, .int x5), (3, .int x3), (2, .int v2), (0, .ref (h 0)), (1, .int a1)]) hx hb dX2_doTwoParts_67 hl (by decide) rfl (fun ls hl => ?_)
    refine lv_iload hx hb dX2_doTwoParts_69 (lv_at hl 1 rfl) ?_
    refine lv_bipush (v := 9) hx hb dX2_doTwoParts_71 (by decide) ?_
    refine wj (α := StC) (D := (dC, dI)) (cl := vwCl) (A := AX 5 h s.heap.size) (H0 := s.heap) (if x9 = 9 then σ11 else if x9 = 11 then σ11 else let σ15 : StC := (f_X2_put σ11 x6 x10 v2); σ15) (fun v13 => wsC h k v13) (fun v13 => [(8, .int x10), (7, .int x9), (6, .int x8), (5, .int x6), (4, .int x5), (3, .int x3), (2, .int v2), (0, .ref (h 0)), (1, .int a1)]) 9 (fun v13 ls => F0 m 92 ls []) ?_ ?_
    · intro v13 ls H locs ev13 hl hP hD hS
      try dsimp only at hl hP hD ⊢
      refine lv_aload_n hx hb dX2_doTwoParts_92 rfl (lv_at hl 7 rfl) ?_
      refine lv_iload hx hb dX2_doTwoParts_93 (lv_at hl 3 rfl) ?_
      refine callC_rp (va_runS (As := [.int x6]) (rest := [.ref (h 0)]) ⟨hx, hb, hml, hown, hts⟩ (c_X2_twoPartsCycles l dC dI h k g _ v13 x6) (va_cwS 1 hts gX2_doTwoParts_X2_twoPartsCycles rfl rfl rfl (by decide +kernel) ⟨Nat.le_of_ble_eq_true rfl, Nat.le_of_ble_eq_true rfl⟩) (preC_S hct hP hD hS) rfl rfl hl.1 rfl (lv_room (Nat.le_of_ble_eq_true rfl)) dX2_doTwoParts_95 ⟨Nat.le_of_ble_eq_true rfl, Nat.le_of_ble_eq_true rfl⟩) hS (fun x14 H locs ex14 hP hD hS => ?_)
      refine lv_iload_n hx hb dX2_doTwoParts_98 rfl (lv_at hl 5 rfl) ?_
      refine lv_iload_n hx hb dX2_doTwoParts_99 rfl (lv_at hl 8 rfl) ?_
      refine callC_ip (va_runS (As := [.int x3, .int a1]) (rest := [.ref (g x14), .ref (h 0)]) ⟨hx, hb, hml, hown, hts⟩ (c_X2_kindOfSource l dC dI h k g _ v13 x3 a1) (va_cwS 2 hts gX2_doTwoParts_X2_kindOfSource rfl rfl rfl (by decide +kernel) ⟨Nat.le_of_ble_eq_true rfl, Nat.le_of_ble_eq_true rfl⟩) (preC_S hct hP hD hS) rfl rfl hl.1 rfl (lv_room (Nat.le_of_ble_eq_true rfl)) dX2_doTwoParts_100 ⟨Nat.le_of_ble_eq_true rfl, Nat.le_of_ble_eq_true rfl⟩) hS (fun x15 H locs ex15 hP hD hS => ?_)
      refine callC_v (va_runV (As := [.ref (g x14), .int x15]) (rest := []) ⟨hx, hb, hml, hown, hts⟩ (c_X2_spendByKind l dC dI h k g _ v13 x14 (by rw [ex14]; exact tpc_lt _) x15) (cwV 2 hts gX2_doTwoParts_X2_spendByKind rfl rfl rfl (by decide +kernel) ⟨Nat.le_of_ble_eq_true rfl, Nat.le_of_ble_eq_true rfl⟩) (preC_V (ci := 2) (q0 := 0) hct hP hD hS rfl rfl) rfl rfl hl.1 rfl (lv_room (Nat.le_of_ble_eq_true rfl)) dX2_doTwoParts_103 ⟨Nat.le_of_ble_eq_true rfl, Nat.le_of_ble_eq_true rfl⟩) hS (fun σ16 H locs eσ16 hP hD hS => ?_)
      exact retC_v hx hb hr hlocks (by subst eσ16; subst ex15; subst ex14; subst ev13; subst eσ11; subst ex10; subst ex9; subst ex8; subst eσ7; subst ex6; subst ex5; subst eσ4; subst ex3; subst ev2; exact rfl) hP hD hS dX2_doTwoParts_106
    · intro J
      refine lv_icmp_eq (tgt := 92) hx hb dX2_doTwoParts_73 (by decide) (fun c12 => ?_) (fun c12 => ?_)
      · exact J (σ11) ls _ _ (by exact (if_pos c12).symm) (lv_sub hl [0, 1, 2, 3, 4, 5, 6, 7, 8] rfl) hP hD hS
      · refine lv_iload hx hb dX2_doTwoParts_76 (lv_at hl 1 rfl) ?_
        refine lv_bipush (v := 11) hx hb dX2_doTwoParts_78 (by decide) ?_
        refine lv_icmp_eq (tgt := 92) hx hb dX2_doTwoParts_80 (by decide) (fun c17 => ?_) (fun c17 => ?_)
        · exact J (σ11) ls _ _ (by exact ((if_neg c12).trans (if_pos c17)).symm) (lv_sub hl [0, 1, 2, 3, 4, 5, 6, 7, 8] rfl) hP hD hS
        · refine lv_aload_n hx hb dX2_doTwoParts_83 rfl (lv_at hl 7 rfl) ?_
          refine lv_iload hx hb dX2_doTwoParts_84 (lv_at hl 3 rfl) ?_
          refine lv_iload hx hb dX2_doTwoParts_86 (lv_at hl 0 rfl) ?_
          refine lv_iload_n hx hb dX2_doTwoParts_88 rfl (lv_at hl 6 rfl) ?_
          refine callC_v (va_runV (As := [.int x6, .int x10, .int v2]) (rest := []) ⟨hx, hb, hml, hown, hts⟩ (c_X2_put l dC dI h k g _ σ11 x6 x10 v2) (cwV 3 hts gX2_doTwoParts_X2_put rfl rfl rfl (by decide +kernel) ⟨Nat.le_of_ble_eq_true rfl, Nat.le_of_ble_eq_true rfl⟩) (preC_V (ci := 2) (q0 := 0) hct hP hD hS rfl rfl) rfl rfl hl.1 rfl (lv_room (Nat.le_of_ble_eq_true rfl)) dX2_doTwoParts_89 ⟨Nat.le_of_ble_eq_true rfl, Nat.le_of_ble_eq_true rfl⟩) hS (fun σ18 H locs eσ18 hP hD hS => ?_)
          exact J (σ18) ls _ _ (by subst eσ18; exact ((if_neg c12).trans (if_neg c17)).symm) (lv_sub hl [0, 1, 2, 3, 4, 5, 6, 7, 8] rfl) hP hD hS
  · intro J
    refine lv_if_eq (tgt := 11) hx hb dX2_doTwoParts_4 (by decide) (fun c1 => ?_) (fun c1 => ?_)
    · refine lv_iconst (v := 0) hx hb dX2_doTwoParts_11 (by decide) ?_
      exact J (0) ls _ _ (by exact (if_pos c1).symm) (lv_sub hl [0, 1] rfl) hP hD hS
    · refine lv_iconst (v := 1) hx hb dX2_doTwoParts_7 (by decide) ?_
      refine lv_goto (tgt := 12) hx hb dX2_doTwoParts_8 (by decide) ?_
      exact J (1) ls _ _ (by exact (if_neg c1).symm) (lv_sub hl [0, 1] rfl) hP hD hS

set_option maxHeartbeats 4000000 in
set_option maxRecDepth 100000 in
theorem c_X2_doOnePart (l : Launch) (dC : Nat → ClassId) (dI : Nat → Nat → Nat) (h : Nat → Nat) (k : Nat → ClassId) (g : Nat → Nat) (sz : Nat) (σ : StC) (a1 : Int32) : Met l yX2_doOnePart wsX2_doOnePart ({ frames := 5, cells := 0, slots := 0, locals := 113 }) (PcC (dC, dI) h k g [.ref (h 0), .int a1] sz σ) (va_Qv (fun u => u = f_X2_doOnePart σ a1) (BC (dC, dI) h k (AX 5 h sz)) (AX 5 h sz)) 0 0 (AX 5 h sz) := by
  refine Met.ofW (cc := cX2_doOnePart) (maxL := 7) (ret := none) (by decide) rfl ?_
  intro p e s m args below meth c s₁ B hml hv
  obtain ⟨rfl, rfl, hP, hct, hD⟩ := hv
  have hx := B.exec
  have hb := B.bytes
  have hr := B.returns
  have hts := atoms_spec (ws := wsX2_doOnePart) B.pre
  have hown : s.vm.findClass RX2 = some m.cls := findClass_of_methodNamed B.named
  have hlocks := B.notSynchronized
  have hK := hct.1
  have hN := hct.2.1
  have hS : va_S (AX 5 h s.heap.size) s.heap s.heap [] := va_S.rf
  have hl := lv_entry ([.ref (h 0), .int a1]) (n := 7) (Nat.le_of_ble_eq_true rfl)
  rw [lg_entry_eq]
  generalize (lg_sl ([.ref (h 0), .int a1]) ++ List.replicate (7 - (lg_sl ([.ref (h 0), .int a1])).length) Slot.unset).toArray = ls at hl ⊢
  have hl : lv_has ls 7 [(0, .ref (h 0)), (1, .int a1)] := hl
  refine lv_iload_n hx hb dX2_doOnePart_0 rfl (lv_at hl 1 rfl) ?_
  refine lv_bipush (v := 64) hx hb dX2_doOnePart_1 (by decide) ?_
  refine lv_iand hx hb dX2_doOnePart_3 ?_
  refine wj (α := Int32) (D := (dC, dI)) (cl := vwCl) (A := AX 5 h s.heap.size) (H0 := s.heap) (if (a1 &&& (64 : Int32)) = 0 then 0 else 1) (fun v2 => wsC h k σ) (fun v2 => [(0, .ref (h 0)), (1, .int a1)]) 7 (fun v2 ls => F0 m 12 ls [.int v2]) ?_ ?_
  · intro v2 ls H locs ev2 hl hP hD hS
    try dsimp only at hl hP hD ⊢
    refine lv_istore_n (lv' := [(2, .int v2), (0, .ref (h 0)), (1, .int a1)]) hx hb dX2_doOnePart_12 rfl hl (by decide) rfl (fun ls hl => ?_)
    refine lv_aload_n hx hb dX2_doOnePart_13 rfl (lv_at hl 1 rfl) ?_
    refine lv_iload_n hx hb dX2_doOnePart_14 rfl (lv_at hl 2 rfl) ?_
    refine lv_iload_n hx hb dX2_doOnePart_15 rfl (lv_at hl 2 rfl) ?_
    refine lv_bipush (v := 15) hx hb dX2_doOnePart_16 (by decide) ?_
    refine lv_iand hx hb dX2_doOnePart_18 ?_
    refine callC_i (va_runV (As := [.int a1, .int (a1 &&& (15 : Int32))]) (rest := []) ⟨hx, hb, hml, hown, hts⟩ (c_X2_sourcePlace l dC dI h k g _ σ a1 (a1 &&& (15 : Int32)) (pk_andIn _ 4 (by decide) (by decide))) (cwV 2 hts gX2_doOnePart_X2_sourcePlace rfl rfl rfl (by decide +kernel) ⟨Nat.le_of_ble_eq_true rfl, Nat.le_of_ble_eq_true rfl⟩) (preC_V (ci := 2) (q0 := 0) hct hP hD hS rfl rfl) rfl rfl hl.1 rfl (lv_room (Nat.le_of_ble_eq_true rfl)) dX2_doOnePart_19 ⟨Nat.le_of_ble_eq_true rfl, Nat.le_of_ble_eq_true rfl⟩) hS (fun x3 σ4 H locs ex3 eσ4 hP hD hS => ?_)
    refine lv_istore_n (lv' := [(3, .int x3), (2, .int v2), (0, .ref (h 0)), (1, .int a1)]) hx hb dX2_doOnePart_22 rfl hl (by decide) rfl (fun ls hl => ?_)
    refine lv_aload_n hx hb dX2_doOnePart_23 rfl (lv_at hl 2 rfl) ?_
    refine lv_iload_n hx hb dX2_doOnePart_24 rfl (lv_at hl 0 rfl) ?_
    refine lv_iload_n hx hb dX2_doOnePart_25 rfl (lv_at hl 1 rfl) ?_
    refine callC_ip (va_runV (As := [.int x3, .int v2]) (rest := []) ⟨hx, hb, hml, hown, hts⟩ (c_X2_valueAt l dC dI h k g _ σ4 x3 v2) (cwV 2 hts gX2_doOnePart_X2_valueAt rfl rfl rfl (by decide +kernel) ⟨Nat.le_of_ble_eq_true rfl, Nat.le_of_ble_eq_true rfl⟩) (preC_V (ci := 2) (q0 := 0) hct hP hD hS rfl rfl) rfl rfl hl.1 rfl (lv_room (Nat.le_of_ble_eq_true rfl)) dX2_doOnePart_26 ⟨Nat.le_of_ble_eq_true rfl, Nat.le_of_ble_eq_true rfl⟩) hS (fun x5 H locs ex5 hP hD hS => ?_)
    refine lv_istore (lv' := [(4, .int x5), (3, .int x3), (2, .int v2), (0, .ref (h 0)), (1, .int a1)]) hx hb dX2_doOnePart_29 hl (by decide) rfl (fun ls hl => ?_)
    refine lv_iload_n hx hb dX2_doOnePart_31 rfl (lv_at hl 1 rfl) ?_
    refine lv_iload_n hx hb dX2_doOnePart_32 rfl (lv_at hl 4 rfl) ?_
    refine callC_ip (va_runS (As := [.int x3, .int a1]) (rest := []) ⟨hx, hb, hml, hown, hts⟩ (c_X2_kindOfSource l dC dI h k g _ σ4 x3 a1) (va_cwS 2 hts gX2_doOnePart_X2_kindOfSource rfl rfl rfl (by decide +kernel) ⟨Nat.le_of_ble_eq_true rfl, Nat.le_of_ble_eq_true rfl⟩) (preC_S hct hP hD hS) rfl rfl hl.1 rfl (lv_room (Nat.le_of_ble_eq_true rfl)) dX2_doOnePart_33 ⟨Nat.le_of_ble_eq_true rfl, Nat.le_of_ble_eq_true rfl⟩) hS (fun x6 H locs ex6 hP hD hS => ?_)
    refine lv_istore (lv' := [(5, .int x6), (4, .int x5), (3, .int x3), (2, .int v2), (0, .ref (h 0)), (1, .int a1)]) hx hb dX2_doOnePart_36 hl (by decide) rfl (fun ls hl => ?_)
    refine lv_iload_n hx hb dX2_doOnePart_38 rfl (lv_at hl 5 rfl) ?_
    refine lv_bipush (v := 7) hx hb dX2_doOnePart_39 (by decide) ?_
    refine lv_ishr hx hb dX2_doOnePart_41 ?_
    refine lv_bipush (v := 7) hx hb dX2_doOnePart_42 (by decide) ?_
    refine lv_iand hx hb dX2_doOnePart_44 ?_
    refine lv_topi (fun x7 ex7 => ?_)
    refine lv_istore (lv' := [(6, .int x7), (5, .int x6), (4, .int x5), (3, .int x3), (2, .int v2), (0, .ref (h 0)), (1, .int a1)]) hx hb dX2_doOnePart_45 hl (by decide) rfl (fun ls hl => ?_)
    refine lv_iload hx hb dX2_doOnePart_47 (lv_at hl 0 rfl) ?_
    refine lv_iconst (v := 4) hx hb dX2_doOnePart_49 (by decide) ?_
    refine lv_icmp_ne (tgt := 89) hx hb dX2_doOnePart_50 (by decide) (fun c8 => ?_) (fun c8 => ?_)
    · refine lv_iload hx hb dX2_doOnePart_89 (lv_at hl 0 rfl) ?_
      refine lv_iconst (v := 5) hx hb dX2_doOnePart_91 (by decide) ?_
      refine lv_icmp_ne (tgt := 125) hx hb dX2_doOnePart_92 (by decide) (fun c9 => ?_) (fun c9 => ?_)
      · refine lv_aload_n hx hb dX2_doOnePart_125 rfl (lv_at hl 5 rfl) ?_
        refine lv_iload_n hx hb dX2_doOnePart_126 rfl (lv_at hl 3 rfl) ?_
        refine lv_aload_n hx hb dX2_doOnePart_127 rfl (lv_at hl 5 rfl) ?_
        refine lv_iload hx hb dX2_doOnePart_128 (lv_at hl 0 rfl) ?_
        refine lv_iload hx hb dX2_doOnePart_130 (lv_at hl 2 rfl) ?_
        refine lv_iload_n hx hb dX2_doOnePart_132 rfl (lv_at hl 4 rfl) ?_
        refine callC_i (va_runV (As := [.int x7, .int x5, .int v2]) (rest := [.int x3, .ref (h 0)]) ⟨hx, hb, hml, hown, hts⟩ (c_X2_change l dC dI h k g _ σ4 x7 x5 v2) (cwV 3 hts gX2_doOnePart_X2_change rfl rfl rfl (by decide +kernel) ⟨Nat.le_of_ble_eq_true rfl, Nat.le_of_ble_eq_true rfl⟩) (preC_V (ci := 2) (q0 := 0) hct hP hD hS rfl rfl) rfl rfl hl.1 rfl (lv_room (Nat.le_of_ble_eq_true rfl)) dX2_doOnePart_133 ⟨Nat.le_of_ble_eq_true rfl, Nat.le_of_ble_eq_true rfl⟩) hS (fun x10 σ11 H locs ex10 eσ11 hP hD hS => ?_)
        refine lv_iload_n hx hb dX2_doOnePart_136 rfl (lv_at hl 4 rfl) ?_
        refine callC_v (va_runV (As := [.int x3, .int x10, .int v2]) (rest := []) ⟨hx, hb, hml, hown, hts⟩ (c_X2_put l dC dI h k g _ σ11 x3 x10 v2) (cwV 3 hts gX2_doOnePart_X2_put rfl rfl rfl (by decide +kernel) ⟨Nat.le_of_ble_eq_true rfl, Nat.le_of_ble_eq_true rfl⟩) (preC_V (ci := 2) (q0 := 0) hct hP hD hS rfl rfl) rfl rfl hl.1 rfl (lv_room (Nat.le_of_ble_eq_true rfl)) dX2_doOnePart_137 ⟨Nat.le_of_ble_eq_true rfl, Nat.le_of_ble_eq_true rfl⟩) hS (fun σ12 H locs eσ12 hP hD hS => ?_)
        refine lv_aload_n hx hb dX2_doOnePart_140 rfl (lv_at hl 5 rfl) ?_
        refine va_gets (v := .ref (g 4)) hx hb (hct.2.2.1 4 (by decide)) hS hown (hts (.fieldLink RX2 136 "LowPowerCpu" "CHANGE_CYCLES" "[I") (by decide +kernel)) (fun _ h9 => h9) dX2_doOnePart_141 ?_
        refine lv_iload hx hb dX2_doOnePart_144 (lv_at hl 1 rfl) ?_
        refine callC_v (va_runV (As := [.ref (g 4), .int x6]) (rest := []) ⟨hx, hb, hml, hown, hts⟩ (c_X2_spendByKind l dC dI h k g _ σ12 4 (by decide) x6) (cwV 2 hts gX2_doOnePart_X2_spendByKind rfl rfl rfl (by decide +kernel) ⟨Nat.le_of_ble_eq_true rfl, Nat.le_of_ble_eq_true rfl⟩) (preC_V (ci := 2) (q0 := 0) hct hP hD hS rfl rfl) rfl rfl hl.1 rfl (lv_room (Nat.le_of_ble_eq_true rfl)) dX2_doOnePart_146 ⟨Nat.le_of_ble_eq_true rfl, Nat.le_of_ble_eq_true rfl⟩) hS (fun σ13 H locs eσ13 hP hD hS => ?_)
        exact retC_v hx hb hr hlocks (by subst eσ13; subst eσ12; subst eσ11; subst ex10; subst ex7; subst ex6; subst ex5; subst eσ4; subst ex3; subst ev2; exact (if_neg c8).trans (if_neg c9)) hP hD hS dX2_doOnePart_149
      · refine lv_aload_n hx hb dX2_doOnePart_95 rfl (lv_at hl 5 rfl) ?_
        refine lv_aload_n hx hb dX2_doOnePart_96 rfl (lv_at hl 5 rfl) ?_
        refine va_get (D := (dC, dI)) (ci := 2) (v := .ref (h 2)) (C := RX2) (T := TX2) (N := 4) hx hb hts (fun _ h9 => List.mem_cons_of_mem _ (List.mem_append_left _ (List.mem_append_left _ (List.mem_append_right _ h9)))) hown hK hP 0 rfl rfl 1 (by decide) (hts (.fieldLink RX2 16 "LowPowerCpu" "registers" "[I") (by decide +kernel)) (fun _ h9 => h9) rfl dX2_doOnePart_97 ?_
        refine lv_iconst (v := 0) hx hb dX2_doOnePart_100 (by decide) ?_
        refine va_iald hx hb hK hP 2 0 rfl rfl (in_c (by decide)) dX2_doOnePart_101 ?_
        refine lv_iconst (v := 0) hx hb dX2_doOnePart_102 (by decide) ?_
        refine callC_v (va_runV (As := [.int (σ4.1 (0 : Int32).toNatClampNeg), .int 0]) (rest := []) ⟨hx, hb, hml, hown, hts⟩ (c_X2_push l dC dI h k g _ σ4 (σ4.1 (0 : Int32).toNatClampNeg) 0) (cwV 2 hts gX2_doOnePart_X2_push rfl rfl rfl (by decide +kernel) ⟨Nat.le_of_ble_eq_true rfl, Nat.le_of_ble_eq_true rfl⟩) (preC_V (ci := 2) (q0 := 0) hct hP hD hS rfl rfl) rfl rfl hl.1 rfl (lv_room (Nat.le_of_ble_eq_true rfl)) dX2_doOnePart_103 ⟨Nat.le_of_ble_eq_true rfl, Nat.le_of_ble_eq_true rfl⟩) hS (fun σ14 H locs eσ14 hP hD hS => ?_)
        refine lv_aload_n hx hb dX2_doOnePart_106 rfl (lv_at hl 5 rfl) ?_
        refine lv_iconst (v := 0) hx hb dX2_doOnePart_107 (by decide) ?_
        refine lv_iload hx hb dX2_doOnePart_108 (lv_at hl 2 rfl) ?_
        refine callC_v (va_runV (As := [.int 0, .int x5]) (rest := []) ⟨hx, hb, hml, hown, hts⟩ (c_X2_setRegister l dC dI h k g _ σ14 0 x5) (cwV 2 hts gX2_doOnePart_X2_setRegister rfl rfl rfl (by decide +kernel) ⟨Nat.le_of_ble_eq_true rfl, Nat.le_of_ble_eq_true rfl⟩) (preC_V (ci := 2) (q0 := 0) hct hP hD hS rfl rfl) rfl rfl hl.1 rfl (lv_room (Nat.le_of_ble_eq_true rfl)) dX2_doOnePart_110 ⟨Nat.le_of_ble_eq_true rfl, Nat.le_of_ble_eq_true rfl⟩) hS (fun σ15 H locs eσ15 hP hD hS => ?_)
        refine lv_aload_n hx hb dX2_doOnePart_113 rfl (lv_at hl 5 rfl) ?_
        refine va_gets (v := .ref (g 6)) hx hb (hct.2.2.1 6 (by decide)) hS hown (hts (.fieldLink RX2 129 "LowPowerCpu" "CALL_CYCLES" "[I") (by decide +kernel)) (fun _ h9 => h9) dX2_doOnePart_114 ?_
        refine lv_iload hx hb dX2_doOnePart_117 (lv_at hl 1 rfl) ?_
        refine callC_v (va_runV (As := [.ref (g 6), .int x6]) (rest := []) ⟨hx, hb, hml, hown, hts⟩ (c_X2_spendByKind l dC dI h k g _ σ15 6 (by decide) x6) (cwV 2 hts gX2_doOnePart_X2_spendByKind rfl rfl rfl (by decide +kernel) ⟨Nat.le_of_ble_eq_true rfl, Nat.le_of_ble_eq_true rfl⟩) (preC_V (ci := 2) (q0 := 0) hct hP hD hS rfl rfl) rfl rfl hl.1 rfl (lv_room (Nat.le_of_ble_eq_true rfl)) dX2_doOnePart_119 ⟨Nat.le_of_ble_eq_true rfl, Nat.le_of_ble_eq_true rfl⟩) hS (fun σ16 H locs eσ16 hP hD hS => ?_)
        refine lv_goto (tgt := 149) hx hb dX2_doOnePart_122 (by decide) ?_
        exact retC_v hx hb hr hlocks (by subst eσ16; subst eσ15; subst eσ14; subst ex7; subst ex6; subst ex5; subst eσ4; subst ex3; subst ev2; exact (if_neg c8).trans (if_pos c9)) hP hD hS dX2_doOnePart_149
    · refine lv_aload_n hx hb dX2_doOnePart_53 rfl (lv_at hl 5 rfl) ?_
      refine lv_iload hx hb dX2_doOnePart_54 (lv_at hl 2 rfl) ?_
      refine lv_iload_n hx hb dX2_doOnePart_56 rfl (lv_at hl 4 rfl) ?_
      refine callC_v (va_runV (As := [.int x5, .int v2]) (rest := []) ⟨hx, hb, hml, hown, hts⟩ (c_X2_push l dC dI h k g _ σ4 x5 v2) (cwV 2 hts gX2_doOnePart_X2_push rfl rfl rfl (by decide +kernel) ⟨Nat.le_of_ble_eq_true rfl, Nat.le_of_ble_eq_true rfl⟩) (preC_V (ci := 2) (q0 := 0) hct hP hD hS rfl rfl) rfl rfl hl.1 rfl (lv_room (Nat.le_of_ble_eq_true rfl)) dX2_doOnePart_57 ⟨Nat.le_of_ble_eq_true rfl, Nat.le_of_ble_eq_true rfl⟩) hS (fun σ17 H locs eσ17 hP hD hS => ?_)
      refine lv_iload_n hx hb dX2_doOnePart_60 rfl (lv_at hl 6 rfl) ?_
      refine lv_bipush (v := 63) hx hb dX2_doOnePart_61 (by decide) ?_
      refine lv_iand hx hb dX2_doOnePart_63 ?_
      refine lv_bipush (v := 48) hx hb dX2_doOnePart_64 (by decide) ?_
      refine lv_icmp_ne (tgt := 77) hx hb dX2_doOnePart_66 (by decide) (fun c18 => ?_) (fun c18 => ?_)
      · refine lv_aload_n hx hb dX2_doOnePart_77 rfl (lv_at hl 5 rfl) ?_
        refine va_gets (v := .ref (g 5)) hx hb (hct.2.2.1 5 (by decide)) hS hown (hts (.fieldLink RX2 126 "LowPowerCpu" "PUSH_CYCLES" "[I") (by decide +kernel)) (fun _ h9 => h9) dX2_doOnePart_78 ?_
        refine lv_iload hx hb dX2_doOnePart_81 (lv_at hl 1 rfl) ?_
        refine callC_v (va_runV (As := [.ref (g 5), .int x6]) (rest := []) ⟨hx, hb, hml, hown, hts⟩ (c_X2_spendByKind l dC dI h k g _ σ17 5 (by decide) x6) (cwV 2 hts gX2_doOnePart_X2_spendByKind rfl rfl rfl (by decide +kernel) ⟨Nat.le_of_ble_eq_true rfl, Nat.le_of_ble_eq_true rfl⟩) (preC_V (ci := 2) (q0 := 0) hct hP hD hS rfl rfl) rfl rfl hl.1 rfl (lv_room (Nat.le_of_ble_eq_true rfl)) dX2_doOnePart_83 ⟨Nat.le_of_ble_eq_true rfl, Nat.le_of_ble_eq_true rfl⟩) hS (fun σ19 H locs eσ19 hP hD hS => ?_)
        refine lv_goto (tgt := 149) hx hb dX2_doOnePart_86 (by decide) ?_
        exact retC_v hx hb hr hlocks (by subst eσ19; subst eσ17; subst ex7; subst ex6; subst ex5; subst eσ4; subst ex3; subst ev2; exact (if_pos c8).trans (if_neg c18)) hP hD hS dX2_doOnePart_149
      · refine lv_aload_n hx hb dX2_doOnePart_69 rfl (lv_at hl 5 rfl) ?_
        refine lv_iconst (v := 4) hx hb dX2_doOnePart_70 (by decide) ?_
        refine callC_v (va_runV (As := [.int 4]) (rest := []) ⟨hx, hb, hml, hown, hts⟩ (c_X2_spend l dC dI h k g _ σ17 4) (cwV 1 hts gX2_doOnePart_X2_spend rfl rfl rfl (by decide +kernel) ⟨Nat.le_of_ble_eq_true rfl, Nat.le_of_ble_eq_true rfl⟩) (preC_V (ci := 2) (q0 := 0) hct hP hD hS rfl rfl) rfl rfl hl.1 rfl (lv_room (Nat.le_of_ble_eq_true rfl)) dX2_doOnePart_71 ⟨Nat.le_of_ble_eq_true rfl, Nat.le_of_ble_eq_true rfl⟩) hS (fun σ20 H locs eσ20 hP hD hS => ?_)
        refine lv_goto (tgt := 149) hx hb dX2_doOnePart_74 (by decide) ?_
        exact retC_v hx hb hr hlocks (by subst eσ20; subst eσ17; subst ex7; subst ex6; subst ex5; subst eσ4; subst ex3; subst ev2; exact (if_pos c8).trans (if_pos c18)) hP hD hS dX2_doOnePart_149
  · intro J
    refine lv_if_eq (tgt := 11) hx hb dX2_doOnePart_4 (by decide) (fun c1 => ?_) (fun c1 => ?_)
    · refine lv_iconst (v := 0) hx hb dX2_doOnePart_11 (by decide) ?_
      exact J (0) ls _ _ (by exact (if_pos c1).symm) (lv_sub hl [0, 1] rfl) hP hD hS
    · refine lv_iconst (v := 1) hx hb dX2_doOnePart_7 (by decide) ?_
      refine lv_goto (tgt := 12) hx hb dX2_doOnePart_8 (by decide) ?_
      exact J (1) ls _ _ (by exact (if_neg c1).symm) (lv_sub hl [0, 1] rfl) hP hD hS

set_option maxHeartbeats 4000000 in
set_option maxRecDepth 100000 in
theorem c_X2_step (l : Launch) (dC : Nat → ClassId) (dI : Nat → Nat → Nat) (h : Nat → Nat) (k : Nat → ClassId) (g : Nat → Nat) (sz : Nat) (σ : StC) : Met l yX2_step wsX2_step ({ frames := 6, cells := 0, slots := 0, locals := 141 }) (PcC (dC, dI) h k g [.ref (h 0)] sz σ) (va_Qi (fun r u => (r, u) = (f_X2_step σ)) (BC (dC, dI) h k (AX 5 h sz)) (AX 5 h sz)) 0 0 (AX 5 h sz) := by
  refine Met.ofW (cc := cX2_step) (maxL := 3) (ret := (some .int)) (by decide) rfl ?_
  intro p e s m args below meth c s₁ B hml hv
  obtain ⟨rfl, rfl, hP, hct, hD⟩ := hv
  have hx := B.exec
  have hb := B.bytes
  have hr := B.returns
  have hts := atoms_spec (ws := wsX2_step) B.pre
  have hown : s.vm.findClass RX2 = some m.cls := findClass_of_methodNamed B.named
  have hlocks := B.notSynchronized
  have hK := hct.1
  have hN := hct.2.1
  have hS : va_S (AX 5 h s.heap.size) s.heap s.heap [] := va_S.rf
  have hl := lv_entry ([.ref (h 0)]) (n := 3) (Nat.le_of_ble_eq_true rfl)
  rw [lg_entry_eq]
  generalize (lg_sl ([.ref (h 0)]) ++ List.replicate (3 - (lg_sl ([.ref (h 0)])).length) Slot.unset).toArray = ls at hl ⊢
  have hl : lv_has ls 3 [(0, .ref (h 0))] := hl
  refine lv_aload_n hx hb dX2_step_0 rfl (lv_at hl 0 rfl) ?_
  refine va_get (D := (dC, dI)) (ci := 2) (v := .ref (h 2)) (C := RX2) (T := TX2) (N := 4) hx hb hts (fun _ h9 => List.mem_cons_of_mem _ (List.mem_append_left _ (List.mem_append_left _ (List.mem_append_right _ h9)))) hown hK hP 0 rfl rfl 1 (by decide) (hts (.fieldLink RX2 16 "LowPowerCpu" "registers" "[I") (by decide +kernel)) (fun _ h9 => h9) rfl dX2_step_1 ?_
  refine lv_iconst (v := 2) hx hb dX2_step_4 (by decide) ?_
  refine va_iald hx hb hK hP 2 0 rfl rfl (in_c (by decide)) dX2_step_5 ?_
  refine lv_topi (fun x1 ex1 => ?_)
  refine lv_istore_n (lv' := [(1, .int x1), (0, .ref (h 0))]) hx hb dX2_step_6 rfl hl (by decide) rfl (fun ls hl => ?_)
  refine lv_iload_n hx hb dX2_step_7 rfl (lv_at hl 0 rfl) ?_
  refine lv_bipush (v := 8) hx hb dX2_step_8 (by decide) ?_
  refine lv_iand hx hb dX2_step_10 ?_
  refine lv_if_eq (tgt := 27) hx hb dX2_step_11 (by decide) (fun c2 => ?_) (fun c2 => ?_)
  · refine lv_iload_n hx hb dX2_step_27 rfl (lv_at hl 0 rfl) ?_
    refine lv_bipush (v := 16) hx hb dX2_step_28 (by decide) ?_
    refine lv_iand hx hb dX2_step_30 ?_
    refine lv_if_eq (tgt := 36) hx hb dX2_step_31 (by decide) (fun c3 => ?_) (fun c3 => ?_)
    · refine lv_aload_n hx hb dX2_step_36 rfl (lv_at hl 1 rfl) ?_
      refine va_get (D := (dC, dI)) (ci := 2) (v := .ref (h 1)) (C := RX2) (T := TX2) (N := 4) hx hb hts (fun _ h9 => List.mem_cons_of_mem _ (List.mem_append_left _ (List.mem_append_left _ (List.mem_append_right _ h9)))) hown hK hP 0 rfl rfl 0 (by decide) (hts (.fieldLink RX2 12 "LowPowerCpu" "memory" "LLowPowerCpu$Memory;") (by decide +kernel)) (fun _ h9 => h9) rfl dX2_step_37 ?_
      refine lv_aload_n hx hb dX2_step_40 rfl (lv_at hl 1 rfl) ?_
      refine va_get (D := (dC, dI)) (ci := 2) (v := .ref (h 2)) (C := RX2) (T := TX2) (N := 4) hx hb hts (fun _ h9 => List.mem_cons_of_mem _ (List.mem_append_left _ (List.mem_append_left _ (List.mem_append_right _ h9)))) hown hK hP 0 rfl rfl 1 (by decide) (hts (.fieldLink RX2 16 "LowPowerCpu" "registers" "[I") (by decide +kernel)) (fun _ h9 => h9) rfl dX2_step_41 ?_
      refine lv_iconst (v := 0) hx hb dX2_step_44 (by decide) ?_
      refine va_iald hx hb hK hP 2 0 rfl rfl (in_c (by decide)) dX2_step_45 ?_
      refine callC_ip (va_runVN (As := [.int (σ.1 (0 : Int32).toNatClampNeg)]) (rest := []) ⟨hx, hb, hml, hown, hts⟩ (c_X0_wordAt l dC dI h k g _ σ (σ.1 (0 : Int32).toNatClampNeg)) ⟨va_cnB 1 hts gX2_step_X0_wordAt_n40 rfl rfl rfl (hN (.methodLinkNest RX2 40 yX0_wordAt RX2) (List.mem_of_getElem? (i := 3) rfl)) (hts (.initialized RX0) (by decide +kernel)) (by decide +kernel) ⟨Nat.le_of_ble_eq_true rfl, Nat.le_of_ble_eq_true rfl⟩, hts (.instanceMethod yX0_wordAt) (by decide +kernel), hts (.selects RX0 yX0_wordAt yX0_wordAt) (by decide +kernel)⟩ (preC_V (ci := 0) (q0 := 1) hct hP hD hS rfl rfl) rfl rfl hl.1 rfl (lv_room (Nat.le_of_ble_eq_true rfl)) dX2_step_46 ⟨Nat.le_of_ble_eq_true rfl, Nat.le_of_ble_eq_true rfl⟩) hS (fun x4 H locs ex4 hP hD hS => ?_)
      refine lv_istore_n (lv' := [(2, .int x4), (1, .int x1), (0, .ref (h 0))]) hx hb dX2_step_49 rfl hl (by decide) rfl (fun ls hl => ?_)
      refine lv_iload_n hx hb dX2_step_50 rfl (lv_at hl 0 rfl) ?_
      refine callC_ip (va_runS (As := [.int x4]) (rest := []) ⟨hx, hb, hml, hown, hts⟩ (c_X2_isUnassigned l dC dI h k g _ σ x4) (va_cwS 1 hts gX2_step_X2_isUnassigned rfl rfl rfl (by decide +kernel) ⟨Nat.le_of_ble_eq_true rfl, Nat.le_of_ble_eq_true rfl⟩) (preC_S hct hP hD hS) rfl rfl hl.1 rfl (lv_room (Nat.le_of_ble_eq_true rfl)) dX2_step_51 ⟨Nat.le_of_ble_eq_true rfl, Nat.le_of_ble_eq_true rfl⟩) hS (fun x5 H locs ex5 hP hD hS => ?_)
      refine lv_if_eq (tgt := 59) hx hb dX2_step_54 (by decide) (fun c6 => ?_) (fun c6 => ?_)
      · refine lv_aload_n hx hb dX2_step_59 rfl (lv_at hl 2 rfl) ?_
        refine lv_iconst (v := 0) hx hb dX2_step_60 (by decide) ?_
        refine lv_iconst (v := 2) hx hb dX2_step_61 (by decide) ?_
        refine callC_v (va_runV (As := [.int 0, .int 2]) (rest := []) ⟨hx, hb, hml, hown, hts⟩ (c_X2_addToRegister l dC dI h k g _ σ 0 2) (cwV 2 hts gX2_step_X2_addToRegister rfl rfl rfl (by decide +kernel) ⟨Nat.le_of_ble_eq_true rfl, Nat.le_of_ble_eq_true rfl⟩) (preC_V (ci := 2) (q0 := 0) hct hP hD hS rfl rfl) rfl rfl hl.1 rfl (lv_room (Nat.le_of_ble_eq_true rfl)) dX2_step_62 ⟨Nat.le_of_ble_eq_true rfl, Nat.le_of_ble_eq_true rfl⟩) hS (fun σ7 H locs eσ7 hP hD hS => ?_)
        refine lv_iload_n hx hb dX2_step_65 rfl (lv_at hl 0 rfl) ?_
        refine lv_sipush (v := 16384) hx hb dX2_step_66 (by decide) ?_
        refine wj (α := StC) (D := (dC, dI)) (cl := vwCl) (A := AX 5 h s.heap.size) (H0 := s.heap) (if x4 < 16384 then if x4 < 8192 then if x4 = 4864 then let σ13 : StC := (f_X2_returnFromInterrupt σ7); σ13 else let σ12 : StC := (f_X2_doOnePart σ7 x4); σ12 else let σ14 : StC := (f_X2_doJump σ7 x4); σ14 else let σ15 : StC := (f_X2_doTwoParts σ7 x4); σ15) (fun v9 => wsC h k v9) (fun v9 => [(2, .int x4), (1, .int x1), (0, .ref (h 0))]) 3 (fun v9 ls => F0 m 114 ls []) ?_ ?_
        · intro v9 ls H locs ev9 hl hP hD hS
          try dsimp only at hl hP hD ⊢
          refine lv_iconst (v := 0) hx hb dX2_step_114 (by decide) ?_
          exact retC_i hx hb hr hlocks (by subst ev9; subst eσ7; subst ex5; subst ex4; subst ex1; exact (if_pos c2).trans ((if_pos c3).trans (if_pos c6))) hP hD hS dX2_step_115
        · intro J
          refine lv_icmp_lt (tgt := 80) hx hb dX2_step_69 (by decide) (fun c8 => ?_) (fun c8 => ?_)
          · refine lv_iload_n hx hb dX2_step_80 rfl (lv_at hl 0 rfl) ?_
            refine lv_sipush (v := 8192) hx hb dX2_step_81 (by decide) ?_
            refine lv_icmp_lt (tgt := 95) hx hb dX2_step_84 (by decide) (fun c10 => ?_) (fun c10 => ?_)
            · refine lv_iload_n hx hb dX2_step_95 rfl (lv_at hl 0 rfl) ?_
              refine lv_sipush (v := 4864) hx hb dX2_step_96 (by decide) ?_
              refine lv_icmp_ne (tgt := 109) hx hb dX2_step_99 (by decide) (fun c11 => ?_) (fun c11 => ?_)
              · refine lv_aload_n hx hb dX2_step_109 rfl (lv_at hl 2 rfl) ?_
                refine lv_iload_n hx hb dX2_step_110 rfl (lv_at hl 0 rfl) ?_
                refine callC_v (va_runV (As := [.int x4]) (rest := []) ⟨hx, hb, hml, hown, hts⟩ (c_X2_doOnePart l dC dI h k g _ σ7 x4) (cwV 1 hts gX2_step_X2_doOnePart rfl rfl rfl (by decide +kernel) ⟨Nat.le_of_ble_eq_true rfl, Nat.le_of_ble_eq_true rfl⟩) (preC_V (ci := 2) (q0 := 0) hct hP hD hS rfl rfl) rfl rfl hl.1 rfl (lv_room (Nat.le_of_ble_eq_true rfl)) dX2_step_111 ⟨Nat.le_of_ble_eq_true rfl, Nat.le_of_ble_eq_true rfl⟩) hS (fun σ12 H locs eσ12 hP hD hS => ?_)
                exact J (σ12) ls _ _ (by subst eσ12; exact ((if_pos c8).trans ((if_pos c10).trans (if_neg c11))).symm) (lv_sub hl [0, 1, 2] rfl) hP hD hS
              · refine lv_aload_n hx hb dX2_step_102 rfl (lv_at hl 2 rfl) ?_
                refine callC_v (va_runV (As := []) (rest := []) ⟨hx, hb, hml, hown, hts⟩ (c_X2_returnFromInterrupt l dC dI h k g _ σ7 ) (cwV 0 hts gX2_step_X2_returnFromInterrupt rfl rfl rfl (by decide +kernel) ⟨Nat.le_of_ble_eq_true rfl, Nat.le_of_ble_eq_true rfl⟩) (preC_V (ci := 2) (q0 := 0) hct hP hD hS rfl rfl) rfl rfl hl.1 rfl (lv_room (Nat.le_of_ble_eq_true rfl)) dX2_step_103 ⟨Nat.le_of_ble_eq_true rfl, Nat.le_of_ble_eq_true rfl⟩) hS (fun σ13 H locs eσ13 hP hD hS => ?_)
                refine lv_goto (tgt := 114) hx hb dX2_step_106 (by decide) ?_
                exact J (σ13) ls _ _ (by subst eσ13; exact ((if_pos c8).trans ((if_pos c10).trans (if_pos c11))).symm) (lv_sub hl [0, 1, 2] rfl) hP hD hS
            · refine lv_aload_n hx hb dX2_step_87 rfl (lv_at hl 2 rfl) ?_
              refine lv_iload_n hx hb dX2_step_88 rfl (lv_at hl 0 rfl) ?_
              refine callC_v (va_runV (As := [.int x4]) (rest := []) ⟨hx, hb, hml, hown, hts⟩ (c_X2_doJump l dC dI h k g _ σ7 x4) (cwV 1 hts gX2_step_X2_doJump rfl rfl rfl (by decide +kernel) ⟨Nat.le_of_ble_eq_true rfl, Nat.le_of_ble_eq_true rfl⟩) (preC_V (ci := 2) (q0 := 0) hct hP hD hS rfl rfl) rfl rfl hl.1 rfl (lv_room (Nat.le_of_ble_eq_true rfl)) dX2_step_89 ⟨Nat.le_of_ble_eq_true rfl, Nat.le_of_ble_eq_true rfl⟩) hS (fun σ14 H locs eσ14 hP hD hS => ?_)
              refine lv_goto (tgt := 114) hx hb dX2_step_92 (by decide) ?_
              exact J (σ14) ls _ _ (by subst eσ14; exact ((if_pos c8).trans (if_neg c10)).symm) (lv_sub hl [0, 1, 2] rfl) hP hD hS
          · refine lv_aload_n hx hb dX2_step_72 rfl (lv_at hl 2 rfl) ?_
            refine lv_iload_n hx hb dX2_step_73 rfl (lv_at hl 0 rfl) ?_
            refine callC_v (va_runV (As := [.int x4]) (rest := []) ⟨hx, hb, hml, hown, hts⟩ (c_X2_doTwoParts l dC dI h k g _ σ7 x4) (cwV 1 hts gX2_step_X2_doTwoParts rfl rfl rfl (by decide +kernel) ⟨Nat.le_of_ble_eq_true rfl, Nat.le_of_ble_eq_true rfl⟩) (preC_V (ci := 2) (q0 := 0) hct hP hD hS rfl rfl) rfl rfl hl.1 rfl (lv_room (Nat.le_of_ble_eq_true rfl)) dX2_step_74 ⟨Nat.le_of_ble_eq_true rfl, Nat.le_of_ble_eq_true rfl⟩) hS (fun σ15 H locs eσ15 hP hD hS => ?_)
            refine lv_goto (tgt := 114) hx hb dX2_step_77 (by decide) ?_
            exact J (σ15) ls _ _ (by subst eσ15; exact (if_neg c8).symm) (lv_sub hl [0, 1, 2] rfl) hP hD hS
      · refine lv_iconst (v := 2) hx hb dX2_step_57 (by decide) ?_
        exact retC_i hx hb hr hlocks (by subst ex5; subst ex4; subst ex1; exact (if_pos c2).trans ((if_pos c3).trans (if_neg c6))) hP hD hS dX2_step_58
    · refine lv_iconst (v := 1) hx hb dX2_step_34 (by decide) ?_
      exact retC_i hx hb hr hlocks (by subst ex1; exact (if_pos c2).trans (if_neg c3)) hP hD hS dX2_step_35
  · refine lv_aload_n hx hb dX2_step_14 rfl (lv_at hl 1 rfl) ?_
    refine va_get (D := (dC, dI)) (ci := 2) (v := .int σ.2.1) (C := RX2) (T := TX2) (N := 4) hx hb hts (fun _ h9 => List.mem_cons_of_mem _ (List.mem_append_left _ (List.mem_append_left _ (List.mem_append_right _ h9)))) hown hK hP 0 rfl rfl 2 (by decide) (hts (.fieldLink RX2 23 "LowPowerCpu" "pendingLines" "I") (by decide +kernel)) (fun _ h9 => h9) rfl dX2_step_15 ?_
    refine lv_if_eq (tgt := 27) hx hb dX2_step_18 (by decide) (fun c16 => ?_) (fun c16 => ?_)
    · refine lv_iload_n hx hb dX2_step_27 rfl (lv_at hl 0 rfl) ?_
      refine lv_bipush (v := 16) hx hb dX2_step_28 (by decide) ?_
      refine lv_iand hx hb dX2_step_30 ?_
      refine lv_if_eq (tgt := 36) hx hb dX2_step_31 (by decide) (fun c17 => ?_) (fun c17 => ?_)
      · refine lv_aload_n hx hb dX2_step_36 rfl (lv_at hl 1 rfl) ?_
        refine va_get (D := (dC, dI)) (ci := 2) (v := .ref (h 1)) (C := RX2) (T := TX2) (N := 4) hx hb hts (fun _ h9 => List.mem_cons_of_mem _ (List.mem_append_left _ (List.mem_append_left _ (List.mem_append_right _ h9)))) hown hK hP 0 rfl rfl 0 (by decide) (hts (.fieldLink RX2 12 "LowPowerCpu" "memory" "LLowPowerCpu$Memory;") (by decide +kernel)) (fun _ h9 => h9) rfl dX2_step_37 ?_
        refine lv_aload_n hx hb dX2_step_40 rfl (lv_at hl 1 rfl) ?_
        refine va_get (D := (dC, dI)) (ci := 2) (v := .ref (h 2)) (C := RX2) (T := TX2) (N := 4) hx hb hts (fun _ h9 => List.mem_cons_of_mem _ (List.mem_append_left _ (List.mem_append_left _ (List.mem_append_right _ h9)))) hown hK hP 0 rfl rfl 1 (by decide) (hts (.fieldLink RX2 16 "LowPowerCpu" "registers" "[I") (by decide +kernel)) (fun _ h9 => h9) rfl dX2_step_41 ?_
        refine lv_iconst (v := 0) hx hb dX2_step_44 (by decide) ?_
        refine va_iald hx hb hK hP 2 0 rfl rfl (in_c (by decide)) dX2_step_45 ?_
        refine callC_ip (va_runVN (As := [.int (σ.1 (0 : Int32).toNatClampNeg)]) (rest := []) ⟨hx, hb, hml, hown, hts⟩ (c_X0_wordAt l dC dI h k g _ σ (σ.1 (0 : Int32).toNatClampNeg)) ⟨va_cnB 1 hts gX2_step_X0_wordAt_n40 rfl rfl rfl (hN (.methodLinkNest RX2 40 yX0_wordAt RX2) (List.mem_of_getElem? (i := 3) rfl)) (hts (.initialized RX0) (by decide +kernel)) (by decide +kernel) ⟨Nat.le_of_ble_eq_true rfl, Nat.le_of_ble_eq_true rfl⟩, hts (.instanceMethod yX0_wordAt) (by decide +kernel), hts (.selects RX0 yX0_wordAt yX0_wordAt) (by decide +kernel)⟩ (preC_V (ci := 0) (q0 := 1) hct hP hD hS rfl rfl) rfl rfl hl.1 rfl (lv_room (Nat.le_of_ble_eq_true rfl)) dX2_step_46 ⟨Nat.le_of_ble_eq_true rfl, Nat.le_of_ble_eq_true rfl⟩) hS (fun x18 H locs ex18 hP hD hS => ?_)
        refine lv_istore_n (lv' := [(2, .int x18), (1, .int x1), (0, .ref (h 0))]) hx hb dX2_step_49 rfl hl (by decide) rfl (fun ls hl => ?_)
        refine lv_iload_n hx hb dX2_step_50 rfl (lv_at hl 0 rfl) ?_
        refine callC_ip (va_runS (As := [.int x18]) (rest := []) ⟨hx, hb, hml, hown, hts⟩ (c_X2_isUnassigned l dC dI h k g _ σ x18) (va_cwS 1 hts gX2_step_X2_isUnassigned rfl rfl rfl (by decide +kernel) ⟨Nat.le_of_ble_eq_true rfl, Nat.le_of_ble_eq_true rfl⟩) (preC_S hct hP hD hS) rfl rfl hl.1 rfl (lv_room (Nat.le_of_ble_eq_true rfl)) dX2_step_51 ⟨Nat.le_of_ble_eq_true rfl, Nat.le_of_ble_eq_true rfl⟩) hS (fun x19 H locs ex19 hP hD hS => ?_)
        refine lv_if_eq (tgt := 59) hx hb dX2_step_54 (by decide) (fun c20 => ?_) (fun c20 => ?_)
        · refine lv_aload_n hx hb dX2_step_59 rfl (lv_at hl 2 rfl) ?_
          refine lv_iconst (v := 0) hx hb dX2_step_60 (by decide) ?_
          refine lv_iconst (v := 2) hx hb dX2_step_61 (by decide) ?_
          refine callC_v (va_runV (As := [.int 0, .int 2]) (rest := []) ⟨hx, hb, hml, hown, hts⟩ (c_X2_addToRegister l dC dI h k g _ σ 0 2) (cwV 2 hts gX2_step_X2_addToRegister rfl rfl rfl (by decide +kernel) ⟨Nat.le_of_ble_eq_true rfl, Nat.le_of_ble_eq_true rfl⟩) (preC_V (ci := 2) (q0 := 0) hct hP hD hS rfl rfl) rfl rfl hl.1 rfl (lv_room (Nat.le_of_ble_eq_true rfl)) dX2_step_62 ⟨Nat.le_of_ble_eq_true rfl, Nat.le_of_ble_eq_true rfl⟩) hS (fun σ21 H locs eσ21 hP hD hS => ?_)
          refine lv_iload_n hx hb dX2_step_65 rfl (lv_at hl 0 rfl) ?_
          refine lv_sipush (v := 16384) hx hb dX2_step_66 (by decide) ?_
          refine wj (α := StC) (D := (dC, dI)) (cl := vwCl) (A := AX 5 h s.heap.size) (H0 := s.heap) (if x18 < 16384 then if x18 < 8192 then if x18 = 4864 then let σ27 : StC := (f_X2_returnFromInterrupt σ21); σ27 else let σ26 : StC := (f_X2_doOnePart σ21 x18); σ26 else let σ28 : StC := (f_X2_doJump σ21 x18); σ28 else let σ29 : StC := (f_X2_doTwoParts σ21 x18); σ29) (fun v23 => wsC h k v23) (fun v23 => [(2, .int x18), (1, .int x1), (0, .ref (h 0))]) 3 (fun v23 ls => F0 m 114 ls []) ?_ ?_
          · intro v23 ls H locs ev23 hl hP hD hS
            try dsimp only at hl hP hD ⊢
            refine lv_iconst (v := 0) hx hb dX2_step_114 (by decide) ?_
            exact retC_i hx hb hr hlocks (by subst ev23; subst eσ21; subst ex19; subst ex18; subst ex1; exact (if_neg c2).trans ((if_pos c16).trans ((if_pos c17).trans (if_pos c20)))) hP hD hS dX2_step_115
          · intro J
            refine lv_icmp_lt (tgt := 80) hx hb dX2_step_69 (by decide) (fun c22 => ?_) (fun c22 => ?_)
            · refine lv_iload_n hx hb dX2_step_80 rfl (lv_at hl 0 rfl) ?_
              refine lv_sipush (v := 8192) hx hb dX2_step_81 (by decide) ?_
              refine lv_icmp_lt (tgt := 95) hx hb dX2_step_84 (by decide) (fun c24 => ?_) (fun c24 => ?_)
              · refine lv_iload_n hx hb dX2_step_95 rfl (lv_at hl 0 rfl) ?_
                refine lv_sipush (v := 4864) hx hb dX2_step_96 (by decide) ?_
                refine lv_icmp_ne (tgt := 109) hx hb dX2_step_99 (by decide) (fun c25 => ?_) (fun c25 => ?_)
                · refine lv_aload_n hx hb dX2_step_109 rfl (lv_at hl 2 rfl) ?_
                  refine lv_iload_n hx hb dX2_step_110 rfl (lv_at hl 0 rfl) ?_
                  refine callC_v (va_runV (As := [.int x18]) (rest := []) ⟨hx, hb, hml, hown, hts⟩ (c_X2_doOnePart l dC dI h k g _ σ21 x18) (cwV 1 hts gX2_step_X2_doOnePart rfl rfl rfl (by decide +kernel) ⟨Nat.le_of_ble_eq_true rfl, Nat.le_of_ble_eq_true rfl⟩) (preC_V (ci := 2) (q0 := 0) hct hP hD hS rfl rfl) rfl rfl hl.1 rfl (lv_room (Nat.le_of_ble_eq_true rfl)) dX2_step_111 ⟨Nat.le_of_ble_eq_true rfl, Nat.le_of_ble_eq_true rfl⟩) hS (fun σ26 H locs eσ26 hP hD hS => ?_)
                  exact J (σ26) ls _ _ (by subst eσ26; exact ((if_pos c22).trans ((if_pos c24).trans (if_neg c25))).symm) (lv_sub hl [0, 1, 2] rfl) hP hD hS
                · refine lv_aload_n hx hb dX2_step_102 rfl (lv_at hl 2 rfl) ?_
                  refine callC_v (va_runV (As := []) (rest := []) ⟨hx, hb, hml, hown, hts⟩ (c_X2_returnFromInterrupt l dC dI h k g _ σ21 ) (cwV 0 hts gX2_step_X2_returnFromInterrupt rfl rfl rfl (by decide +kernel) ⟨Nat.le_of_ble_eq_true rfl, Nat.le_of_ble_eq_true rfl⟩) (preC_V (ci := 2) (q0 := 0) hct hP hD hS rfl rfl) rfl rfl hl.1 rfl (lv_room (Nat.le_of_ble_eq_true rfl)) dX2_step_103 ⟨Nat.le_of_ble_eq_true rfl, Nat.le_of_ble_eq_true rfl⟩) hS (fun σ27 H locs eσ27 hP hD hS => ?_)
                  refine lv_goto (tgt := 114) hx hb dX2_step_106 (by decide) ?_
                  exact J (σ27) ls _ _ (by subst eσ27; exact ((if_pos c22).trans ((if_pos c24).trans (if_pos c25))).symm) (lv_sub hl [0, 1, 2] rfl) hP hD hS
              · refine lv_aload_n hx hb dX2_step_87 rfl (lv_at hl 2 rfl) ?_
                refine lv_iload_n hx hb dX2_step_88 rfl (lv_at hl 0 rfl) ?_
                refine callC_v (va_runV (As := [.int x18]) (rest := []) ⟨hx, hb, hml, hown, hts⟩ (c_X2_doJump l dC dI h k g _ σ21 x18) (cwV 1 hts gX2_step_X2_doJump rfl rfl rfl (by decide +kernel) ⟨Nat.le_of_ble_eq_true rfl, Nat.le_of_ble_eq_true rfl⟩) (preC_V (ci := 2) (q0 := 0) hct hP hD hS rfl rfl) rfl rfl hl.1 rfl (lv_room (Nat.le_of_ble_eq_true rfl)) dX2_step_89 ⟨Nat.le_of_ble_eq_true rfl, Nat.le_of_ble_eq_true rfl⟩) hS (fun σ28 H locs eσ28 hP hD hS => ?_)
                refine lv_goto (tgt := 114) hx hb dX2_step_92 (by decide) ?_
                exact J (σ28) ls _ _ (by subst eσ28; exact ((if_pos c22).trans (if_neg c24)).symm) (lv_sub hl [0, 1, 2] rfl) hP hD hS
            · refine lv_aload_n hx hb dX2_step_72 rfl (lv_at hl 2 rfl) ?_
              refine lv_iload_n hx hb dX2_step_73 rfl (lv_at hl 0 rfl) ?_
              refine callC_v (va_runV (As := [.int x18]) (rest := []) ⟨hx, hb, hml, hown, hts⟩ (c_X2_doTwoParts l dC dI h k g _ σ21 x18) (cwV 1 hts gX2_step_X2_doTwoParts rfl rfl rfl (by decide +kernel) ⟨Nat.le_of_ble_eq_true rfl, Nat.le_of_ble_eq_true rfl⟩) (preC_V (ci := 2) (q0 := 0) hct hP hD hS rfl rfl) rfl rfl hl.1 rfl (lv_room (Nat.le_of_ble_eq_true rfl)) dX2_step_74 ⟨Nat.le_of_ble_eq_true rfl, Nat.le_of_ble_eq_true rfl⟩) hS (fun σ29 H locs eσ29 hP hD hS => ?_)
              refine lv_goto (tgt := 114) hx hb dX2_step_77 (by decide) ?_
              exact J (σ29) ls _ _ (by subst eσ29; exact (if_neg c22).symm) (lv_sub hl [0, 1, 2] rfl) hP hD hS
        · refine lv_iconst (v := 2) hx hb dX2_step_57 (by decide) ?_
          exact retC_i hx hb hr hlocks (by subst ex19; subst ex18; subst ex1; exact (if_neg c2).trans ((if_pos c16).trans ((if_pos c17).trans (if_neg c20)))) hP hD hS dX2_step_58
      · refine lv_iconst (v := 1) hx hb dX2_step_34 (by decide) ?_
        exact retC_i hx hb hr hlocks (by subst ex1; exact (if_neg c2).trans ((if_pos c16).trans (if_neg c17))) hP hD hS dX2_step_35
    · refine lv_aload_n hx hb dX2_step_21 rfl (lv_at hl 1 rfl) ?_
      refine callC_v (va_runV (As := []) (rest := []) ⟨hx, hb, hml, hown, hts⟩ (c_X2_interrupt l dC dI h k g _ σ ) (cwV 0 hts gX2_step_X2_interrupt rfl rfl rfl (by decide +kernel) ⟨Nat.le_of_ble_eq_true rfl, Nat.le_of_ble_eq_true rfl⟩) (preC_V (ci := 2) (q0 := 0) hct hP hD hS rfl rfl) rfl rfl hl.1 rfl (lv_room (Nat.le_of_ble_eq_true rfl)) dX2_step_22 ⟨Nat.le_of_ble_eq_true rfl, Nat.le_of_ble_eq_true rfl⟩) hS (fun σ30 H locs eσ30 hP hD hS => ?_)
      refine lv_iconst (v := 0) hx hb dX2_step_25 (by decide) ?_
      exact retC_i hx hb hr hlocks (by subst eσ30; subst ex1; exact (if_neg c2).trans (if_neg c16)) hP hD hS dX2_step_26
