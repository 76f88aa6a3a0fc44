set_option maxHeartbeats 4000000 in
set_option maxRecDepth 100000 in
theorem c_X3_poke (l : Launch) (dC : Nat → ClassId) (dI : Nat → Nat → Nat) (h : Nat → Nat) (k : Nat → ClassId) (sz : Nat) (σ : StR) (a1 : Int32) (a2 : Int32) : Met l yX3_poke wsX3_poke ({ frames := 1, cells := 0, slots := 0, locals := 22 }) (PcR (dC, dI) h k [.ref (h 0), .int a1, .int a2] sz σ) (va_Qi (fun r u => (r, u) = (f_X3_poke σ a1 a2)) (BR (dC, dI) h k (AX 4 h sz)) (AX 4 h sz)) 0 0 (AX 4 h sz) := by
  refine Met.ofW (cc := cX3_poke) (maxL := 3) (ret := (some .boolean)) (by decide) rfl ?_
  intro p e s m args below meth c s₁ B hml hv
  obtain ⟨rfl, rfl, hP, hct, hD⟩ := hv
  have hx := B.exec
  have hb := B.bytes
  have hr := B.returns
  have hts := atoms_spec (ws := wsX3_poke) B.pre
  have hown : s.vm.findClass RX3 = some m.cls := findClass_of_methodNamed B.named
  have hlocks := B.notSynchronized
  have hK := hct.1
  have hS : va_S (AX 4 h s.heap.size) s.heap s.heap [] := va_S.rf
  have hl := lv_entry ([.ref (h 0), .int a1, .int a2]) (n := 3) (Nat.le_of_ble_eq_true rfl)
  rw [lg_entry_eq]
  generalize (lg_sl ([.ref (h 0), .int a1, .int a2]) ++ List.replicate (3 - (lg_sl ([.ref (h 0), .int a1, .int a2])).length) Slot.unset).toArray = ls at hl ⊢
  have hl : lv_has ls 3 [(0, .ref (h 0)), (1, .int a1), (2, .int a2)] := hl
  refine lv_iload_n hx hb dX3_poke_0 rfl (lv_at hl 1 rfl) ?_
  refine callR_ip (va_runS (As := [.int a1]) (rest := []) ⟨hx, hb, hml, hown, hts⟩ (c_X3_isAddress l dC dI h k _ σ a1) (va_cwS 1 hts gX3_poke_X3_isAddress rfl rfl rfl (by decide +kernel) ⟨Nat.le_of_ble_eq_true rfl, Nat.le_of_ble_eq_true rfl⟩) (preR_S hct hP hD hS) rfl rfl hl.1 rfl (lv_room (Nat.le_of_ble_eq_true rfl)) dX3_poke_1 ⟨Nat.le_of_ble_eq_true rfl, Nat.le_of_ble_eq_true rfl⟩) hS (fun x1 H locs ex1 hP hD hS => ?_)
  refine lv_if_eq (tgt := 18) hx hb dX3_poke_4 (by decide) (fun c2 => ?_) (fun c2 => ?_)
  · refine lv_iconst (v := 0) hx hb dX3_poke_18 (by decide) ?_
    exact retR_z hx hb hr hlocks rfl (by subst ex1; exact if_pos c2) hP hD hS dX3_poke_19
  · refine lv_iload_n hx hb dX3_poke_7 rfl (lv_at hl 2 rfl) ?_
    refine lv_if_lt (tgt := 18) hx hb dX3_poke_8 (by decide) (fun c3 => ?_) (fun c3 => ?_)
    · refine lv_iconst (v := 0) hx hb dX3_poke_18 (by decide) ?_
      exact retR_z hx hb hr hlocks rfl (by subst ex1; exact (if_neg c2).trans (if_pos c3)) hP hD hS dX3_poke_19
    · refine lv_iload_n hx hb dX3_poke_11 rfl (lv_at hl 2 rfl) ?_
      refine lv_sipush (v := 255) hx hb dX3_poke_12 (by decide) ?_
      refine lv_icmp_le (tgt := 20) hx hb dX3_poke_15 (by decide) (fun c4 => ?_) (fun c4 => ?_)
      · refine lv_iload_n hx hb dX3_poke_20 rfl (lv_at hl 1 rfl) ?_
        refine callR_ip (va_runS (As := [.int a1]) (rest := []) ⟨hx, hb, hml, hown, hts⟩ (c_X3_isMultiplier l dC dI h k _ σ a1) (va_cwS 1 hts gX3_poke_X3_isMultiplier rfl rfl rfl (by decide +kernel) ⟨Nat.le_of_ble_eq_true rfl, Nat.le_of_ble_eq_true rfl⟩) (preR_S hct hP hD hS) rfl rfl hl.1 rfl (lv_room (Nat.le_of_ble_eq_true rfl)) dX3_poke_21 ⟨Nat.le_of_ble_eq_true rfl, Nat.le_of_ble_eq_true rfl⟩) hS (fun x5 H locs ex5 hP hD hS => ?_)
        refine wj (α := StR) (D := (dC, dI)) (cl := vwCl) (A := AX 4 h s.heap.size) (H0 := s.heap) (if x5 = 0 then let x8 : Int32 := (f_X3_withByte ((σ.1 (a1 >>> ((1 : Int32) &&& 31)).toNatClampNeg) &&& (65535 : Int32)) a1 a2); (upd σ.1 ((a1 >>> ((1 : Int32) &&& 31)).toNatClampNeg) (vp_nar .short x8.toInt16.toInt32), σ.2.1, σ.2.2.1, σ.2.2.2.1, σ.2.2.2.2.1, σ.2.2.2.2.2.1, σ.2.2.2.2.2.2.1, σ.2.2.2.2.2.2.2.1, σ.2.2.2.2.2.2.2.2) else let x9 : Int32 := (f_X3_which a1); let x10 : Int32 := (f_X3_which a1); let x11 : Int32 := (f_X3_withByte (σ.2.2.1 x10.toNatClampNeg) a1 a2); (σ.1, σ.2.1, upd σ.2.2.1 x9.toNatClampNeg x11, σ.2.2.2.1, σ.2.2.2.2.1, σ.2.2.2.2.2.1, σ.2.2.2.2.2.2.1, σ.2.2.2.2.2.2.2.1, σ.2.2.2.2.2.2.2.2)) (fun v7 => wsR h k v7) (fun v7 => [(0, .ref (h 0)), (1, .int a1), (2, .int a2)]) 3 (fun v7 ls => F0 m 78 ls []) ?_ ?_
        · intro v7 ls H locs ev7 hl hP hD hS
          try dsimp only at hl hP hD ⊢
          refine lv_iconst (v := 1) hx hb dX3_poke_78 (by decide) ?_
          exact retR_z hx hb hr hlocks rfl (by subst ev7; subst ex5; subst ex1; exact (if_neg c2).trans ((if_neg c3).trans (if_pos c4))) hP hD hS dX3_poke_79
        · intro J
          refine lv_if_eq (tgt := 53) hx hb dX3_poke_24 (by decide) (fun c6 => ?_) (fun c6 => ?_)
          · refine lv_aload_n hx hb dX3_poke_53 rfl (lv_at hl 0 rfl) ?_
            refine va_get (D := (dC, dI)) (ci := 3) (v := .ref (h 1)) (C := RX3) (T := TX3) (N := 9) hx hb hts (fun _ h9 => List.mem_cons_of_mem _ (List.mem_append_right _ h9)) hown hK hP 0 rfl rfl 0 (by decide) (hts (.fieldLink RX3 8 "LowPowerCpuModel" "words" "[S") (by decide +kernel)) (fun _ h9 => h9) rfl dX3_poke_54 ?_
            refine lv_iload_n hx hb dX3_poke_57 rfl (lv_at hl 1 rfl) ?_
            refine lv_iconst (v := 1) hx hb dX3_poke_58 (by decide) ?_
            refine lv_ishr hx hb dX3_poke_59 ?_
            refine lv_aload_n hx hb dX3_poke_60 rfl (lv_at hl 0 rfl) ?_
            refine va_get (D := (dC, dI)) (ci := 3) (v := .ref (h 1)) (C := RX3) (T := TX3) (N := 9) hx hb hts (fun _ h9 => List.mem_cons_of_mem _ (List.mem_append_right _ h9)) hown hK hP 0 rfl rfl 0 (by decide) (hts (.fieldLink RX3 8 "LowPowerCpuModel" "words" "[S") (by decide +kernel)) (fun _ h9 => h9) rfl dX3_poke_61 ?_
            refine lv_iload_n hx hb dX3_poke_64 rfl (lv_at hl 1 rfl) ?_
            refine lv_iconst (v := 1) hx hb dX3_poke_65 (by decide) ?_
            refine lv_ishr hx hb dX3_poke_66 ?_
            refine va_sald hx hb hK hP 1 1 rfl rfl (shr1_in (isAddr_in (by rw [← ex1]; exact c2))) dX3_poke_67 ?_
            refine lv_ldc (v := 65535) hx hb hown (hts (.constant RX3 50 65535) (by decide +kernel)) dX3_poke_68 ?_
            refine lv_iand hx hb dX3_poke_70 ?_
            refine lv_iload_n hx hb dX3_poke_71 rfl (lv_at hl 1 rfl) ?_
            refine lv_iload_n hx hb dX3_poke_72 rfl (lv_at hl 2 rfl) ?_
            refine callR_ip (va_runS (As := [.int ((σ.1 (a1 >>> ((1 : Int32) &&& 31)).toNatClampNeg) &&& (65535 : Int32)), .int a1, .int a2]) (rest := [.int (a1 >>> ((1 : Int32) &&& 31)), .ref (h 1)]) ⟨hx, hb, hml, hown, hts⟩ (c_X3_withByte l dC dI h k _ σ ((σ.1 (a1 >>> ((1 : Int32) &&& 31)).toNatClampNeg) &&& (65535 : Int32)) a1 a2) (va_cwS 3 hts gX3_poke_X3_withByte rfl rfl rfl (by decide +kernel) ⟨Nat.le_of_ble_eq_true rfl, Nat.le_of_ble_eq_true rfl⟩) (preR_S hct hP hD hS) rfl rfl hl.1 rfl (lv_room (Nat.le_of_ble_eq_true rfl)) dX3_poke_73 ⟨Nat.le_of_ble_eq_true rfl, Nat.le_of_ble_eq_true rfl⟩) hS (fun x8 H locs ex8 hP hD hS => ?_)
            refine lv_i2s hx hb dX3_poke_76 rfl ?_
            refine va_sast hx hb hK hP hD hS 1 1 rfl rfl (shr1_in (isAddr_in (by rw [← ex1]; exact c2))) dX3_poke_77 (fun H locs hP hD hS => ?_)
            have hP : va_P (dC, dI) vwCl (wsR h k (upd σ.1 ((a1 >>> ((1 : Int32) &&& 31)).toNatClampNeg) (vp_nar .short x8.toInt16.toInt32), σ.2.1, σ.2.2.1, σ.2.2.2.1, σ.2.2.2.2.1, σ.2.2.2.2.2.1, σ.2.2.2.2.2.2.1, σ.2.2.2.2.2.2.2.1, σ.2.2.2.2.2.2.2.2)) H := hP
            have hD : va_D (AX 4 h s.heap.size) (wsR h k (upd σ.1 ((a1 >>> ((1 : Int32) &&& 31)).toNatClampNeg) (vp_nar .short x8.toInt16.toInt32), σ.2.1, σ.2.2.1, σ.2.2.2.1, σ.2.2.2.2.1, σ.2.2.2.2.2.1, σ.2.2.2.2.2.2.1, σ.2.2.2.2.2.2.2.1, σ.2.2.2.2.2.2.2.2)) := hD
            exact J ((upd σ.1 ((a1 >>> ((1 : Int32) &&& 31)).toNatClampNeg) (vp_nar .short x8.toInt16.toInt32), σ.2.1, σ.2.2.1, σ.2.2.2.1, σ.2.2.2.2.1, σ.2.2.2.2.2.1, σ.2.2.2.2.2.2.1, σ.2.2.2.2.2.2.2.1, σ.2.2.2.2.2.2.2.2)) ls _ _ (by subst ex8; exact (if_pos c6).symm) (lv_sub hl [0, 1, 2] rfl) hP hD hS
          · refine lv_aload_n hx hb dX3_poke_27 rfl (lv_at hl 0 rfl) ?_
            refine va_get (D := (dC, dI)) (ci := 3) (v := .ref (h 3)) (C := RX3) (T := TX3) (N := 9) hx hb hts (fun _ h9 => List.mem_cons_of_mem _ (List.mem_append_right _ h9)) hown hK hP 0 rfl rfl 2 (by decide) (hts (.fieldLink RX3 18 "LowPowerCpuModel" "by" "[I") (by decide +kernel)) (fun _ h9 => h9) rfl dX3_poke_28 ?_
            refine lv_iload_n hx hb dX3_poke_31 rfl (lv_at hl 1 rfl) ?_
            refine callR_ip (va_runS (As := [.int a1]) (rest := [.ref (h 3)]) ⟨hx, hb, hml, hown, hts⟩ (c_X3_which l dC dI h k _ σ a1) (va_cwS 1 hts gX3_poke_X3_which rfl rfl rfl (by decide +kernel) ⟨Nat.le_of_ble_eq_true rfl, Nat.le_of_ble_eq_true rfl⟩) (preR_S hct hP hD hS) rfl rfl hl.1 rfl (lv_room (Nat.le_of_ble_eq_true rfl)) dX3_poke_32 ⟨Nat.le_of_ble_eq_true rfl, Nat.le_of_ble_eq_true rfl⟩) hS (fun x9 H locs ex9 hP hD hS => ?_)
            refine lv_aload_n hx hb dX3_poke_35 rfl (lv_at hl 0 rfl) ?_
            refine va_get (D := (dC, dI)) (ci := 3) (v := .ref (h 3)) (C := RX3) (T := TX3) (N := 9) hx hb hts (fun _ h9 => List.mem_cons_of_mem _ (List.mem_append_right _ h9)) hown hK hP 0 rfl rfl 2 (by decide) (hts (.fieldLink RX3 18 "LowPowerCpuModel" "by" "[I") (by decide +kernel)) (fun _ h9 => h9) rfl dX3_poke_36 ?_
            refine lv_iload_n hx hb dX3_poke_39 rfl (lv_at hl 1 rfl) ?_
            refine callR_ip (va_runS (As := [.int a1]) (rest := [.ref (h 3), .int x9, .ref (h 3)]) ⟨hx, hb, hml, hown, hts⟩ (c_X3_which l dC dI h k _ σ a1) (va_cwS 1 hts gX3_poke_X3_which rfl rfl rfl (by decide +kernel) ⟨Nat.le_of_ble_eq_true rfl, Nat.le_of_ble_eq_true rfl⟩) (preR_S hct hP hD hS) rfl rfl hl.1 rfl (lv_room (Nat.le_of_ble_eq_true rfl)) dX3_poke_40 ⟨Nat.le_of_ble_eq_true rfl, Nat.le_of_ble_eq_true rfl⟩) hS (fun x10 H locs ex10 hP hD hS => ?_)
            refine va_iald hx hb hK hP 3 0 rfl rfl (by rw [ex10]; exact which_in (by rw [← ex5]; exact c6)) dX3_poke_43 ?_
            refine lv_iload_n hx hb dX3_poke_44 rfl (lv_at hl 1 rfl) ?_
            refine lv_iload_n hx hb dX3_poke_45 rfl (lv_at hl 2 rfl) ?_
            refine callR_ip (va_runS (As := [.int (σ.2.2.1 x10.toNatClampNeg), .int a1, .int a2]) (rest := [.int x9, .ref (h 3)]) ⟨hx, hb, hml, hown, hts⟩ (c_X3_withByte l dC dI h k _ σ (σ.2.2.1 x10.toNatClampNeg) a1 a2) (va_cwS 3 hts gX3_poke_X3_withByte rfl rfl rfl (by decide +kernel) ⟨Nat.le_of_ble_eq_true rfl, Nat.le_of_ble_eq_true rfl⟩) (preR_S hct hP hD hS) rfl rfl hl.1 rfl (lv_room (Nat.le_of_ble_eq_true rfl)) dX3_poke_46 ⟨Nat.le_of_ble_eq_true rfl, Nat.le_of_ble_eq_true rfl⟩) hS (fun x11 H locs ex11 hP hD hS => ?_)
            refine va_iast hx hb hK hP hD hS 3 0 rfl rfl (by rw [ex9]; exact which_in (by rw [← ex5]; exact c6)) dX3_poke_49 (fun H locs hP hD hS => ?_)
            have hP : va_P (dC, dI) vwCl (wsR h k (σ.1, σ.2.1, upd σ.2.2.1 x9.toNatClampNeg x11, σ.2.2.2.1, σ.2.2.2.2.1, σ.2.2.2.2.2.1, σ.2.2.2.2.2.2.1, σ.2.2.2.2.2.2.2.1, σ.2.2.2.2.2.2.2.2)) H := hP
            have hD : va_D (AX 4 h s.heap.size) (wsR h k (σ.1, σ.2.1, upd σ.2.2.1 x9.toNatClampNeg x11, σ.2.2.2.1, σ.2.2.2.2.1, σ.2.2.2.2.2.1, σ.2.2.2.2.2.2.1, σ.2.2.2.2.2.2.2.1, σ.2.2.2.2.2.2.2.2)) := hD
            refine lv_goto (tgt := 78) hx hb dX3_poke_50 (by decide) ?_
            exact J ((σ.1, σ.2.1, upd σ.2.2.1 x9.toNatClampNeg x11, σ.2.2.2.1, σ.2.2.2.2.1, σ.2.2.2.2.2.1, σ.2.2.2.2.2.2.1, σ.2.2.2.2.2.2.2.1, σ.2.2.2.2.2.2.2.2)) ls _ _ (by subst ex11; subst ex10; subst ex9; exact (if_neg c6).symm) (lv_sub hl [0, 1, 2] rfl) hP hD hS
      · refine lv_iconst (v := 0) hx hb dX3_poke_18 (by decide) ?_
        exact retR_z hx hb hr hlocks rfl (by subst ex1; exact (if_neg c2).trans ((if_neg c3).trans (if_neg c4))) hP hD hS dX3_poke_19

set_option maxHeartbeats 4000000 in
set_option maxRecDepth 100000 in
theorem c_X3_peek (l : Launch) (dC : Nat → ClassId) (dI : Nat → Nat → Nat) (h : Nat → Nat) (k : Nat → ClassId) (sz : Nat) (σ : StR) (a1 : Int32) : Met l yX3_peek wsX3_peek ({ frames := 3, cells := 0, slots := 0, locals := 62 }) (PcR (dC, dI) h k [.ref (h 0), .int a1] sz σ) (va_Qi (fun r u => (r, u) = (f_X3_peek σ a1, σ)) (BR (dC, dI) h k (AX 4 h sz)) (AX 4 h sz)) 0 0 (AX 4 h sz) := by
  refine Met.ofW (cc := cX3_peek) (maxL := 2) (ret := (some .int)) (by decide) rfl ?_
  intro p e s m args below meth c s₁ B hml hv
  obtain ⟨rfl, rfl, hP, hct, hD⟩ := hv
  have hx := B.exec
  have hb := B.bytes
  have hr := B.returns
  have hts := atoms_spec (ws := wsX3_peek) B.pre
  have hown : s.vm.findClass RX3 = some m.cls := findClass_of_methodNamed B.named
  have hlocks := B.notSynchronized
  have hK := hct.1
  have hS : va_S (AX 4 h s.heap.size) s.heap s.heap [] := va_S.rf
  have hl := lv_entry ([.ref (h 0), .int a1]) (n := 2) (Nat.le_of_ble_eq_true rfl)
  rw [lg_entry_eq]
  generalize (lg_sl ([.ref (h 0), .int a1]) ++ List.replicate (2 - (lg_sl ([.ref (h 0), .int a1])).length) Slot.unset).toArray = ls at hl ⊢
  have hl : lv_has ls 2 [(0, .ref (h 0)), (1, .int a1)] := hl
  refine lv_iload_n hx hb dX3_peek_0 rfl (lv_at hl 1 rfl) ?_
  refine callR_ip (va_runS (As := [.int a1]) (rest := []) ⟨hx, hb, hml, hown, hts⟩ (c_X3_isAddress l dC dI h k _ σ a1) (va_cwS 1 hts gX3_peek_X3_isAddress rfl rfl rfl (by decide +kernel) ⟨Nat.le_of_ble_eq_true rfl, Nat.le_of_ble_eq_true rfl⟩) (preR_S hct hP hD hS) rfl rfl hl.1 rfl (lv_room (Nat.le_of_ble_eq_true rfl)) dX3_peek_1 ⟨Nat.le_of_ble_eq_true rfl, Nat.le_of_ble_eq_true rfl⟩) hS (fun x1 H locs ex1 hP hD hS => ?_)
  refine lv_if_eq (tgt := 15) hx hb dX3_peek_4 (by decide) (fun c2 => ?_) (fun c2 => ?_)
  · refine lv_iconst (v := (-1)) hx hb dX3_peek_15 (by decide) ?_
    exact retR_ip hx hb hr hlocks (by subst ex1; exact if_pos c2) hP hD hS dX3_peek_16
  · refine lv_aload_n hx hb dX3_peek_7 rfl (lv_at hl 0 rfl) ?_
    refine lv_iload_n hx hb dX3_peek_8 rfl (lv_at hl 1 rfl) ?_
    refine callR_ip (va_runV (As := [.int a1]) (rest := []) ⟨hx, hb, hml, hown, hts⟩ (c_X3_byteAt l dC dI h k _ σ a1 (isAddr_in (by rw [← ex1]; exact c2))) (cwV 1 hts gX3_peek_X3_byteAt rfl rfl rfl (by decide +kernel) ⟨Nat.le_of_ble_eq_true rfl, Nat.le_of_ble_eq_true rfl⟩) (preR_V (ci := 3) (q0 := 0) hct hP hD hS rfl rfl) rfl rfl hl.1 rfl (lv_room (Nat.le_of_ble_eq_true rfl)) dX3_peek_9 ⟨Nat.le_of_ble_eq_true rfl, Nat.le_of_ble_eq_true rfl⟩) hS (fun x3 H locs ex3 hP hD hS => ?_)
    refine lv_goto (tgt := 16) hx hb dX3_peek_12 (by decide) ?_
    exact retR_ip hx hb hr hlocks (by subst ex3; subst ex1; exact if_neg c2) hP hD hS dX3_peek_16

set_option maxHeartbeats 4000000 in
set_option maxRecDepth 100000 in
theorem c_X3_reg (l : Launch) (dC : Nat → ClassId) (dI : Nat → Nat → Nat) (h : Nat → Nat) (k : Nat → ClassId) (sz : Nat) (σ : StR) (a1 : Int32) : Met l yX3_reg wsX3_reg ({ frames := 0, cells := 0, slots := 0, locals := 0 }) (PcR (dC, dI) h k [.ref (h 0), .int a1] sz σ) (va_Qi (fun r u => (r, u) = (f_X3_reg σ a1, σ)) (BR (dC, dI) h k (AX 4 h sz)) (AX 4 h sz)) 0 0 (AX 4 h sz) := by
  refine Met.ofW (cc := cX3_reg) (maxL := 2) (ret := (some .int)) (by decide) rfl ?_
  intro p e s m args below meth c s₁ B hml hv
  obtain ⟨rfl, rfl, hP, hct, hD⟩ := hv
  have hx := B.exec
  have hb := B.bytes
  have hr := B.returns
  have hts := atoms_spec (ws := wsX3_reg) B.pre
  have hown : s.vm.findClass RX3 = some m.cls := findClass_of_methodNamed B.named
  have hlocks := B.notSynchronized
  have hK := hct.1
  have hS : va_S (AX 4 h s.heap.size) s.heap s.heap [] := va_S.rf
  have hl := lv_entry ([.ref (h 0), .int a1]) (n := 2) (Nat.le_of_ble_eq_true rfl)
  rw [lg_entry_eq]
  generalize (lg_sl ([.ref (h 0), .int a1]) ++ List.replicate (2 - (lg_sl ([.ref (h 0), .int a1])).length) Slot.unset).toArray = ls at hl ⊢
  have hl : lv_has ls 2 [(0, .ref (h 0)), (1, .int a1)] := hl
  refine lv_iload_n hx hb dX3_reg_0 rfl (lv_at hl 1 rfl) ?_
  refine lv_if_lt (tgt := 19) hx hb dX3_reg_1 (by decide) (fun c1 => ?_) (fun c1 => ?_)
  · refine lv_iconst (v := (-1)) hx hb dX3_reg_19 (by decide) ?_
    exact retR_ip hx hb hr hlocks (by exact if_pos c1) hP hD hS dX3_reg_20
  · refine lv_iload_n hx hb dX3_reg_4 rfl (lv_at hl 1 rfl) ?_
    refine lv_bipush (v := 16) hx hb dX3_reg_5 (by decide) ?_
    refine lv_icmp_ge (tgt := 19) hx hb dX3_reg_7 (by decide) (fun c2 => ?_) (fun c2 => ?_)
    · refine lv_iconst (v := (-1)) hx hb dX3_reg_19 (by decide) ?_
      exact retR_ip hx hb hr hlocks (by exact (if_neg c1).trans (if_pos c2)) hP hD hS dX3_reg_20
    · refine lv_aload_n hx hb dX3_reg_10 rfl (lv_at hl 0 rfl) ?_
      refine va_get (D := (dC, dI)) (ci := 3) (v := .ref (h 2)) (C := RX3) (T := TX3) (N := 9) hx hb hts (fun _ h9 => List.mem_cons_of_mem _ (List.mem_append_right _ h9)) hown hK hP 0 rfl rfl 1 (by decide) (hts (.fieldLink RX3 14 "LowPowerCpuModel" "\x72" "[I") (by decide +kernel)) (fun _ h9 => h9) rfl dX3_reg_11 ?_
      refine lv_iload_n hx hb dX3_reg_14 rfl (lv_at hl 1 rfl) ?_
      refine va_iald hx hb hK hP 2 0 rfl rfl (in_rng (N := 16) rfl c1 c2) dX3_reg_15 ?_
      refine lv_goto (tgt := 20) hx hb dX3_reg_16 (by decide) ?_
      exact retR_ip hx hb hr hlocks (by exact (if_neg c1).trans (if_neg c2)) hP hD hS dX3_reg_20

set_option maxHeartbeats 4000000 in
set_option maxRecDepth 100000 in
theorem c_X3_raise (l : Launch) (dC : Nat → ClassId) (dI : Nat → Nat → Nat) (h : Nat → Nat) (k : Nat → ClassId) (sz : Nat) (σ : StR) (a1 : Int32) : Met l yX3_raise wsX3_raise ({ frames := 0, cells := 0, slots := 0, locals := 0 }) (PcR (dC, dI) h k [.ref (h 0), .int a1] sz σ) (va_Qi (fun r u => (r, u) = (f_X3_raise σ a1)) (BR (dC, dI) h k (AX 4 h sz)) (AX 4 h sz)) 0 0 (AX 4 h sz) := by
  refine Met.ofW (cc := cX3_raise) (maxL := 2) (ret := (some .boolean)) (by decide) rfl ?_
  intro p e s m args below meth c s₁ B hml hv
  obtain ⟨rfl, rfl, hP, hct, hD⟩ := hv
  have hx := B.exec
  have hb := B.bytes
  have hr := B.returns
  have hts := atoms_spec (ws := wsX3_raise) B.pre
  have hown : s.vm.findClass RX3 = some m.cls := findClass_of_methodNamed B.named
  have hlocks := B.notSynchronized
  have hK := hct.1
  have hS : va_S (AX 4 h s.heap.size) s.heap s.heap [] := va_S.rf
  have hl := lv_entry ([.ref (h 0), .int a1]) (n := 2) (Nat.le_of_ble_eq_true rfl)
  rw [lg_entry_eq]
  generalize (lg_sl ([.ref (h 0), .int a1]) ++ List.replicate (2 - (lg_sl ([.ref (h 0), .int a1])).length) Slot.unset).toArray = ls at hl ⊢
  have hl : lv_has ls 2 [(0, .ref (h 0)), (1, .int a1)] := hl
  refine lv_iload_n hx hb dX3_raise_0 rfl (lv_at hl 1 rfl) ?_
  refine lv_if_lt (tgt := 10) hx hb dX3_raise_1 (by decide) (fun c1 => ?_) (fun c1 => ?_)
  · refine lv_iconst (v := 0) hx hb dX3_raise_10 (by decide) ?_
    exact retR_z hx hb hr hlocks rfl (by exact if_pos c1) hP hD hS dX3_raise_11
  · refine lv_iload_n hx hb dX3_raise_4 rfl (lv_at hl 1 rfl) ?_
    refine lv_bipush (v := 13) hx hb dX3_raise_5 (by decide) ?_
    refine lv_icmp_le (tgt := 12) hx hb dX3_raise_7 (by decide) (fun c2 => ?_) (fun c2 => ?_)
    · refine lv_aload_n hx hb dX3_raise_12 rfl (lv_at hl 0 rfl) ?_
      refine lv_dup hx hb dX3_raise_13 rfl ?_
      refine va_get (D := (dC, dI)) (ci := 3) (v := .int σ.2.2.2.2.1) (C := RX3) (T := TX3) (N := 9) hx hb hts (fun _ h9 => List.mem_cons_of_mem _ (List.mem_append_right _ h9)) hown hK hP 0 rfl rfl 4 (by decide) (hts (.fieldLink RX3 28 "LowPowerCpuModel" "lines" "I") (by decide +kernel)) (fun _ h9 => h9) rfl dX3_raise_14 ?_
      refine lv_iconst (v := 1) hx hb dX3_raise_17 (by decide) ?_
      refine lv_iload_n hx hb dX3_raise_18 rfl (lv_at hl 1 rfl) ?_
      refine lv_ishl hx hb dX3_raise_19 ?_
      refine lv_ior hx hb dX3_raise_20 ?_
      refine lv_topi (fun x3 ex3 => ?_)
      refine va_put (D := (dC, dI)) (ci := 3) (v := .int x3) (ty := .int) (C := RX3) (T := TX3) (N := 9) hx hb hts (fun _ h9 => List.mem_cons_of_mem _ (List.mem_append_right _ h9)) tyX3 tyX3_ok nmX3 hown hK hP hD hS 0 rfl rfl 4 (by decide) (hts (.fieldLink RX3 28 "LowPowerCpuModel" "lines" "I") (by decide +kernel)) (fun _ h9 => h9) rfl (by decide +kernel) rfl rfl (Nat.le_of_ble_eq_true rfl) dX3_raise_21 (fun H locs hP hD hS => ?_)
      have hP : va_P (dC, dI) vwCl (wsR h k (σ.1, σ.2.1, σ.2.2.1, σ.2.2.2.1, x3, σ.2.2.2.2.2.1, σ.2.2.2.2.2.2.1, σ.2.2.2.2.2.2.2.1, σ.2.2.2.2.2.2.2.2)) H := hP
      have hD : va_D (AX 4 h s.heap.size) (wsR h k (σ.1, σ.2.1, σ.2.2.1, σ.2.2.2.1, x3, σ.2.2.2.2.2.1, σ.2.2.2.2.2.2.1, σ.2.2.2.2.2.2.2.1, σ.2.2.2.2.2.2.2.2)) := hD
      refine lv_iconst (v := 1) hx hb dX3_raise_24 (by decide) ?_
      exact retR_z hx hb hr hlocks rfl (by subst ex3; exact (if_neg c1).trans (if_pos c2)) hP hD hS dX3_raise_25
    · refine lv_iconst (v := 0) hx hb dX3_raise_10 (by decide) ?_
      exact retR_z hx hb hr hlocks rfl (by exact (if_neg c1).trans (if_neg c2)) hP hD hS dX3_raise_11

set_option maxHeartbeats 4000000 in
set_option maxRecDepth 100000 in
theorem c_X3_cyclesOf (l : Launch) (dC : Nat → ClassId) (dI : Nat → Nat → Nat) (h : Nat → Nat) (k : Nat → ClassId) (sz : Nat) (σ : StR) : Met l yX3_cyclesOf wsX3_cyclesOf ({ frames := 0, cells := 0, slots := 0, locals := 0 }) (PcR (dC, dI) h k [.ref (h 0)] sz σ) (va_Qi (fun r u => (r, u) = (f_X3_cyclesOf σ, σ)) (BR (dC, dI) h k (AX 4 h sz)) (AX 4 h sz)) 0 0 (AX 4 h sz) := by
  refine Met.ofW (cc := cX3_cyclesOf) (maxL := 1) (ret := (some .int)) (by decide) rfl ?_
  intro p e s m args below meth c s₁ B hml hv
  obtain ⟨rfl, rfl, hP, hct, hD⟩ := hv
  have hx := B.exec
  have hb := B.bytes
  have hr := B.returns
  have hts := atoms_spec (ws := wsX3_cyclesOf) B.pre
  have hown : s.vm.findClass RX3 = some m.cls := findClass_of_methodNamed B.named
  have hlocks := B.notSynchronized
  have hK := hct.1
  have hS : va_S (AX 4 h s.heap.size) s.heap s.heap [] := va_S.rf
  have hl := lv_entry ([.ref (h 0)]) (n := 1) (Nat.le_of_ble_eq_true rfl)
  rw [lg_entry_eq]
  generalize (lg_sl ([.ref (h 0)]) ++ List.replicate (1 - (lg_sl ([.ref (h 0)])).length) Slot.unset).toArray = ls at hl ⊢
  have hl : lv_has ls 1 [(0, .ref (h 0))] := hl
  refine lv_aload_n hx hb dX3_cyclesOf_0 rfl (lv_at hl 0 rfl) ?_
  refine va_get (D := (dC, dI)) (ci := 3) (v := .int σ.2.2.2.2.2.1) (C := RX3) (T := TX3) (N := 9) hx hb hts (fun _ h9 => List.mem_cons_of_mem _ (List.mem_append_right _ h9)) hown hK hP 0 rfl rfl 5 (by decide) (hts (.fieldLink RX3 31 "LowPowerCpuModel" "cycles" "I") (by decide +kernel)) (fun _ h9 => h9) rfl dX3_cyclesOf_1 ?_
  exact retR_ip hx hb hr hlocks (by exact rfl) hP hD hS dX3_cyclesOf_4

set_option maxHeartbeats 4000000 in
set_option maxRecDepth 100000 in
theorem c_X3_pending (l : Launch) (dC : Nat → ClassId) (dI : Nat → Nat → Nat) (h : Nat → Nat) (k : Nat → ClassId) (sz : Nat) (σ : StR) : Met l yX3_pending wsX3_pending ({ frames := 0, cells := 0, slots := 0, locals := 0 }) (PcR (dC, dI) h k [.ref (h 0)] sz σ) (va_Qi (fun r u => (r, u) = (f_X3_pending σ, σ)) (BR (dC, dI) h k (AX 4 h sz)) (AX 4 h sz)) 0 0 (AX 4 h sz) := by
  refine Met.ofW (cc := cX3_pending) (maxL := 1) (ret := (some .int)) (by decide) rfl ?_
  intro p e s m args below meth c s₁ B hml hv
  obtain ⟨rfl, rfl, hP, hct, hD⟩ := hv
  have hx := B.exec
  have hb := B.bytes
  have hr := B.returns
  have hts := atoms_spec (ws := wsX3_pending) B.pre
  have hown : s.vm.findClass RX3 = some m.cls := findClass_of_methodNamed B.named
  have hlocks := B.notSynchronized
  have hK := hct.1
  have hS : va_S (AX 4 h s.heap.size) s.heap s.heap [] := va_S.rf
  have hl := lv_entry ([.ref (h 0)]) (n := 1) (Nat.le_of_ble_eq_true rfl)
  rw [lg_entry_eq]
  generalize (lg_sl ([.ref (h 0)]) ++ List.replicate (1 - (lg_sl ([.ref (h 0)])).length) Slot.unset).toArray = ls at hl ⊢
  have hl : lv_has ls 1 [(0, .ref (h 0))] := hl
  refine lv_aload_n hx hb dX3_pending_0 rfl (lv_at hl 0 rfl) ?_
  refine va_get (D := (dC, dI)) (ci := 3) (v := .int σ.2.2.2.2.1) (C := RX3) (T := TX3) (N := 9) hx hb hts (fun _ h9 => List.mem_cons_of_mem _ (List.mem_append_right _ h9)) hown hK hP 0 rfl rfl 4 (by decide) (hts (.fieldLink RX3 28 "LowPowerCpuModel" "lines" "I") (by decide +kernel)) (fun _ h9 => h9) rfl dX3_pending_1 ?_
  exact retR_ip hx hb hr hlocks (by exact rfl) hP hD hS dX3_pending_4

set_option maxHeartbeats 4000000 in
set_option maxRecDepth 100000 in
theorem c_X3_mode (l : Launch) (dC : Nat → ClassId) (dI : Nat → Nat → Nat) (h : Nat → Nat) (k : Nat → ClassId) (sz : Nat) (σ : StR) : Met l yX3_mode wsX3_mode ({ frames := 0, cells := 0, slots := 0, locals := 0 }) (PcR (dC, dI) h k [.ref (h 0)] sz σ) (va_Qi (fun r u => (r, u) = (f_X3_mode σ, σ)) (BR (dC, dI) h k (AX 4 h sz)) (AX 4 h sz)) 0 0 (AX 4 h sz) := by
  refine Met.ofW (cc := cX3_mode) (maxL := 1) (ret := (some .int)) (by decide) rfl ?_
  intro p e s m args below meth c s₁ B hml hv
  obtain ⟨rfl, rfl, hP, hct, hD⟩ := hv
  have hx := B.exec
  have hb := B.bytes
  have hr := B.returns
  have hts := atoms_spec (ws := wsX3_mode) B.pre
  have hown : s.vm.findClass RX3 = some m.cls := findClass_of_methodNamed B.named
  have hlocks := B.notSynchronized
  have hK := hct.1
  have hS : va_S (AX 4 h s.heap.size) s.heap s.heap [] := va_S.rf
  have hl := lv_entry ([.ref (h 0)]) (n := 1) (Nat.le_of_ble_eq_true rfl)
  rw [lg_entry_eq]
  generalize (lg_sl ([.ref (h 0)]) ++ List.replicate (1 - (lg_sl ([.ref (h 0)])).length) Slot.unset).toArray = ls at hl ⊢
  have hl : lv_has ls 1 [(0, .ref (h 0))] := hl
  refine lv_aload_n hx hb dX3_mode_0 rfl (lv_at hl 0 rfl) ?_
  refine va_get (D := (dC, dI)) (ci := 3) (v := .int σ.2.2.2.1) (C := RX3) (T := TX3) (N := 9) hx hb hts (fun _ h9 => List.mem_cons_of_mem _ (List.mem_append_right _ h9)) hown hK hP 0 rfl rfl 3 (by decide) (hts (.fieldLink RX3 24 "LowPowerCpuModel" "how" "I") (by decide +kernel)) (fun _ h9 => h9) rfl dX3_mode_1 ?_
  exact retR_ip hx hb hr hlocks (by exact rfl) hP hD hS dX3_mode_4

set_option maxHeartbeats 4000000 in
set_option maxRecDepth 100000 in
theorem c_X3_init_ (l : Launch) (dC : Nat → ClassId) (dI : Nat → Nat → Nat) (h : Nat → Nat) (k : Nat → ClassId) (sz : Nat) (σ : StR) : Met l yX3_init_ wsX3_init_ ({ frames := 2, cells := 0, slots := 0, locals := 41 }) (PcR (dC, dI) h k [.ref (h 0)] sz σ) (va_Qv (fun u => u = f_X3_init_ σ) (BR (dC, dI) h k (AX 4 h sz)) (AX 4 h sz)) 0 0 (AX 4 h sz) := by
  refine Met.ofW (cc := cX3_init_) (maxL := 2) (ret := none) (by decide) rfl ?_
  intro p e s m args below meth c s₁ B hml hv
  obtain ⟨rfl, rfl, hP, hct, hD⟩ := hv
  have hx := B.exec
  have hb := B.bytes
  have hr := B.returns
  have hts := atoms_spec (ws := wsX3_init_) B.pre
  have hown : s.vm.findClass RX3 = some m.cls := findClass_of_methodNamed B.named
  have hlocks := B.notSynchronized
  have hK := hct.1
  have hS : va_S (AX 4 h s.heap.size) s.heap s.heap [] := va_S.rf
  have hl := lv_entry ([.ref (h 0)]) (n := 2) (Nat.le_of_ble_eq_true rfl)
  rw [lg_entry_eq]
  generalize (lg_sl ([.ref (h 0)]) ++ List.replicate (2 - (lg_sl ([.ref (h 0)])).length) Slot.unset).toArray = ls at hl ⊢
  have hl : lv_has ls 2 [(0, .ref (h 0))] := hl
  refine lv_iconst (v := 0) hx hb dX3_init__0 (by decide) ?_
  refine lv_istore_n (lv' := [(1, .int 0), (0, .ref (h 0))]) hx hb dX3_init__1 rfl hl (by decide) rfl (fun ls hl => ?_)
  refine lv_iload_n hx hb dX3_init__2 rfl (lv_at hl 0 rfl) ?_
  refine lv_bipush (v := 16) hx hb dX3_init__3 (by decide) ?_
  refine lv_icmp_ge (tgt := 21) hx hb dX3_init__5 (by decide) (fun c1 => absurd c1 (by decide)) (fun _ => ?_)
  refine lv_aload_n hx hb dX3_init__8 rfl (lv_at hl 1 rfl) ?_
  refine va_get (D := (dC, dI)) (ci := 3) (v := .ref (h 2)) (C := RX3) (T := TX3) (N := 9) hx hb hts (fun _ h9 => List.mem_cons_of_mem _ (List.mem_append_right _ h9)) hown hK hP 0 rfl rfl 1 (by decide) (hts (.fieldLink RX3 14 "LowPowerCpuModel" "\x72" "[I") (by decide +kernel)) (fun _ h9 => h9) rfl dX3_init__9 ?_
  refine lv_iload_n hx hb dX3_init__12 rfl (lv_at hl 0 rfl) ?_
  refine lv_iconst (v := 0) hx hb dX3_init__13 (by decide) ?_
  refine va_iast hx hb hK hP hD hS 2 0 rfl rfl (in_c (by decide)) dX3_init__14 (fun H locs hP hD hS => ?_)
  have hP : va_P (dC, dI) vwCl (wsR h k (σ.1, upd σ.2.1 ((0 : Int32).toNatClampNeg) 0, σ.2.2.1, σ.2.2.2.1, σ.2.2.2.2.1, σ.2.2.2.2.2.1, σ.2.2.2.2.2.2.1, σ.2.2.2.2.2.2.2.1, σ.2.2.2.2.2.2.2.2)) H := hP
  have hD : va_D (AX 4 h s.heap.size) (wsR h k (σ.1, upd σ.2.1 ((0 : Int32).toNatClampNeg) 0, σ.2.2.1, σ.2.2.2.1, σ.2.2.2.2.1, σ.2.2.2.2.2.1, σ.2.2.2.2.2.2.1, σ.2.2.2.2.2.2.2.1, σ.2.2.2.2.2.2.2.2)) := hD
  -- iinc
  refine lv_iinc (v := 1) (lv' := [(1, .int 1), (0, .ref (h 0))]) hx hb dX3_init__15 hl (k := 0) rfl (by decide) (by decide) rfl (fun ls hl => ?_)
  refine lv_goto (tgt := 2) hx hb dX3_init__18 (by decide) ?_
  refine lv_iload_n hx hb dX3_init__2 rfl (lv_at hl 0 rfl) ?_
  refine lv_bipush (v := 16) hx hb dX3_init__3 (by decide) ?_
  refine lv_icmp_ge (tgt := 21) hx hb dX3_init__5 (by decide) (fun c2 => absurd c2 (by decide)) (fun _ => ?_)
  refine lv_aload_n hx hb dX3_init__8 rfl (lv_at hl 1 rfl) ?_
  refine va_get (D := (dC, dI)) (ci := 3) (v := .ref (h 2)) (C := RX3) (T := TX3) (N := 9) hx hb hts (fun _ h9 => List.mem_cons_of_mem _ (List.mem_append_right _ h9)) hown hK hP 0 rfl rfl 1 (by decide) (hts (.fieldLink RX3 14 "LowPowerCpuModel" "\x72" "[I") (by decide +kernel)) (fun _ h9 => h9) rfl dX3_init__9 ?_
  refine lv_iload_n hx hb dX3_init__12 rfl (lv_at hl 0 rfl) ?_
  refine lv_iconst (v := 0) hx hb dX3_init__13 (by decide) ?_
  refine va_iast hx hb hK hP hD hS 2 0 rfl rfl (in_c (by decide)) dX3_init__14 (fun H locs hP hD hS => ?_)
  have hP : va_P (dC, dI) vwCl (wsR h k (σ.1, upd (upd σ.2.1 ((0 : Int32).toNatClampNeg) 0) ((1 : Int32).toNatClampNeg) 0, σ.2.2.1, σ.2.2.2.1, σ.2.2.2.2.1, σ.2.2.2.2.2.1, σ.2.2.2.2.2.2.1, σ.2.2.2.2.2.2.2.1, σ.2.2.2.2.2.2.2.2)) H := hP
  have hD : va_D (AX 4 h s.heap.size) (wsR h k (σ.1, upd (upd σ.2.1 ((0 : Int32).toNatClampNeg) 0) ((1 : Int32).toNatClampNeg) 0, σ.2.2.1, σ.2.2.2.1, σ.2.2.2.2.1, σ.2.2.2.2.2.1, σ.2.2.2.2.2.2.1, σ.2.2.2.2.2.2.2.1, σ.2.2.2.2.2.2.2.2)) := hD
  -- iinc
  refine lv_iinc (v := 2) (lv' := [(1, .int 2), (0, .ref (h 0))]) hx hb dX3_init__15 hl (k := 0) rfl (by decide) (by decide) rfl (fun ls hl => ?_)
  refine lv_goto (tgt := 2) hx hb dX3_init__18 (by decide) ?_
  refine lv_iload_n hx hb dX3_init__2 rfl (lv_at hl 0 rfl) ?_
  refine lv_bipush (v := 16) hx hb dX3_init__3 (by decide) ?_
  refine lv_icmp_ge (tgt := 21) hx hb dX3_init__5 (by decide) (fun c3 => absurd c3 (by decide)) (fun _ => ?_)
  refine lv_aload_n hx hb dX3_init__8 rfl (lv_at hl 1 rfl) ?_
  refine va_get (D := (dC, dI)) (ci := 3) (v := .ref (h 2)) (C := RX3) (T := TX3) (N := 9) hx hb hts (fun _ h9 => List.mem_cons_of_mem _ (List.mem_append_right _ h9)) hown hK hP 0 rfl rfl 1 (by decide) (hts (.fieldLink RX3 14 "LowPowerCpuModel" "\x72" "[I") (by decide +kernel)) (fun _ h9 => h9) rfl dX3_init__9 ?_
  refine lv_iload_n hx hb dX3_init__12 rfl (lv_at hl 0 rfl) ?_
  refine lv_iconst (v := 0) hx hb dX3_init__13 (by decide) ?_
  refine va_iast hx hb hK hP hD hS 2 0 rfl rfl (in_c (by decide)) dX3_init__14 (fun H locs hP hD hS => ?_)
  have hP : va_P (dC, dI) vwCl (wsR h k (σ.1, upd (upd (upd σ.2.1 ((0 : Int32).toNatClampNeg) 0) ((1 : Int32).toNatClampNeg) 0) ((2 : Int32).toNatClampNeg) 0, σ.2.2.1, σ.2.2.2.1, σ.2.2.2.2.1, σ.2.2.2.2.2.1, σ.2.2.2.2.2.2.1, σ.2.2.2.2.2.2.2.1, σ.2.2.2.2.2.2.2.2)) H := hP
  have hD : va_D (AX 4 h s.heap.size) (wsR h k (σ.1, upd (upd (upd σ.2.1 ((0 : Int32).toNatClampNeg) 0) ((1 : Int32).toNatClampNeg) 0) ((2 : Int32).toNatClampNeg) 0, σ.2.2.1, σ.2.2.2.1, σ.2.2.2.2.1, σ.2.2.2.2.2.1, σ.2.2.2.2.2.2.1, σ.2.2.2.2.2.2.2.1, σ.2.2.2.2.2.2.2.2)) := hD
  -- iinc
  refine lv_iinc (v := 3) (lv' := [(1, .int 3), (0, .ref (h 0))]) hx hb dX3_init__15 hl (k := 0) rfl (by decide) (by decide) rfl (fun ls hl => ?_)
  refine lv_goto (tgt := 2) hx hb dX3_init__18 (by decide) ?_
  refine lv_iload_n hx hb dX3_init__2 rfl (lv_at hl 0 rfl) ?_
  refine lv_bipush (v := 16) hx hb dX3_init__3 (by decide) ?_
  refine lv_icmp_ge (tgt := 21) hx hb dX3_init__5 (by decide) (fun c4 => absurd c4 (by decide)) (fun _ => ?_)
  refine lv_aload_n hx hb dX3_init__8 rfl (lv_at hl 1 rfl) ?_
  refine va_get (D := (dC, dI)) (ci := 3) (v := .ref (h 2)) (C := RX3) (T := TX3) (N := 9) hx hb hts (fun _ h9 => List.mem_cons_of_mem _ (List.mem_append_right _ h9)) hown hK hP 0 rfl rfl 1 (by decide) (hts (.fieldLink RX3 14 "LowPowerCpuModel" "\x72" "[I") (by decide +kernel)) (fun _ h9 => h9) rfl dX3_init__9 ?_
  refine lv_iload_n hx hb dX3_init__12 rfl (lv_at hl 0 rfl) ?_
  refine lv_iconst (v := 0) hx hb dX3_init__13 (by decide) ?_
  refine va_iast hx hb hK hP hD hS 2 0 rfl rfl (in_c (by decide)) dX3_init__14 (fun H locs hP hD hS => ?_)
  have hP : va_P (dC, dI) vwCl (wsR h k (σ.1, upd (upd (upd (upd σ.2.1 ((0 : Int32).toNatClampNeg) 0) ((1 : Int32).toNatClampNeg) 0) ((2 : Int32).toNatClampNeg) 0) ((3 : Int32).toNatClampNeg) 0, σ.2.2.1, σ.2.2.2.1, σ.2.2.2.2.1, σ.2.2.2.2.2.1, σ.2.2.2.2.2.2.1, σ.2.2.2.2.2.2.2.1, σ.2.2.2.2.2.2.2.2)) H := hP
  have hD : va_D (AX 4 h s.heap.size) (wsR h k (σ.1, upd (upd (upd (upd σ.2.1 ((0 : Int32).toNatClampNeg) 0) ((1 : Int32).toNatClampNeg) 0) ((2 : Int32).toNatClampNeg) 0) ((3 : Int32).toNatClampNeg) 0, σ.2.2.1, σ.2.2.2.1, σ.2.2.2.2.1, σ.2.2.2.2.2.1, σ.2.2.2.2.2.2.1, σ.2.2.2.2.2.2.2.1, σ.2.2.2.2.2.2.2.2)) := hD
  -- iinc
  refine lv_iinc (v := 4) (lv' := [(1, .int 4), (0, .ref (h 0))]) hx hb dX3_init__15 hl (k := 0) rfl (by decide) (by decide) rfl (fun ls hl => ?_)
  refine lv_goto (tgt := 2) hx hb dX3_init__18 (by decide) ?_
  refine lv_iload_n hx hb dX3_init__2 rfl (lv_at hl 0 rfl) ?_
  refine lv_bipush (v := 16) hx hb dX3_init__3 (by decide) ?_
  refine lv_icmp_ge (tgt := 21) hx hb dX3_init__5 (by decide) (fun c5 => absurd c5 (by decide)) (fun _ => ?_)
  refine lv_aload_n hx hb dX3_init__8 rfl (lv_at hl 1 rfl) ?_
  refine va_get (D := (dC, dI)) (ci := 3) (v := .ref (h 2)) (C := RX3) (T := TX3) (N := 9) hx hb hts (fun _ h9 => List.mem_cons_of_mem _ (List.mem_append_right _ h9)) hown hK hP 0 rfl rfl 1 (by decide) (hts (.fieldLink RX3 14 "LowPowerCpuModel" "\x72" "[I") (by decide +kernel)) (fun _ h9 => h9) rfl dX3_init__9 ?_
  refine lv_iload_n hx hb dX3_init__12 rfl (lv_at hl 0 rfl) ?_
  refine lv_iconst (v := 0) hx hb dX3_init__13 (by decide) ?_
  refine va_iast hx hb hK hP hD hS 2 0 rfl rfl (in_c (by decide)) dX3_init__14 (fun H locs hP hD hS => ?_)
  have hP : va_P (dC, dI) vwCl (wsR h k (σ.1, upd (upd (upd (upd (upd σ.2.1 ((0 : Int32).toNatClampNeg) 0) ((1 : Int32).toNatClampNeg) 0) ((2 : Int32).toNatClampNeg) 0) ((3 : Int32).toNatClampNeg) 0) ((4 : Int32).toNatClampNeg) 0, σ.2.2.1, σ.2.2.2.1, σ.2.2.2.2.1, σ.2.2.2.2.2.1, σ.2.2.2.2.2.2.1, σ.2.2.2.2.2.2.2.1, σ.2.2.2.2.2.2.2.2)) H := hP
  have hD : va_D (AX 4 h s.heap.size) (wsR h k (σ.1, upd (upd (upd (upd (upd σ.2.1 ((0 : Int32).toNatClampNeg) 0) ((1 : Int32).toNatClampNeg) 0) ((2 : Int32).toNatClampNeg) 0) ((3 : Int32).toNatClampNeg) 0) ((4 : Int32).toNatClampNeg) 0, σ.2.2.1, σ.2.2.2.1, σ.2.2.2.2.1, σ.2.2.2.2.2.1, σ.2.2.2.2.2.2.1, σ.2.2.2.2.2.2.2.1, σ.2.2.2.2.2.2.2.2)) := hD
  -- iinc
  refine lv_iinc (v := 5) (lv' := [(1, .int 5), (0, .ref (h 0))]) hx hb dX3_init__15 hl (k := 0) rfl (by decide) (by decide) rfl (fun ls hl => ?_)
  refine lv_goto (tgt := 2) hx hb dX3_init__18 (by decide) ?_
  refine lv_iload_n hx hb dX3_init__2 rfl (lv_at hl 0 rfl) ?_
  refine lv_bipush (v := 16) hx hb dX3_init__3 (by decide) ?_
  refine lv_icmp_ge (tgt := 21) hx hb dX3_init__5 (by decide) (fun c6 => absurd c6 (by decide)) (fun _ => ?_)
  refine lv_aload_n hx hb dX3_init__8 rfl (lv_at hl 1 rfl) ?_
  refine va_get (D := (dC, dI)) (ci := 3) (v := .ref (h 2)) (C := RX3) (T := TX3) (N := 9) hx hb hts (fun _ h9 => List.mem_cons_of_mem _ (List.mem_append_right _ h9)) hown hK hP 0 rfl rfl 1 (by decide) (hts (.fieldLink RX3 14 "LowPowerCpuModel" "\x72" "[I") (by decide +kernel)) (fun _ h9 => h9) rfl dX3_init__9 ?_
  refine lv_iload_n hx hb dX3_init__12 rfl (lv_at hl 0 rfl) ?_
  refine lv_iconst (v := 0) hx hb dX3_init__13 (by decide) ?_
  refine va_iast hx hb hK hP hD hS 2 0 rfl rfl (in_c (by decide)) dX3_init__14 (fun H locs hP hD hS => ?_)
  have hP : va_P (dC, dI) vwCl (wsR h k (σ.1, upd (upd (upd (upd (upd (upd σ.2.1 ((0 : Int32).toNatClampNeg) 0) ((1 : Int32).toNatClampNeg) 0) ((2 : Int32).toNatClampNeg) 0) ((3 : Int32).toNatClampNeg) 0) ((4 : Int32).toNatClampNeg) 0) ((5 : Int32).toNatClampNeg) 0, σ.2.2.1, σ.2.2.2.1, σ.2.2.2.2.1, σ.2.2.2.2.2.1, σ.2.2.2.2.2.2.1, σ.2.2.2.2.2.2.2.1, σ.2.2.2.2.2.2.2.2)) H := hP
  have hD : va_D (AX 4 h s.heap.size) (wsR h k (σ.1, upd (upd (upd (upd (upd (upd σ.2.1 ((0 : Int32).toNatClampNeg) 0) ((1 : Int32).toNatClampNeg) 0) ((2 : Int32).toNatClampNeg) 0) ((3 : Int32).toNatClampNeg) 0) ((4 : Int32).toNatClampNeg) 0) ((5 : Int32).toNatClampNeg) 0, σ.2.2.1, σ.2.2.2.1, σ.2.2.2.2.1, σ.2.2.2.2.2.1, σ.2.2.2.2.2.2.1, σ.2.2.2.2.2.2.2.1, σ.2.2.2.2.2.2.2.2)) := hD
  -- iinc
  refine lv_iinc (v := 6) (lv' := [(1, .int 6), (0, .ref (h 0))]) hx hb dX3_init__15 hl (k := 0) rfl (by decide) (by decide) rfl (fun ls hl => ?_)
  refine lv_goto (tgt := 2) hx hb dX3_init__18 (by decide) ?_
  refine lv_iload_n hx hb dX3_init__2 rfl (lv_at hl 0 rfl) ?_
  refine lv_bipush (v := 16) hx hb dX3_init__3 (by decide) ?_
  refine lv_icmp_ge (tgt := 21) hx hb dX3_init__5 (by decide) (fun c7 => absurd c7 (by decide)) (fun _ => ?_)
  refine lv_aload_n hx hb dX3_init__8 rfl (lv_at hl 1 rfl) ?_
  refine va_get (D := (dC, dI)) (ci := 3) (v := .ref (h 2)) (C := RX3) (T := TX3) (N := 9) hx hb hts (fun _ h9 => List.mem_cons_of_mem _ (List.mem_append_right _ h9)) hown hK hP 0 rfl rfl 1 (by decide) (hts (.fieldLink RX3 14 "LowPowerCpuModel" "\x72" "[I") (by decide +kernel)) (fun _ h9 => h9) rfl dX3_init__9 ?_
  refine lv_iload_n hx hb dX3_init__12 rfl (lv_at hl 0 rfl) ?_
  refine lv_iconst (v := 0) hx hb dX3_init__13 (by decide) ?_
  refine va_iast hx hb hK hP hD hS 2 0 rfl rfl (in_c (by decide)) dX3_init__14 (fun H locs hP hD hS => ?_)
  have hP : va_P (dC, dI) vwCl (wsR h k (σ.1, upd (upd (upd (upd (upd (upd (upd σ.2.1 ((0 : Int32).toNatClampNeg) 0) ((1 : Int32).toNatClampNeg) 0) ((2 : Int32).toNatClampNeg) 0) ((3 : Int32).toNatClampNeg) 0) ((4 : Int32).toNatClampNeg) 0) ((5 : Int32).toNatClampNeg) 0) ((6 : Int32).toNatClampNeg) 0, σ.2.2.1, σ.2.2.2.1, σ.2.2.2.2.1, σ.2.2.2.2.2.1, σ.2.2.2.2.2.2.1, σ.2.2.2.2.2.2.2.1, σ.2.2.2.2.2.2.2.2)) H := hP
  have hD : va_D (AX 4 h s.heap.size) (wsR h k (σ.1, upd (upd (upd (upd (upd (upd (upd σ.2.1 ((0 : Int32).toNatClampNeg) 0) ((1 : Int32).toNatClampNeg) 0) ((2 : Int32).toNatClampNeg) 0) ((3 : Int32).toNatClampNeg) 0) ((4 : Int32).toNatClampNeg) 0) ((5 : Int32).toNatClampNeg) 0) ((6 : Int32).toNatClampNeg) 0, σ.2.2.1, σ.2.2.2.1, σ.2.2.2.2.1, σ.2.2.2.2.2.1, σ.2.2.2.2.2.2.1, σ.2.2.2.2.2.2.2.1, σ.2.2.2.2.2.2.2.2)) := hD
  -- iinc
  refine lv_iinc (v := 7) (lv' := [(1, .int 7), (0, .ref (h 0))]) hx hb dX3_init__15 hl (k := 0) rfl (by decide) (by decide) rfl (fun ls hl => ?_)
  refine lv_goto (tgt := 2) hx hb dX3_init__18 (by decide) ?_
  refine lv_iload_n hx hb dX3_init__2 rfl (lv_at hl 0 rfl) ?_
  refine lv_bipush (v := 16) hx hb dX3_init__3 (by decide) ?_
  refine lv_icmp_ge (tgt := 21) hx hb dX3_init__5 (by decide) (fun c8 => absurd c8 (by decide)) (fun _ => ?_)
  refine lv_aload_n hx hb dX3_init__8 rfl (lv_at hl 1 rfl) ?_
  refine va_get (D := (dC, dI)) (ci := 3) (v := .ref (h 2)) (C := RX3) (T := TX3) (N := 9) hx hb hts (fun _ h9 => List.mem_cons_of_mem _ (List.mem_append_right _ h9)) hown hK hP 0 rfl rfl 1 (by decide) (hts (.fieldLink RX3 14 "LowPowerCpuModel" "\x72" "[I") (by decide +kernel)) (fun _ h9 => h9) rfl dX3_init__9 ?_
  refine lv_iload_n hx hb dX3_init__12 rfl (lv_at hl 0 rfl) ?_
  refine lv_iconst (v := 0) hx hb dX3_init__13 (by decide) ?_
  refine va_iast hx hb hK hP hD hS 2 0 rfl rfl (in_c (by decide)) dX3_init__14 (fun H locs hP hD hS => ?_)
  have hP : va_P (dC, dI) vwCl (wsR h k (σ.1, upd (upd (upd (upd (upd (upd (upd (upd σ.2.1 ((0 : Int32).toNatClampNeg) 0) ((1 : Int32).toNatClampNeg) 0) ((2 : Int32).toNatClampNeg) 0) ((3 : Int32).toNatClampNeg) 0) ((4 : Int32).toNatClampNeg) 0) ((5 : Int32).toNatClampNeg) 0) ((6 : Int32).toNatClampNeg) 0) ((7 : Int32).toNatClampNeg) 0, σ.2.2.1, σ.2.2.2.1, σ.2.2.2.2.1, σ.2.2.2.2.2.1, σ.2.2.2.2.2.2.1, σ.2.2.2.2.2.2.2.1, σ.2.2.2.2.2.2.2.2)) H := hP
  have hD : va_D (AX 4 h s.heap.size) (wsR h k (σ.1, upd (upd (upd (upd (upd (upd (upd (upd σ.2.1 ((0 : Int32).toNatClampNeg) 0) ((1 : Int32).toNatClampNeg) 0) ((2 : Int32).toNatClampNeg) 0) ((3 : Int32).toNatClampNeg) 0) ((4 : Int32).toNatClampNeg) 0) ((5 : Int32).toNatClampNeg) 0) ((6 : Int32).toNatClampNeg) 0) ((7 : Int32).toNatClampNeg) 0, σ.2.2.1, σ.2.2.2.1, σ.2.2.2.2.1, σ.2.2.2.2.2.1, σ.2.2.2.2.2.2.1, σ.2.2.2.2.2.2.2.1, σ.2.2.2.2.2.2.2.2)) := hD
  -- iinc
  refine lv_iinc (v := 8) (lv' := [(1, .int 8), (0, .ref (h 0))]) hx hb dX3_init__15 hl (k := 0) rfl (by decide) (by decide) rfl (fun ls hl => ?_)
  refine lv_goto (tgt := 2) hx hb dX3_init__18 (by decide) ?_
  refine lv_iload_n hx hb dX3_init__2 rfl (lv_at hl 0 rfl) ?_
  refine lv_bipush (v := 16) hx hb dX3_init__3 (by decide) ?_
  refine lv_icmp_ge (tgt := 21) hx hb dX3_init__5 (by decide) (fun c9 => absurd c9 (by decide)) (fun _ => ?_)
  refine lv_aload_n hx hb dX3_init__8 rfl (lv_at hl 1 rfl) ?_
  refine va_get (D := (dC, dI)) (ci := 3) (v := .ref (h 2)) (C := RX3) (T := TX3) (N := 9) hx hb hts (fun _ h9 => List.mem_cons_of_mem _ (List.mem_append_right _ h9)) hown hK hP 0 rfl rfl 1 (by decide) (hts (.fieldLink RX3 14 "LowPowerCpuModel" "\x72" "[I") (by decide +kernel)) (fun _ h9 => h9) rfl dX3_init__9 ?_
  refine lv_iload_n hx hb dX3_init__12 rfl (lv_at hl 0 rfl) ?_
  refine lv_iconst (v := 0) hx hb dX3_init__13 (by decide) ?_
  refine va_iast hx hb hK hP hD hS 2 0 rfl rfl (in_c (by decide)) dX3_init__14 (fun H locs hP hD hS => ?_)
  have hP : va_P (dC, dI) vwCl (wsR h k (σ.1, upd (upd (upd (upd (upd (upd (upd (upd (upd σ.2.1 ((0 : Int32).toNatClampNeg) 0) ((1 : Int32).toNatClampNeg) 0) ((2 : Int32).toNatClampNeg) 0) ((3 : Int32).toNatClampNeg) 0) ((4 : Int32).toNatClampNeg) 0) ((5 : Int32).toNatClampNeg) 0) ((6 : Int32).toNatClampNeg) 0) ((7 : Int32).toNatClampNeg) 0) ((8 : Int32).toNatClampNeg) 0, σ.2.2.1, σ.2.2.2.1, σ.2.2.2.2.1, σ.2.2.2.2.2.1, σ.2.2.2.2.2.2.1, σ.2.2.2.2.2.2.2.1, σ.2.2.2.2.2.2.2.2)) H := hP
  have hD : va_D (AX 4 h s.heap.size) (wsR h k (σ.1, upd (upd (upd (upd (upd (upd (upd (upd (upd σ.2.1 ((0 : Int32).toNatClampNeg) 0) ((1 : Int32).toNatClampNeg) 0) ((2 : Int32).toNatClampNeg) 0) ((3 : Int32).toNatClampNeg) 0) ((4 : Int32).toNatClampNeg) 0) ((5 : Int32).toNatClampNeg) 0) ((6 : Int32).toNatClampNeg) 0) ((7 : Int32).toNatClampNeg) 0) ((8 : Int32).toNatClampNeg) 0, σ.2.2.1, σ.2.2.2.1, σ.2.2.2.2.1, σ.2.2.2.2.2.1, σ.2.2.2.2.2.2.1, σ.2.2.2.2.2.2.2.1, σ.2.2.2.2.2.2.2.2)) := hD
  -- iinc
  refine lv_iinc (v := 9) (lv' := [(1, .int 9), (0, .ref (h 0))]) hx hb dX3_init__15 hl (k := 0) rfl (by decide) (by decide) rfl (fun ls hl => ?_)
  refine lv_goto (tgt := 2) hx hb dX3_init__18 (by decide) ?_
  refine lv_iload_n hx hb dX3_init__2 rfl (lv_at hl 0 rfl) ?_
  refine lv_bipush (v := 16) hx hb dX3_init__3 (by decide) ?_
  refine lv_icmp_ge (tgt := 21) hx hb dX3_init__5 (by decide) (fun c10 => absurd c10 (by decide)) (fun _ => ?_)
  refine lv_aload_n hx hb dX3_init__8 rfl (lv_at hl 1 rfl) ?_
  refine va_get (D := (dC, dI)) (ci := 3) (v := .ref (h 2)) (C := RX3) (T := TX3) (N := 9) hx hb hts (fun _ h9 => List.mem_cons_of_mem _ (List.mem_append_right _ h9)) hown hK hP 0 rfl rfl 1 (by decide) (hts (.fieldLink RX3 14 "LowPowerCpuModel" "\x72" "[I") (by decide +kernel)) (fun _ h9 => h9) rfl dX3_init__9 ?_
  refine lv_iload_n hx hb dX3_init__12 rfl (lv_at hl 0 rfl) ?_
  refine lv_iconst (v := 0) hx hb dX3_init__13 (by decide) ?_
  refine va_iast hx hb hK hP hD hS 2 0 rfl rfl (in_c (by decide)) dX3_init__14 (fun H locs hP hD hS => ?_)
  have hP : va_P (dC, dI) vwCl (wsR h k (σ.1, upd (upd (upd (upd (upd (upd (upd (upd (upd (upd σ.2.1 ((0 : Int32).toNatClampNeg) 0) ((1 : Int32).toNatClampNeg) 0) ((2 : Int32).toNatClampNeg) 0) ((3 : Int32).toNatClampNeg) 0) ((4 : Int32).toNatClampNeg) 0) ((5 : Int32).toNatClampNeg) 0) ((6 : Int32).toNatClampNeg) 0) ((7 : Int32).toNatClampNeg) 0) ((8 : Int32).toNatClampNeg) 0) ((9 : Int32).toNatClampNeg) 0, σ.2.2.1, σ.2.2.2.1, σ.2.2.2.2.1, σ.2.2.2.2.2.1, σ.2.2.2.2.2.2.1, σ.2.2.2.2.2.2.2.1, σ.2.2.2.2.2.2.2.2)) H := hP
  have hD : va_D (AX 4 h s.heap.size) (wsR h k (σ.1, upd (upd (upd (upd (upd (upd (upd (upd (upd (upd σ.2.1 ((0 : Int32).toNatClampNeg) 0) ((1 : Int32).toNatClampNeg) 0) ((2 : Int32).toNatClampNeg) 0) ((3 : Int32).toNatClampNeg) 0) ((4 : Int32).toNatClampNeg) 0) ((5 : Int32).toNatClampNeg) 0) ((6 : Int32).toNatClampNeg) 0) ((7 : Int32).toNatClampNeg) 0) ((8 : Int32).toNatClampNeg) 0) ((9 : Int32).toNatClampNeg) 0, σ.2.2.1, σ.2.2.2.1, σ.2.2.2.2.1, σ.2.2.2.2.2.1, σ.2.2.2.2.2.2.1, σ.2.2.2.2.2.2.2.1, σ.2.2.2.2.2.2.2.2)) := hD
  -- iinc
  refine lv_iinc (v := 10) (lv' := [(1, .int 10), (0, .ref (h 0))]) hx hb dX3_init__15 hl (k := 0) rfl (by decide) (by decide) rfl (fun ls hl => ?_)
  refine lv_goto (tgt := 2) hx hb dX3_init__18 (by decide) ?_
  refine lv_iload_n hx hb dX3_init__2 rfl (lv_at hl 0 rfl) ?_
  refine lv_bipush (v := 16) hx hb dX3_init__3 (by decide) ?_
  refine lv_icmp_ge (tgt := 21) hx hb dX3_init__5 (by decide) (fun c11 => absurd c11 (by decide)) (fun _ => ?_)
  refine lv_aload_n hx hb dX3_init__8 rfl (lv_at hl 1 rfl) ?_
  refine va_get (D := (dC, dI)) (ci := 3) (v := .ref (h 2)) (C := RX3) (T := TX3) (N := 9) hx hb hts (fun _ h9 => List.mem_cons_of_mem _ (List.mem_append_right _ h9)) hown hK hP 0 rfl rfl 1 (by decide) (hts (.fieldLink RX3 14 "LowPowerCpuModel" "\x72" "[I") (by decide +kernel)) (fun _ h9 => h9) rfl dX3_init__9 ?_
  refine lv_iload_n hx hb dX3_init__12 rfl (lv_at hl 0 rfl) ?_
  refine lv_iconst (v := 0) hx hb dX3_init__13 (by decide) ?_
  refine va_iast hx hb hK hP hD hS 2 0 rfl rfl (in_c (by decide)) dX3_init__14 (fun H locs hP hD hS => ?_)
  have hP : va_P (dC, dI) vwCl (wsR h k (σ.1, upd (upd (upd (upd (upd (upd (upd (upd (upd (upd (upd σ.2.1 ((0 : Int32).toNatClampNeg) 0) ((1 : Int32).toNatClampNeg) 0) ((2 : Int32).toNatClampNeg) 0) ((3 : Int32).toNatClampNeg) 0) ((4 : Int32).toNatClampNeg) 0) ((5 : Int32).toNatClampNeg) 0) ((6 : Int32).toNatClampNeg) 0) ((7 : Int32).toNatClampNeg) 0) ((8 : Int32).toNatClampNeg) 0) ((9 : Int32).toNatClampNeg) 0) ((10 : Int32).toNatClampNeg) 0, σ.2.2.1, σ.2.2.2.1, σ.2.2.2.2.1, σ.2.2.2.2.2.1, σ.2.2.2.2.2.2.1, σ.2.2.2.2.2.2.2.1, σ.2.2.2.2.2.2.2.2)) H := hP
  have hD : va_D (AX 4 h s.heap.size) (wsR h k (σ.1, upd (upd (upd (upd (upd (upd (upd (upd (upd (upd (upd σ.2.1 ((0 : Int32).toNatClampNeg) 0) ((1 : Int32).toNatClampNeg) 0) ((2 : Int32).toNatClampNeg) 0) ((3 : Int32).toNatClampNeg) 0) ((4 : Int32).toNatClampNeg) 0) ((5 : Int32).toNatClampNeg) 0) ((6 : Int32).toNatClampNeg) 0) ((7 : Int32).toNatClampNeg) 0) ((8 : Int32).toNatClampNeg) 0) ((9 : Int32).toNatClampNeg) 0) ((10 : Int32).toNatClampNeg) 0, σ.2.2.1, σ.2.2.2.1, σ.2.2.2.2.1, σ.2.2.2.2.2.1, σ.2.2.2.2.2.2.1, σ.2.2.2.2.2.2.2.1, σ.2.2.2.2.2.2.2.2)) := hD
  -- iinc
  refine lv_iinc (v := 11) (lv' := [(1, .int 11), (0, .ref (h 0))]) hx hb dX3_init__15 hl (k := 0) rfl (by decide) (by decide) rfl (fun ls hl => ?_)
  refine lv_goto (tgt := 2) hx hb dX3_init__18 (by decide) ?_
  refine lv_iload_n hx hb dX3_init__2 rfl (lv_at hl 0 rfl) ?_
  refine lv_bipush (v := 16) hx hb dX3_init__3 (by decide) ?_
  refine lv_icmp_ge (tgt := 21) hx hb dX3_init__5 (by decide) (fun c12 => absurd c12 (by decide)) (fun _ => ?_)
  refine lv_aload_n hx hb dX3_init__8 rfl (lv_at hl 1 rfl) ?_
  refine va_get (D := (dC, dI)) (ci := 3) (v := .ref (h 2)) (C := RX3) (T := TX3) (N := 9) hx hb hts (fun _ h9 => List.mem_cons_of_mem _ (List.mem_append_right _ h9)) hown hK hP 0 rfl rfl 1 (by decide) (hts (.fieldLink RX3 14 "LowPowerCpuModel" "\x72" "[I") (by decide +kernel)) (fun _ h9 => h9) rfl dX3_init__9 ?_
  refine lv_iload_n hx hb dX3_init__12 rfl (lv_at hl 0 rfl) ?_
  refine lv_iconst (v := 0) hx hb dX3_init__13 (by decide) ?_
  refine va_iast hx hb hK hP hD hS 2 0 rfl rfl (in_c (by decide)) dX3_init__14 (fun H locs hP hD hS => ?_)
  have hP : va_P (dC, dI) vwCl (wsR h k (σ.1, upd (upd (upd (upd (upd (upd (upd (upd (upd (upd (upd (upd σ.2.1 ((0 : Int32).toNatClampNeg) 0) ((1 : Int32).toNatClampNeg) 0) ((2 : Int32).toNatClampNeg) 0) ((3 : Int32).toNatClampNeg) 0) ((4 : Int32).toNatClampNeg) 0) ((5 : Int32).toNatClampNeg) 0) ((6 : Int32).toNatClampNeg) 0) ((7 : Int32).toNatClampNeg) 0) ((8 : Int32).toNatClampNeg) 0) ((9 : Int32).toNatClampNeg) 0) ((10 : Int32).toNatClampNeg) 0) ((11 : Int32).toNatClampNeg) 0, σ.2.2.1, σ.2.2.2.1, σ.2.2.2.2.1, σ.2.2.2.2.2.1, σ.2.2.2.2.2.2.1, σ.2.2.2.2.2.2.2.1, σ.2.2.2.2.2.2.2.2)) H := hP
  have hD : va_D (AX 4 h s.heap.size) (wsR h k (σ.1, upd (upd (upd (upd (upd (upd (upd (upd (upd (upd (upd (upd σ.2.1 ((0 : Int32).toNatClampNeg) 0) ((1 : Int32).toNatClampNeg) 0) ((2 : Int32).toNatClampNeg) 0) ((3 : Int32).toNatClampNeg) 0) ((4 : Int32).toNatClampNeg) 0) ((5 : Int32).toNatClampNeg) 0) ((6 : Int32).toNatClampNeg) 0) ((7 : Int32).toNatClampNeg) 0) ((8 : Int32).toNatClampNeg) 0) ((9 : Int32).toNatClampNeg) 0) ((10 : Int32).toNatClampNeg) 0) ((11 : Int32).toNatClampNeg) 0, σ.2.2.1, σ.2.2.2.1, σ.2.2.2.2.1, σ.2.2.2.2.2.1, σ.2.2.2.2.2.2.1, σ.2.2.2.2.2.2.2.1, σ.2.2.2.2.2.2.2.2)) := hD
  -- iinc
  refine lv_iinc (v := 12) (lv' := [(1, .int 12), (0, .ref (h 0))]) hx hb dX3_init__15 hl (k := 0) rfl (by decide) (by decide) rfl (fun ls hl => ?_)
  refine lv_goto (tgt := 2) hx hb dX3_init__18 (by decide) ?_
  refine lv_iload_n hx hb dX3_init__2 rfl (lv_at hl 0 rfl) ?_
  refine lv_bipush (v := 16) hx hb dX3_init__3 (by decide) ?_
  refine lv_icmp_ge (tgt := 21) hx hb dX3_init__5 (by decide) (fun c13 => absurd c13 (by decide)) (fun _ => ?_)
  refine lv_aload_n hx hb dX3_init__8 rfl (lv_at hl 1 rfl) ?_
  refine va_get (D := (dC, dI)) (ci := 3) (v := .ref (h 2)) (C := RX3) (T := TX3) (N := 9) hx hb hts (fun _ h9 => List.mem_cons_of_mem _ (List.mem_append_right _ h9)) hown hK hP 0 rfl rfl 1 (by decide) (hts (.fieldLink RX3 14 "LowPowerCpuModel" "\x72" "[I") (by decide +kernel)) (fun _ h9 => h9) rfl dX3_init__9 ?_
  refine lv_iload_n hx hb dX3_init__12 rfl (lv_at hl 0 rfl) ?_
  refine lv_iconst (v := 0) hx hb dX3_init__13 (by decide) ?_
  refine va_iast hx hb hK hP hD hS 2 0 rfl rfl (in_c (by decide)) dX3_init__14 (fun H locs hP hD hS => ?_)
  have hP : va_P (dC, dI) vwCl (wsR h k (σ.1, upd (upd (upd (upd (upd (upd (upd (upd (upd (upd (upd (upd (upd σ.2.1 ((0 : Int32).toNatClampNeg) 0) ((1 : Int32).toNatClampNeg) 0) ((2 : Int32).toNatClampNeg) 0) ((3 : Int32).toNatClampNeg) 0) ((4 : Int32).toNatClampNeg) 0) ((5 : Int32).toNatClampNeg) 0) ((6 : Int32).toNatClampNeg) 0) ((7 : Int32).toNatClampNeg) 0) ((8 : Int32).toNatClampNeg) 0) ((9 : Int32).toNatClampNeg) 0) ((10 : Int32).toNatClampNeg) 0) ((11 : Int32).toNatClampNeg) 0) ((12 : Int32).toNatClampNeg) 0, σ.2.2.1, σ.2.2.2.1, σ.2.2.2.2.1, σ.2.2.2.2.2.1, σ.2.2.2.2.2.2.1, σ.2.2.2.2.2.2.2.1, σ.2.2.2.2.2.2.2.2)) H := hP
  have hD : va_D (AX 4 h s.heap.size) (wsR h k (σ.1, upd (upd (upd (upd (upd (upd (upd (upd (upd (upd (upd (upd (upd σ.2.1 ((0 : Int32).toNatClampNeg) 0) ((1 : Int32).toNatClampNeg) 0) ((2 : Int32).toNatClampNeg) 0) ((3 : Int32).toNatClampNeg) 0) ((4 : Int32).toNatClampNeg) 0) ((5 : Int32).toNatClampNeg) 0) ((6 : Int32).toNatClampNeg) 0) ((7 : Int32).toNatClampNeg) 0) ((8 : Int32).toNatClampNeg) 0) ((9 : Int32).toNatClampNeg) 0) ((10 : Int32).toNatClampNeg) 0) ((11 : Int32).toNatClampNeg) 0) ((12 : Int32).toNatClampNeg) 0, σ.2.2.1, σ.2.2.2.1, σ.2.2.2.2.1, σ.2.2.2.2.2.1, σ.2.2.2.2.2.2.1, σ.2.2.2.2.2.2.2.1, σ.2.2.2.2.2.2.2.2)) := hD
  -- iinc
  refine lv_iinc (v := 13) (lv' := [(1, .int 13), (0, .ref (h 0))]) hx hb dX3_init__15 hl (k := 0) rfl (by decide) (by decide) rfl (fun ls hl => ?_)
  refine lv_goto (tgt := 2) hx hb dX3_init__18 (by decide) ?_
  refine lv_iload_n hx hb dX3_init__2 rfl (lv_at hl 0 rfl) ?_
  refine lv_bipush (v := 16) hx hb dX3_init__3 (by decide) ?_
  refine lv_icmp_ge (tgt := 21) hx hb dX3_init__5 (by decide) (fun c14 => absurd c14 (by decide)) (fun _ => ?_)
  refine lv_aload_n hx hb dX3_init__8 rfl (lv_at hl 1 rfl) ?_
  refine va_get (D := (dC, dI)) (ci := 3) (v := .ref (h 2)) (C := RX3) (T := TX3) (N := 9) hx hb hts (fun _ h9 => List.mem_cons_of_mem _ (List.mem_append_right _ h9)) hown hK hP 0 rfl rfl 1 (by decide) (hts (.fieldLink RX3 14 "LowPowerCpuModel" "\x72" "[I") (by decide +kernel)) (fun _ h9 => h9) rfl dX3_init__9 ?_
  refine lv_iload_n hx hb dX3_init__12 rfl (lv_at hl 0 rfl) ?_
  refine lv_iconst (v := 0) hx hb dX3_init__13 (by decide) ?_
  refine va_iast hx hb hK hP hD hS 2 0 rfl rfl (in_c (by decide)) dX3_init__14 (fun H locs hP hD hS => ?_)
  have hP : va_P (dC, dI) vwCl (wsR h k (σ.1, upd (upd (upd (upd (upd (upd (upd (upd (upd (upd (upd (upd (upd (upd σ.2.1 ((0 : Int32).toNatClampNeg) 0) ((1 : Int32).toNatClampNeg) 0) ((2 : Int32).toNatClampNeg) 0) ((3 : Int32).toNatClampNeg) 0) ((4 : Int32).toNatClampNeg) 0) ((5 : Int32).toNatClampNeg) 0) ((6 : Int32).toNatClampNeg) 0) ((7 : Int32).toNatClampNeg) 0) ((8 : Int32).toNatClampNeg) 0) ((9 : Int32).toNatClampNeg) 0) ((10 : Int32).toNatClampNeg) 0) ((11 : Int32).toNatClampNeg) 0) ((12 : Int32).toNatClampNeg) 0) ((13 : Int32).toNatClampNeg) 0, σ.2.2.1, σ.2.2.2.1, σ.2.2.2.2.1, σ.2.2.2.2.2.1, σ.2.2.2.2.2.2.1, σ.2.2.2.2.2.2.2.1, σ.2.2.2.2.2.2.2.2)) H := hP
  have hD : va_D (AX 4 h s.heap.size) (wsR h k (σ.1, upd (upd (upd (upd (upd (upd (upd (upd (upd (upd (upd (upd (upd (upd σ.2.1 ((0 : Int32).toNatClampNeg) 0) ((1 : Int32).toNatClampNeg) 0) ((2 : Int32).toNatClampNeg) 0) ((3 : Int32).toNatClampNeg) 0) ((4 : Int32).toNatClampNeg) 0) ((5 : Int32).toNatClampNeg) 0) ((6 : Int32).toNatClampNeg) 0) ((7 : Int32).toNatClampNeg) 0) ((8 : Int32).toNatClampNeg) 0) ((9 : Int32).toNatClampNeg) 0) ((10 : Int32).toNatClampNeg) 0) ((11 : Int32).toNatClampNeg) 0) ((12 : Int32).toNatClampNeg) 0) ((13 : Int32).toNatClampNeg) 0, σ.2.2.1, σ.2.2.2.1, σ.2.2.2.2.1, σ.2.2.2.2.2.1, σ.2.2.2.2.2.2.1, σ.2.2.2.2.2.2.2.1, σ.2.2.2.2.2.2.2.2)) := hD
  -- iinc
  refine lv_iinc (v := 14) (lv' := [(1, .int 14), (0, .ref (h 0))]) hx hb dX3_init__15 hl (k := 0) rfl (by decide) (by decide) rfl (fun ls hl => ?_)
  refine lv_goto (tgt := 2) hx hb dX3_init__18 (by decide) ?_
  refine lv_iload_n hx hb dX3_init__2 rfl (lv_at hl 0 rfl) ?_
  refine lv_bipush (v := 16) hx hb dX3_init__3 (by decide) ?_
  refine lv_icmp_ge (tgt := 21) hx hb dX3_init__5 (by decide) (fun c15 => absurd c15 (by decide)) (fun _ => ?_)
  refine lv_aload_n hx hb dX3_init__8 rfl (lv_at hl 1 rfl) ?_
  refine va_get (D := (dC, dI)) (ci := 3) (v := .ref (h 2)) (C := RX3) (T := TX3) (N := 9) hx hb hts (fun _ h9 => List.mem_cons_of_mem _ (List.mem_append_right _ h9)) hown hK hP 0 rfl rfl 1 (by decide) (hts (.fieldLink RX3 14 "LowPowerCpuModel" "\x72" "[I") (by decide +kernel)) (fun _ h9 => h9) rfl dX3_init__9 ?_
  refine lv_iload_n hx hb dX3_init__12 rfl (lv_at hl 0 rfl) ?_
  refine lv_iconst (v := 0) hx hb dX3_init__13 (by decide) ?_
  refine va_iast hx hb hK hP hD hS 2 0 rfl rfl (in_c (by decide)) dX3_init__14 (fun H locs hP hD hS => ?_)
  have hP : va_P (dC, dI) vwCl (wsR h k (σ.1, upd (upd (upd (upd (upd (upd (upd (upd (upd (upd (upd (upd (upd (upd (upd σ.2.1 ((0 : Int32).toNatClampNeg) 0) ((1 : Int32).toNatClampNeg) 0) ((2 : Int32).toNatClampNeg) 0) ((3 : Int32).toNatClampNeg) 0) ((4 : Int32).toNatClampNeg) 0) ((5 : Int32).toNatClampNeg) 0) ((6 : Int32).toNatClampNeg) 0) ((7 : Int32).toNatClampNeg) 0) ((8 : Int32).toNatClampNeg) 0) ((9 : Int32).toNatClampNeg) 0) ((10 : Int32).toNatClampNeg) 0) ((11 : Int32).toNatClampNeg) 0) ((12 : Int32).toNatClampNeg) 0) ((13 : Int32).toNatClampNeg) 0) ((14 : Int32).toNatClampNeg) 0, σ.2.2.1, σ.2.2.2.1, σ.2.2.2.2.1, σ.2.2.2.2.2.1, σ.2.2.2.2.2.2.1, σ.2.2.2.2.2.2.2.1, σ.2.2.2.2.2.2.2.2)) H := hP
  have hD : va_D (AX 4 h s.heap.size) (wsR h k (σ.1, upd (upd (upd (upd (upd (upd (upd (upd (upd (upd (upd (upd (upd (upd (upd σ.2.1 ((0 : Int32).toNatClampNeg) 0) ((1 : Int32).toNatClampNeg) 0) ((2 : Int32).toNatClampNeg) 0) ((3 : Int32).toNatClampNeg) 0) ((4 : Int32).toNatClampNeg) 0) ((5 : Int32).toNatClampNeg) 0) ((6 : Int32).toNatClampNeg) 0) ((7 : Int32).toNatClampNeg) 0) ((8 : Int32).toNatClampNeg) 0) ((9 : Int32).toNatClampNeg) 0) ((10 : Int32).toNatClampNeg) 0) ((11 : Int32).toNatClampNeg) 0) ((12 : Int32).toNatClampNeg) 0) ((13 : Int32).toNatClampNeg) 0) ((14 : Int32).toNatClampNeg) 0, σ.2.2.1, σ.2.2.2.1, σ.2.2.2.2.1, σ.2.2.2.2.2.1, σ.2.2.2.2.2.2.1, σ.2.2.2.2.2.2.2.1, σ.2.2.2.2.2.2.2.2)) := hD
  -- iinc
  refine lv_iinc (v := 15) (lv' := [(1, .int 15), (0, .ref (h 0))]) hx hb dX3_init__15 hl (k := 0) rfl (by decide) (by decide) rfl (fun ls hl => ?_)
  refine lv_goto (tgt := 2) hx hb dX3_init__18 (by decide) ?_
  refine lv_iload_n hx hb dX3_init__2 rfl (lv_at hl 0 rfl) ?_
  refine lv_bipush (v := 16) hx hb dX3_init__3 (by decide) ?_
  refine lv_icmp_ge (tgt := 21) hx hb dX3_init__5 (by decide) (fun c16 => absurd c16 (by decide)) (fun _ => ?_)
  refine lv_aload_n hx hb dX3_init__8 rfl (lv_at hl 1 rfl) ?_
  refine va_get (D := (dC, dI)) (ci := 3) (v := .ref (h 2)) (C := RX3) (T := TX3) (N := 9) hx hb hts (fun _ h9 => List.mem_cons_of_mem _ (List.mem_append_right _ h9)) hown hK hP 0 rfl rfl 1 (by decide) (hts (.fieldLink RX3 14 "LowPowerCpuModel" "\x72" "[I") (by decide +kernel)) (fun _ h9 => h9) rfl dX3_init__9 ?_
  refine lv_iload_n hx hb dX3_init__12 rfl (lv_at hl 0 rfl) ?_
  refine lv_iconst (v := 0) hx hb dX3_init__13 (by decide) ?_
  refine va_iast hx hb hK hP hD hS 2 0 rfl rfl (in_c (by decide)) dX3_init__14 (fun H locs hP hD hS => ?_)
  have hP : va_P (dC, dI) vwCl (wsR h k (σ.1, upd (upd (upd (upd (upd (upd (upd (upd (upd (upd (upd (upd (upd (upd (upd (upd σ.2.1 ((0 : Int32).toNatClampNeg) 0) ((1 : Int32).toNatClampNeg) 0) ((2 : Int32).toNatClampNeg) 0) ((3 : Int32).toNatClampNeg) 0) ((4 : Int32).toNatClampNeg) 0) ((5 : Int32).toNatClampNeg) 0) ((6 : Int32).toNatClampNeg) 0) ((7 : Int32).toNatClampNeg) 0) ((8 : Int32).toNatClampNeg) 0) ((9 : Int32).toNatClampNeg) 0) ((10 : Int32).toNatClampNeg) 0) ((11 : Int32).toNatClampNeg) 0) ((12 : Int32).toNatClampNeg) 0) ((13 : Int32).toNatClampNeg) 0) ((14 : Int32).toNatClampNeg) 0) ((15 : Int32).toNatClampNeg) 0, σ.2.2.1, σ.2.2.2.1, σ.2.2.2.2.1, σ.2.2.2.2.2.1, σ.2.2.2.2.2.2.1, σ.2.2.2.2.2.2.2.1, σ.2.2.2.2.2.2.2.2)) H := hP
  have hD : va_D (AX 4 h s.heap.size) (wsR h k (σ.1, upd (upd (upd (upd (upd (upd (upd (upd (upd (upd (upd (upd (upd (upd (upd (upd σ.2.1 ((0 : Int32).toNatClampNeg) 0) ((1 : Int32).toNatClampNeg) 0) ((2 : Int32).toNatClampNeg) 0) ((3 : Int32).toNatClampNeg) 0) ((4 : Int32).toNatClampNeg) 0) ((5 : Int32).toNatClampNeg) 0) ((6 : Int32).toNatClampNeg) 0) ((7 : Int32).toNatClampNeg) 0) ((8 : Int32).toNatClampNeg) 0) ((9 : Int32).toNatClampNeg) 0) ((10 : Int32).toNatClampNeg) 0) ((11 : Int32).toNatClampNeg) 0) ((12 : Int32).toNatClampNeg) 0) ((13 : Int32).toNatClampNeg) 0) ((14 : Int32).toNatClampNeg) 0) ((15 : Int32).toNatClampNeg) 0, σ.2.2.1, σ.2.2.2.1, σ.2.2.2.2.1, σ.2.2.2.2.2.1, σ.2.2.2.2.2.2.1, σ.2.2.2.2.2.2.2.1, σ.2.2.2.2.2.2.2.2)) := hD
  -- iinc
  refine lv_iinc (v := 16) (lv' := [(1, .int 16), (0, .ref (h 0))]) hx hb dX3_init__15 hl (k := 0) rfl (by decide) (by decide) rfl (fun ls hl => ?_)
  refine lv_goto (tgt := 2) hx hb dX3_init__18 (by decide) ?_
  refine lv_iload_n hx hb dX3_init__2 rfl (lv_at hl 0 rfl) ?_
  refine lv_bipush (v := 16) hx hb dX3_init__3 (by decide) ?_
  refine lv_icmp_ge (tgt := 21) hx hb dX3_init__5 (by decide) (fun _ => ?_) (fun c17 => absurd c17 (by decide))
  refine lv_iconst (v := 0) hx hb dX3_init__21 (by decide) ?_
  refine lv_istore_n (lv' := [(1, .int 0), (0, .ref (h 0))]) hx hb dX3_init__22 rfl hl (by decide) rfl (fun ls hl => ?_)
  refine lv_iload_n hx hb dX3_init__23 rfl (lv_at hl 0 rfl) ?_
  refine lv_iconst (v := 5) hx hb dX3_init__24 (by decide) ?_
  refine lv_icmp_ge (tgt := 41) hx hb dX3_init__25 (by decide) (fun c18 => absurd c18 (by decide)) (fun _ => ?_)
  refine lv_aload_n hx hb dX3_init__28 rfl (lv_at hl 1 rfl) ?_
  refine va_get (D := (dC, dI)) (ci := 3) (v := .ref (h 3)) (C := RX3) (T := TX3) (N := 9) hx hb hts (fun _ h9 => List.mem_cons_of_mem _ (List.mem_append_right _ h9)) hown hK hP 0 rfl rfl 2 (by decide) (hts (.fieldLink RX3 18 "LowPowerCpuModel" "by" "[I") (by decide +kernel)) (fun _ h9 => h9) rfl dX3_init__29 ?_
  refine lv_iload_n hx hb dX3_init__32 rfl (lv_at hl 0 rfl) ?_
  refine lv_iconst (v := 0) hx hb dX3_init__33 (by decide) ?_
  refine va_iast hx hb hK hP hD hS 3 0 rfl rfl (in_c (by decide)) dX3_init__34 (fun H locs hP hD hS => ?_)
  have hP : va_P (dC, dI) vwCl (wsR h k (σ.1, upd (upd (upd (upd (upd (upd (upd (upd (upd (upd (upd (upd (upd (upd (upd (upd σ.2.1 ((0 : Int32).toNatClampNeg) 0) ((1 : Int32).toNatClampNeg) 0) ((2 : Int32).toNatClampNeg) 0) ((3 : Int32).toNatClampNeg) 0) ((4 : Int32).toNatClampNeg) 0) ((5 : Int32).toNatClampNeg) 0) ((6 : Int32).toNatClampNeg) 0) ((7 : Int32).toNatClampNeg) 0) ((8 : Int32).toNatClampNeg) 0) ((9 : Int32).toNatClampNeg) 0) ((10 : Int32).toNatClampNeg) 0) ((11 : Int32).toNatClampNeg) 0) ((12 : Int32).toNatClampNeg) 0) ((13 : Int32).toNatClampNeg) 0) ((14 : Int32).toNatClampNeg) 0) ((15 : Int32).toNatClampNeg) 0, upd σ.2.2.1 ((0 : Int32).toNatClampNeg) 0, σ.2.2.2.1, σ.2.2.2.2.1, σ.2.2.2.2.2.1, σ.2.2.2.2.2.2.1, σ.2.2.2.2.2.2.2.1, σ.2.2.2.2.2.2.2.2)) H := hP
  have hD : va_D (AX 4 h s.heap.size) (wsR h k (σ.1, upd (upd (upd (upd (upd (upd (upd (upd (upd (upd (upd (upd (upd (upd (upd (upd σ.2.1 ((0 : Int32).toNatClampNeg) 0) ((1 : Int32).toNatClampNeg) 0) ((2 : Int32).toNatClampNeg) 0) ((3 : Int32).toNatClampNeg) 0) ((4 : Int32).toNatClampNeg) 0) ((5 : Int32).toNatClampNeg) 0) ((6 : Int32).toNatClampNeg) 0) ((7 : Int32).toNatClampNeg) 0) ((8 : Int32).toNatClampNeg) 0) ((9 : Int32).toNatClampNeg) 0) ((10 : Int32).toNatClampNeg) 0) ((11 : Int32).toNatClampNeg) 0) ((12 : Int32).toNatClampNeg) 0) ((13 : Int32).toNatClampNeg) 0) ((14 : Int32).toNatClampNeg) 0) ((15 : Int32).toNatClampNeg) 0, upd σ.2.2.1 ((0 : Int32).toNatClampNeg) 0, σ.2.2.2.1, σ.2.2.2.2.1, σ.2.2.2.2.2.1, σ.2.2.2.2.2.2.1, σ.2.2.2.2.2.2.2.1, σ.2.2.2.2.2.2.2.2)) := hD
  -- iinc
  refine lv_iinc (v := 1) (lv' := [(1, .int 1), (0, .ref (h 0))]) hx hb dX3_init__35 hl (k := 0) rfl (by decide) (by decide) rfl (fun ls hl => ?_)
  refine lv_goto (tgt := 23) hx hb dX3_init__38 (by decide) ?_
  refine lv_iload_n hx hb dX3_init__23 rfl (lv_at hl 0 rfl) ?_
  refine lv_iconst (v := 5) hx hb dX3_init__24 (by decide) ?_
  refine lv_icmp_ge (tgt := 41) hx hb dX3_init__25 (by decide) (fun c19 => absurd c19 (by decide)) (fun _ => ?_)
  refine lv_aload_n hx hb dX3_init__28 rfl (lv_at hl 1 rfl) ?_
  refine va_get (D := (dC, dI)) (ci := 3) (v := .ref (h 3)) (C := RX3) (T := TX3) (N := 9) hx hb hts (fun _ h9 => List.mem_cons_of_mem _ (List.mem_append_right _ h9)) hown hK hP 0 rfl rfl 2 (by decide) (hts (.fieldLink RX3 18 "LowPowerCpuModel" "by" "[I") (by decide +kernel)) (fun _ h9 => h9) rfl dX3_init__29 ?_
  refine lv_iload_n hx hb dX3_init__32 rfl (lv_at hl 0 rfl) ?_
  refine lv_iconst (v := 0) hx hb dX3_init__33 (by decide) ?_
  refine va_iast hx hb hK hP hD hS 3 0 rfl rfl (in_c (by decide)) dX3_init__34 (fun H locs hP hD hS => ?_)
  have hP : va_P (dC, dI) vwCl (wsR h k (σ.1, upd (upd (upd (upd (upd (upd (upd (upd (upd (upd (upd (upd (upd (upd (upd (upd σ.2.1 ((0 : Int32).toNatClampNeg) 0) ((1 : Int32).toNatClampNeg) 0) ((2 : Int32).toNatClampNeg) 0) ((3 : Int32).toNatClampNeg) 0) ((4 : Int32).toNatClampNeg) 0) ((5 : Int32).toNatClampNeg) 0) ((6 : Int32).toNatClampNeg) 0) ((7 : Int32).toNatClampNeg) 0) ((8 : Int32).toNatClampNeg) 0) ((9 : Int32).toNatClampNeg) 0) ((10 : Int32).toNatClampNeg) 0) ((11 : Int32).toNatClampNeg) 0) ((12 : Int32).toNatClampNeg) 0) ((13 : Int32).toNatClampNeg) 0) ((14 : Int32).toNatClampNeg) 0) ((15 : Int32).toNatClampNeg) 0, upd (upd σ.2.2.1 ((0 : Int32).toNatClampNeg) 0) ((1 : Int32).toNatClampNeg) 0, σ.2.2.2.1, σ.2.2.2.2.1, σ.2.2.2.2.2.1, σ.2.2.2.2.2.2.1, σ.2.2.2.2.2.2.2.1, σ.2.2.2.2.2.2.2.2)) H := hP
  have hD : va_D (AX 4 h s.heap.size) (wsR h k (σ.1, upd (upd (upd (upd (upd (upd (upd (upd (upd (upd (upd (upd (upd (upd (upd (upd σ.2.1 ((0 : Int32).toNatClampNeg) 0) ((1 : Int32).toNatClampNeg) 0) ((2 : Int32).toNatClampNeg) 0) ((3 : Int32).toNatClampNeg) 0) ((4 : Int32).toNatClampNeg) 0) ((5 : Int32).toNatClampNeg) 0) ((6 : Int32).toNatClampNeg) 0) ((7 : Int32).toNatClampNeg) 0) ((8 : Int32).toNatClampNeg) 0) ((9 : Int32).toNatClampNeg) 0) ((10 : Int32).toNatClampNeg) 0) ((11 : Int32).toNatClampNeg) 0) ((12 : Int32).toNatClampNeg) 0) ((13 : Int32).toNatClampNeg) 0) ((14 : Int32).toNatClampNeg) 0) ((15 : Int32).toNatClampNeg) 0, upd (upd σ.2.2.1 ((0 : Int32).toNatClampNeg) 0) ((1 : Int32).toNatClampNeg) 0, σ.2.2.2.1, σ.2.2.2.2.1, σ.2.2.2.2.2.1, σ.2.2.2.2.2.2.1, σ.2.2.2.2.2.2.2.1, σ.2.2.2.2.2.2.2.2)) := hD
  -- iinc
  refine lv_iinc (v := 2) (lv' := [(1, .int 2), (0, .ref (h 0))]) hx hb dX3_init__35 hl (k := 0) rfl (by decide) (by decide) rfl (fun ls hl => ?_)
  refine lv_goto (tgt := 23) hx hb dX3_init__38 (by decide) ?_
  refine lv_iload_n hx hb dX3_init__23 rfl (lv_at hl 0 rfl) ?_
  refine lv_iconst (v := 5) hx hb dX3_init__24 (by decide) ?_
  refine lv_icmp_ge (tgt := 41) hx hb dX3_init__25 (by decide) (fun c20 => absurd c20 (by decide)) (fun _ => ?_)
  refine lv_aload_n hx hb dX3_init__28 rfl (lv_at hl 1 rfl) ?_
  refine va_get (D := (dC, dI)) (ci := 3) (v := .ref (h 3)) (C := RX3) (T := TX3) (N := 9) hx hb hts (fun _ h9 => List.mem_cons_of_mem _ (List.mem_append_right _ h9)) hown hK hP 0 rfl rfl 2 (by decide) (hts (.fieldLink RX3 18 "LowPowerCpuModel" "by" "[I") (by decide +kernel)) (fun _ h9 => h9) rfl dX3_init__29 ?_
  refine lv_iload_n hx hb dX3_init__32 rfl (lv_at hl 0 rfl) ?_
  refine lv_iconst (v := 0) hx hb dX3_init__33 (by decide) ?_
  refine va_iast hx hb hK hP hD hS 3 0 rfl rfl (in_c (by decide)) dX3_init__34 (fun H locs hP hD hS => ?_)
  have hP : va_P (dC, dI) vwCl (wsR h k (σ.1, upd (upd (upd (upd (upd (upd (upd (upd (upd (upd (upd (upd (upd (upd (upd (upd σ.2.1 ((0 : Int32).toNatClampNeg) 0) ((1 : Int32).toNatClampNeg) 0) ((2 : Int32).toNatClampNeg) 0) ((3 : Int32).toNatClampNeg) 0) ((4 : Int32).toNatClampNeg) 0) ((5 : Int32).toNatClampNeg) 0) ((6 : Int32).toNatClampNeg) 0) ((7 : Int32).toNatClampNeg) 0) ((8 : Int32).toNatClampNeg) 0) ((9 : Int32).toNatClampNeg) 0) ((10 : Int32).toNatClampNeg) 0) ((11 : Int32).toNatClampNeg) 0) ((12 : Int32).toNatClampNeg) 0) ((13 : Int32).toNatClampNeg) 0) ((14 : Int32).toNatClampNeg) 0) ((15 : Int32).toNatClampNeg) 0, upd (upd (upd σ.2.2.1 ((0 : Int32).toNatClampNeg) 0) ((1 : Int32).toNatClampNeg) 0) ((2 : Int32).toNatClampNeg) 0, σ.2.2.2.1, σ.2.2.2.2.1, σ.2.2.2.2.2.1, σ.2.2.2.2.2.2.1, σ.2.2.2.2.2.2.2.1, σ.2.2.2.2.2.2.2.2)) H := hP
  have hD : va_D (AX 4 h s.heap.size) (wsR h k (σ.1, upd (upd (upd (upd (upd (upd (upd (upd (upd (upd (upd (upd (upd (upd (upd (upd σ.2.1 ((0 : Int32).toNatClampNeg) 0) ((1 : Int32).toNatClampNeg) 0) ((2 : Int32).toNatClampNeg) 0) ((3 : Int32).toNatClampNeg) 0) ((4 : Int32).toNatClampNeg) 0) ((5 : Int32).toNatClampNeg) 0) ((6 : Int32).toNatClampNeg) 0) ((7 : Int32).toNatClampNeg) 0) ((8 : Int32).toNatClampNeg) 0) ((9 : Int32).toNatClampNeg) 0) ((10 : Int32).toNatClampNeg) 0) ((11 : Int32).toNatClampNeg) 0) ((12 : Int32).toNatClampNeg) 0) ((13 : Int32).toNatClampNeg) 0) ((14 : Int32).toNatClampNeg) 0) ((15 : Int32).toNatClampNeg) 0, upd (upd (upd σ.2.2.1 ((0 : Int32).toNatClampNeg) 0) ((1 : Int32).toNatClampNeg) 0) ((2 : Int32).toNatClampNeg) 0, σ.2.2.2.1, σ.2.2.2.2.1, σ.2.2.2.2.2.1, σ.2.2.2.2.2.2.1, σ.2.2.2.2.2.2.2.1, σ.2.2.2.2.2.2.2.2)) := hD
  -- iinc
  refine lv_iinc (v := 3) (lv' := [(1, .int 3), (0, .ref (h 0))]) hx hb dX3_init__35 hl (k := 0) rfl (by decide) (by decide) rfl (fun ls hl => ?_)
  refine lv_goto (tgt := 23) hx hb dX3_init__38 (by decide) ?_
  refine lv_iload_n hx hb dX3_init__23 rfl (lv_at hl 0 rfl) ?_
  refine lv_iconst (v := 5) hx hb dX3_init__24 (by decide) ?_
  refine lv_icmp_ge (tgt := 41) hx hb dX3_init__25 (by decide) (fun c21 => absurd c21 (by decide)) (fun _ => ?_)
  refine lv_aload_n hx hb dX3_init__28 rfl (lv_at hl 1 rfl) ?_
  refine va_get (D := (dC, dI)) (ci := 3) (v := .ref (h 3)) (C := RX3) (T := TX3) (N := 9) hx hb hts (fun _ h9 => List.mem_cons_of_mem _ (List.mem_append_right _ h9)) hown hK hP 0 rfl rfl 2 (by decide) (hts (.fieldLink RX3 18 "LowPowerCpuModel" "by" "[I") (by decide +kernel)) (fun _ h9 => h9) rfl dX3_init__29 ?_
  refine lv_iload_n hx hb dX3_init__32 rfl (lv_at hl 0 rfl) ?_
  refine lv_iconst (v := 0) hx hb dX3_init__33 (by decide) ?_
  refine va_iast hx hb hK hP hD hS 3 0 rfl rfl (in_c (by decide)) dX3_init__34 (fun H locs hP hD hS => ?_)
  have hP : va_P (dC, dI) vwCl (wsR h k (σ.1, upd (upd (upd (upd (upd (upd (upd (upd (upd (upd (upd (upd (upd (upd (upd (upd σ.2.1 ((0 : Int32).toNatClampNeg) 0) ((1 : Int32).toNatClampNeg) 0) ((2 : Int32).toNatClampNeg) 0) ((3 : Int32).toNatClampNeg) 0) ((4 : Int32).toNatClampNeg) 0) ((5 : Int32).toNatClampNeg) 0) ((6 : Int32).toNatClampNeg) 0) ((7 : Int32).toNatClampNeg) 0) ((8 : Int32).toNatClampNeg) 0) ((9 : Int32).toNatClampNeg) 0) ((10 : Int32).toNatClampNeg) 0) ((11 : Int32).toNatClampNeg) 0) ((12 : Int32).toNatClampNeg) 0) ((13 : Int32).toNatClampNeg) 0) ((14 : Int32).toNatClampNeg) 0) ((15 : Int32).toNatClampNeg) 0, upd (upd (upd (upd σ.2.2.1 ((0 : Int32).toNatClampNeg) 0) ((1 : Int32).toNatClampNeg) 0) ((2 : Int32).toNatClampNeg) 0) ((3 : Int32).toNatClampNeg) 0, σ.2.2.2.1, σ.2.2.2.2.1, σ.2.2.2.2.2.1, σ.2.2.2.2.2.2.1, σ.2.2.2.2.2.2.2.1, σ.2.2.2.2.2.2.2.2)) H := hP
  have hD : va_D (AX 4 h s.heap.size) (wsR h k (σ.1, upd (upd (upd (upd (upd (upd (upd (upd (upd (upd (upd (upd (upd (upd (upd (upd σ.2.1 ((0 : Int32).toNatClampNeg) 0) ((1 : Int32).toNatClampNeg) 0) ((2 : Int32).toNatClampNeg) 0) ((3 : Int32).toNatClampNeg) 0) ((4 : Int32).toNatClampNeg) 0) ((5 : Int32).toNatClampNeg) 0) ((6 : Int32).toNatClampNeg) 0) ((7 : Int32).toNatClampNeg) 0) ((8 : Int32).toNatClampNeg) 0) ((9 : Int32).toNatClampNeg) 0) ((10 : Int32).toNatClampNeg) 0) ((11 : Int32).toNatClampNeg) 0) ((12 : Int32).toNatClampNeg) 0) ((13 : Int32).toNatClampNeg) 0) ((14 : Int32).toNatClampNeg) 0) ((15 : Int32).toNatClampNeg) 0, upd (upd (upd (upd σ.2.2.1 ((0 : Int32).toNatClampNeg) 0) ((1 : Int32).toNatClampNeg) 0) ((2 : Int32).toNatClampNeg) 0) ((3 : Int32).toNatClampNeg) 0, σ.2.2.2.1, σ.2.2.2.2.1, σ.2.2.2.2.2.1, σ.2.2.2.2.2.2.1, σ.2.2.2.2.2.2.2.1, σ.2.2.2.2.2.2.2.2)) := hD
  -- iinc
  refine lv_iinc (v := 4) (lv' := [(1, .int 4), (0, .ref (h 0))]) hx hb dX3_init__35 hl (k := 0) rfl (by decide) (by decide) rfl (fun ls hl => ?_)
  refine lv_goto (tgt := 23) hx hb dX3_init__38 (by decide) ?_
  refine lv_iload_n hx hb dX3_init__23 rfl (lv_at hl 0 rfl) ?_
  refine lv_iconst (v := 5) hx hb dX3_init__24 (by decide) ?_
  refine lv_icmp_ge (tgt := 41) hx hb dX3_init__25 (by decide) (fun c22 => absurd c22 (by decide)) (fun _ => ?_)
  refine lv_aload_n hx hb dX3_init__28 rfl (lv_at hl 1 rfl) ?_
  refine va_get (D := (dC, dI)) (ci := 3) (v := .ref (h 3)) (C := RX3) (T := TX3) (N := 9) hx hb hts (fun _ h9 => List.mem_cons_of_mem _ (List.mem_append_right _ h9)) hown hK hP 0 rfl rfl 2 (by decide) (hts (.fieldLink RX3 18 "LowPowerCpuModel" "by" "[I") (by decide +kernel)) (fun _ h9 => h9) rfl dX3_init__29 ?_
  refine lv_iload_n hx hb dX3_init__32 rfl (lv_at hl 0 rfl) ?_
  refine lv_iconst (v := 0) hx hb dX3_init__33 (by decide) ?_
  refine va_iast hx hb hK hP hD hS 3 0 rfl rfl (in_c (by decide)) dX3_init__34 (fun H locs hP hD hS => ?_)
  have hP : va_P (dC, dI) vwCl (wsR h k (σ.1, upd (upd (upd (upd (upd (upd (upd (upd (upd (upd (upd (upd (upd (upd (upd (upd σ.2.1 ((0 : Int32).toNatClampNeg) 0) ((1 : Int32).toNatClampNeg) 0) ((2 : Int32).toNatClampNeg) 0) ((3 : Int32).toNatClampNeg) 0) ((4 : Int32).toNatClampNeg) 0) ((5 : Int32).toNatClampNeg) 0) ((6 : Int32).toNatClampNeg) 0) ((7 : Int32).toNatClampNeg) 0) ((8 : Int32).toNatClampNeg) 0) ((9 : Int32).toNatClampNeg) 0) ((10 : Int32).toNatClampNeg) 0) ((11 : Int32).toNatClampNeg) 0) ((12 : Int32).toNatClampNeg) 0) ((13 : Int32).toNatClampNeg) 0) ((14 : Int32).toNatClampNeg) 0) ((15 : Int32).toNatClampNeg) 0, upd (upd (upd (upd (upd σ.2.2.1 ((0 : Int32).toNatClampNeg) 0) ((1 : Int32).toNatClampNeg) 0) ((2 : Int32).toNatClampNeg) 0) ((3 : Int32).toNatClampNeg) 0) ((4 : Int32).toNatClampNeg) 0, σ.2.2.2.1, σ.2.2.2.2.1, σ.2.2.2.2.2.1, σ.2.2.2.2.2.2.1, σ.2.2.2.2.2.2.2.1, σ.2.2.2.2.2.2.2.2)) H := hP
  have hD : va_D (AX 4 h s.heap.size) (wsR h k (σ.1, upd (upd (upd (upd (upd (upd (upd (upd (upd (upd (upd (upd (upd (upd (upd (upd σ.2.1 ((0 : Int32).toNatClampNeg) 0) ((1 : Int32).toNatClampNeg) 0) ((2 : Int32).toNatClampNeg) 0) ((3 : Int32).toNatClampNeg) 0) ((4 : Int32).toNatClampNeg) 0) ((5 : Int32).toNatClampNeg) 0) ((6 : Int32).toNatClampNeg) 0) ((7 : Int32).toNatClampNeg) 0) ((8 : Int32).toNatClampNeg) 0) ((9 : Int32).toNatClampNeg) 0) ((10 : Int32).toNatClampNeg) 0) ((11 : Int32).toNatClampNeg) 0) ((12 : Int32).toNatClampNeg) 0) ((13 : Int32).toNatClampNeg) 0) ((14 : Int32).toNatClampNeg) 0) ((15 : Int32).toNatClampNeg) 0, upd (upd (upd (upd (upd σ.2.2.1 ((0 : Int32).toNatClampNeg) 0) ((1 : Int32).toNatClampNeg) 0) ((2 : Int32).toNatClampNeg) 0) ((3 : Int32).toNatClampNeg) 0) ((4 : Int32).toNatClampNeg) 0, σ.2.2.2.1, σ.2.2.2.2.1, σ.2.2.2.2.2.1, σ.2.2.2.2.2.2.1, σ.2.2.2.2.2.2.2.1, σ.2.2.2.2.2.2.2.2)) := hD
  -- iinc
  refine lv_iinc (v := 5) (lv' := [(1, .int 5), (0, .ref (h 0))]) hx hb dX3_init__35 hl (k := 0) rfl (by decide) (by decide) rfl (fun ls hl => ?_)
  refine lv_goto (tgt := 23) hx hb dX3_init__38 (by decide) ?_
  refine lv_iload_n hx hb dX3_init__23 rfl (lv_at hl 0 rfl) ?_
  refine lv_iconst (v := 5) hx hb dX3_init__24 (by decide) ?_
  refine lv_icmp_ge (tgt := 41) hx hb dX3_init__25 (by decide) (fun _ => ?_) (fun c23 => absurd c23 (by decide))
  refine lv_aload_n hx hb dX3_init__41 rfl (lv_at hl 1 rfl) ?_
  refine lv_iconst (v := 0) hx hb dX3_init__42 (by decide) ?_
  refine va_put (D := (dC, dI)) (ci := 3) (v := .int 0) (ty := .int) (C := RX3) (T := TX3) (N := 9) hx hb hts (fun _ h9 => List.mem_cons_of_mem _ (List.mem_append_right _ h9)) tyX3 tyX3_ok nmX3 hown hK hP hD hS 0 rfl rfl 3 (by decide) (hts (.fieldLink RX3 24 "LowPowerCpuModel" "how" "I") (by decide +kernel)) (fun _ h9 => h9) rfl (by decide +kernel) rfl rfl (Nat.le_of_ble_eq_true rfl) dX3_init__43 (fun H locs hP hD hS => ?_)
  have hP : va_P (dC, dI) vwCl (wsR h k (σ.1, upd (upd (upd (upd (upd (upd (upd (upd (upd (upd (upd (upd (upd (upd (upd (upd σ.2.1 ((0 : Int32).toNatClampNeg) 0) ((1 : Int32).toNatClampNeg) 0) ((2 : Int32).toNatClampNeg) 0) ((3 : Int32).toNatClampNeg) 0) ((4 : Int32).toNatClampNeg) 0) ((5 : Int32).toNatClampNeg) 0) ((6 : Int32).toNatClampNeg) 0) ((7 : Int32).toNatClampNeg) 0) ((8 : Int32).toNatClampNeg) 0) ((9 : Int32).toNatClampNeg) 0) ((10 : Int32).toNatClampNeg) 0) ((11 : Int32).toNatClampNeg) 0) ((12 : Int32).toNatClampNeg) 0) ((13 : Int32).toNatClampNeg) 0) ((14 : Int32).toNatClampNeg) 0) ((15 : Int32).toNatClampNeg) 0, upd (upd (upd (upd (upd σ.2.2.1 ((0 : Int32).toNatClampNeg) 0) ((1 : Int32).toNatClampNeg) 0) ((2 : Int32).toNatClampNeg) 0) ((3 : Int32).toNatClampNeg) 0) ((4 : Int32).toNatClampNeg) 0, 0, σ.2.2.2.2.1, σ.2.2.2.2.2.1, σ.2.2.2.2.2.2.1, σ.2.2.2.2.2.2.2.1, σ.2.2.2.2.2.2.2.2)) H := hP
  have hD : va_D (AX 4 h s.heap.size) (wsR h k (σ.1, upd (upd (upd (upd (upd (upd (upd (upd (upd (upd (upd (upd (upd (upd (upd (upd σ.2.1 ((0 : Int32).toNatClampNeg) 0) ((1 : Int32).toNatClampNeg) 0) ((2 : Int32).toNatClampNeg) 0) ((3 : Int32).toNatClampNeg) 0) ((4 : Int32).toNatClampNeg) 0) ((5 : Int32).toNatClampNeg) 0) ((6 : Int32).toNatClampNeg) 0) ((7 : Int32).toNatClampNeg) 0) ((8 : Int32).toNatClampNeg) 0) ((9 : Int32).toNatClampNeg) 0) ((10 : Int32).toNatClampNeg) 0) ((11 : Int32).toNatClampNeg) 0) ((12 : Int32).toNatClampNeg) 0) ((13 : Int32).toNatClampNeg) 0) ((14 : Int32).toNatClampNeg) 0) ((15 : Int32).toNatClampNeg) 0, upd (upd (upd (upd (upd σ.2.2.1 ((0 : Int32).toNatClampNeg) 0) ((1 : Int32).toNatClampNeg) 0) ((2 : Int32).toNatClampNeg) 0) ((3 : Int32).toNatClampNeg) 0) ((4 : Int32).toNatClampNeg) 0, 0, σ.2.2.2.2.1, σ.2.2.2.2.2.1, σ.2.2.2.2.2.2.1, σ.2.2.2.2.2.2.2.1, σ.2.2.2.2.2.2.2.2)) := hD
  refine lv_aload_n hx hb dX3_init__46 rfl (lv_at hl 1 rfl) ?_
  refine lv_iconst (v := 0) hx hb dX3_init__47 (by decide) ?_
  refine va_put (D := (dC, dI)) (ci := 3) (v := .int 0) (ty := .int) (C := RX3) (T := TX3) (N := 9) hx hb hts (fun _ h9 => List.mem_cons_of_mem _ (List.mem_append_right _ h9)) tyX3 tyX3_ok nmX3 hown hK hP hD hS 0 rfl rfl 4 (by decide) (hts (.fieldLink RX3 28 "LowPowerCpuModel" "lines" "I") (by decide +kernel)) (fun _ h9 => h9) rfl (by decide +kernel) rfl rfl (Nat.le_of_ble_eq_true rfl) dX3_init__48 (fun H locs hP hD hS => ?_)
  have hP : va_P (dC, dI) vwCl (wsR h k (σ.1, upd (upd (upd (upd (upd (upd (upd (upd (upd (upd (upd (upd (upd (upd (upd (upd σ.2.1 ((0 : Int32).toNatClampNeg) 0) ((1 : Int32).toNatClampNeg) 0) ((2 : Int32).toNatClampNeg) 0) ((3 : Int32).toNatClampNeg) 0) ((4 : Int32).toNatClampNeg) 0) ((5 : Int32).toNatClampNeg) 0) ((6 : Int32).toNatClampNeg) 0) ((7 : Int32).toNatClampNeg) 0) ((8 : Int32).toNatClampNeg) 0) ((9 : Int32).toNatClampNeg) 0) ((10 : Int32).toNatClampNeg) 0) ((11 : Int32).toNatClampNeg) 0) ((12 : Int32).toNatClampNeg) 0) ((13 : Int32).toNatClampNeg) 0) ((14 : Int32).toNatClampNeg) 0) ((15 : Int32).toNatClampNeg) 0, upd (upd (upd (upd (upd σ.2.2.1 ((0 : Int32).toNatClampNeg) 0) ((1 : Int32).toNatClampNeg) 0) ((2 : Int32).toNatClampNeg) 0) ((3 : Int32).toNatClampNeg) 0) ((4 : Int32).toNatClampNeg) 0, 0, 0, σ.2.2.2.2.2.1, σ.2.2.2.2.2.2.1, σ.2.2.2.2.2.2.2.1, σ.2.2.2.2.2.2.2.2)) H := hP
  have hD : va_D (AX 4 h s.heap.size) (wsR h k (σ.1, upd (upd (upd (upd (upd (upd (upd (upd (upd (upd (upd (upd (upd (upd (upd (upd σ.2.1 ((0 : Int32).toNatClampNeg) 0) ((1 : Int32).toNatClampNeg) 0) ((2 : Int32).toNatClampNeg) 0) ((3 : Int32).toNatClampNeg) 0) ((4 : Int32).toNatClampNeg) 0) ((5 : Int32).toNatClampNeg) 0) ((6 : Int32).toNatClampNeg) 0) ((7 : Int32).toNatClampNeg) 0) ((8 : Int32).toNatClampNeg) 0) ((9 : Int32).toNatClampNeg) 0) ((10 : Int32).toNatClampNeg) 0) ((11 : Int32).toNatClampNeg) 0) ((12 : Int32).toNatClampNeg) 0) ((13 : Int32).toNatClampNeg) 0) ((14 : Int32).toNatClampNeg) 0) ((15 : Int32).toNatClampNeg) 0, upd (upd (upd (upd (upd σ.2.2.1 ((0 : Int32).toNatClampNeg) 0) ((1 : Int32).toNatClampNeg) 0) ((2 : Int32).toNatClampNeg) 0) ((3 : Int32).toNatClampNeg) 0) ((4 : Int32).toNatClampNeg) 0, 0, 0, σ.2.2.2.2.2.1, σ.2.2.2.2.2.2.1, σ.2.2.2.2.2.2.2.1, σ.2.2.2.2.2.2.2.2)) := hD
  refine lv_aload_n hx hb dX3_init__51 rfl (lv_at hl 1 rfl) ?_
  refine lv_iconst (v := 0) hx hb dX3_init__52 (by decide) ?_
  refine va_put (D := (dC, dI)) (ci := 3) (v := .int 0) (ty := .int) (C := RX3) (T := TX3) (N := 9) hx hb hts (fun _ h9 => List.mem_cons_of_mem _ (List.mem_append_right _ h9)) tyX3 tyX3_ok nmX3 hown hK hP hD hS 0 rfl rfl 5 (by decide) (hts (.fieldLink RX3 31 "LowPowerCpuModel" "cycles" "I") (by decide +kernel)) (fun _ h9 => h9) rfl (by decide +kernel) rfl rfl (Nat.le_of_ble_eq_true rfl) dX3_init__53 (fun H locs hP hD hS => ?_)
  have hP : va_P (dC, dI) vwCl (wsR h k (σ.1, upd (upd (upd (upd (upd (upd (upd (upd (upd (upd (upd (upd (upd (upd (upd (upd σ.2.1 ((0 : Int32).toNatClampNeg) 0) ((1 : Int32).toNatClampNeg) 0) ((2 : Int32).toNatClampNeg) 0) ((3 : Int32).toNatClampNeg) 0) ((4 : Int32).toNatClampNeg) 0) ((5 : Int32).toNatClampNeg) 0) ((6 : Int32).toNatClampNeg) 0) ((7 : Int32).toNatClampNeg) 0) ((8 : Int32).toNatClampNeg) 0) ((9 : Int32).toNatClampNeg) 0) ((10 : Int32).toNatClampNeg) 0) ((11 : Int32).toNatClampNeg) 0) ((12 : Int32).toNatClampNeg) 0) ((13 : Int32).toNatClampNeg) 0) ((14 : Int32).toNatClampNeg) 0) ((15 : Int32).toNatClampNeg) 0, upd (upd (upd (upd (upd σ.2.2.1 ((0 : Int32).toNatClampNeg) 0) ((1 : Int32).toNatClampNeg) 0) ((2 : Int32).toNatClampNeg) 0) ((3 : Int32).toNatClampNeg) 0) ((4 : Int32).toNatClampNeg) 0, 0, 0, 0, σ.2.2.2.2.2.2.1, σ.2.2.2.2.2.2.2.1, σ.2.2.2.2.2.2.2.2)) H := hP
  have hD : va_D (AX 4 h s.heap.size) (wsR h k (σ.1, upd (upd (upd (upd (upd (upd (upd (upd (upd (upd (upd (upd (upd (upd (upd (upd σ.2.1 ((0 : Int32).toNatClampNeg) 0) ((1 : Int32).toNatClampNeg) 0) ((2 : Int32).toNatClampNeg) 0) ((3 : Int32).toNatClampNeg) 0) ((4 : Int32).toNatClampNeg) 0) ((5 : Int32).toNatClampNeg) 0) ((6 : Int32).toNatClampNeg) 0) ((7 : Int32).toNatClampNeg) 0) ((8 : Int32).toNatClampNeg) 0) ((9 : Int32).toNatClampNeg) 0) ((10 : Int32).toNatClampNeg) 0) ((11 : Int32).toNatClampNeg) 0) ((12 : Int32).toNatClampNeg) 0) ((13 : Int32).toNatClampNeg) 0) ((14 : Int32).toNatClampNeg) 0) ((15 : Int32).toNatClampNeg) 0, upd (upd (upd (upd (upd σ.2.2.1 ((0 : Int32).toNatClampNeg) 0) ((1 : Int32).toNatClampNeg) 0) ((2 : Int32).toNatClampNeg) 0) ((3 : Int32).toNatClampNeg) 0) ((4 : Int32).toNatClampNeg) 0, 0, 0, 0, σ.2.2.2.2.2.2.1, σ.2.2.2.2.2.2.2.1, σ.2.2.2.2.2.2.2.2)) := hD
  refine lv_aload_n hx hb dX3_init__56 rfl (lv_at hl 1 rfl) ?_
  refine lv_iconst (v := 0) hx hb dX3_init__57 (by decide) ?_
  refine lv_aload_n hx hb dX3_init__58 rfl (lv_at hl 1 rfl) ?_
  refine lv_ldc (v := 65534) hx hb hown (hts (.constant RX3 34 65534) (by decide +kernel)) dX3_init__59 ?_
  refine callR_ip (va_runV (As := [.int 65534]) (rest := [.int 0, .ref (h 0)]) ⟨hx, hb, hml, hown, hts⟩ (c_X3_wordAt l dC dI h k _ (σ.1, upd (upd (upd (upd (upd (upd (upd (upd (upd (upd (upd (upd (upd (upd (upd (upd σ.2.1 ((0 : Int32).toNatClampNeg) 0) ((1 : Int32).toNatClampNeg) 0) ((2 : Int32).toNatClampNeg) 0) ((3 : Int32).toNatClampNeg) 0) ((4 : Int32).toNatClampNeg) 0) ((5 : Int32).toNatClampNeg) 0) ((6 : Int32).toNatClampNeg) 0) ((7 : Int32).toNatClampNeg) 0) ((8 : Int32).toNatClampNeg) 0) ((9 : Int32).toNatClampNeg) 0) ((10 : Int32).toNatClampNeg) 0) ((11 : Int32).toNatClampNeg) 0) ((12 : Int32).toNatClampNeg) 0) ((13 : Int32).toNatClampNeg) 0) ((14 : Int32).toNatClampNeg) 0) ((15 : Int32).toNatClampNeg) 0, upd (upd (upd (upd (upd σ.2.2.1 ((0 : Int32).toNatClampNeg) 0) ((1 : Int32).toNatClampNeg) 0) ((2 : Int32).toNatClampNeg) 0) ((3 : Int32).toNatClampNeg) 0) ((4 : Int32).toNatClampNeg) 0, 0, 0, 0, σ.2.2.2.2.2.2.1, σ.2.2.2.2.2.2.2.1, σ.2.2.2.2.2.2.2.2) 65534 (in_c (by decide))) (cwV 1 hts gX3_init__X3_wordAt rfl rfl rfl (by decide +kernel) ⟨Nat.le_of_ble_eq_true rfl, Nat.le_of_ble_eq_true rfl⟩) (preR_V (ci := 3) (q0 := 0) hct hP hD hS rfl rfl) rfl rfl hl.1 rfl (lv_room (Nat.le_of_ble_eq_true rfl)) dX3_init__61 ⟨Nat.le_of_ble_eq_true rfl, Nat.le_of_ble_eq_true rfl⟩) hS (fun x24 H locs ex24 hP hD hS => ?_)
  refine callR_v (va_runV (As := [.int 0, .int x24]) (rest := []) ⟨hx, hb, hml, hown, hts⟩ (c_X3_setRegister l dC dI h k _ (σ.1, upd (upd (upd (upd (upd (upd (upd (upd (upd (upd (upd (upd (upd (upd (upd (upd σ.2.1 ((0 : Int32).toNatClampNeg) 0) ((1 : Int32).toNatClampNeg) 0) ((2 : Int32).toNatClampNeg) 0) ((3 : Int32).toNatClampNeg) 0) ((4 : Int32).toNatClampNeg) 0) ((5 : Int32).toNatClampNeg) 0) ((6 : Int32).toNatClampNeg) 0) ((7 : Int32).toNatClampNeg) 0) ((8 : Int32).toNatClampNeg) 0) ((9 : Int32).toNatClampNeg) 0) ((10 : Int32).toNatClampNeg) 0) ((11 : Int32).toNatClampNeg) 0) ((12 : Int32).toNatClampNeg) 0) ((13 : Int32).toNatClampNeg) 0) ((14 : Int32).toNatClampNeg) 0) ((15 : Int32).toNatClampNeg) 0, upd (upd (upd (upd (upd σ.2.2.1 ((0 : Int32).toNatClampNeg) 0) ((1 : Int32).toNatClampNeg) 0) ((2 : Int32).toNatClampNeg) 0) ((3 : Int32).toNatClampNeg) 0) ((4 : Int32).toNatClampNeg) 0, 0, 0, 0, σ.2.2.2.2.2.2.1, σ.2.2.2.2.2.2.2.1, σ.2.2.2.2.2.2.2.2) 0 x24 (in_c (by decide))) (cwV 2 hts gX3_init__X3_setRegister rfl rfl rfl (by decide +kernel) ⟨Nat.le_of_ble_eq_true rfl, Nat.le_of_ble_eq_true rfl⟩) (preR_V (ci := 3) (q0 := 0) hct hP hD hS rfl rfl) rfl rfl hl.1 rfl (lv_room (Nat.le_of_ble_eq_true rfl)) dX3_init__64 ⟨Nat.le_of_ble_eq_true rfl, Nat.le_of_ble_eq_true rfl⟩) hS (fun σ25 H locs eσ25 hP hD hS => ?_)
  exact retR_v hx hb hr hlocks (by subst eσ25; subst ex24; exact rfl) hP hD hS dX3_init__67
