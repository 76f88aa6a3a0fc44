set_option maxHeartbeats 4000000 in
set_option maxRecDepth 100000 in
theorem c_X3_step (l : Launch) (dC : Nat → ClassId) (dI : Nat → Nat → Nat) (h : Nat → Nat) (k : Nat → ClassId) (sz : Nat) (σ : StR) (hI : okR σ) : Met l yX3_step wsX3_step ({ frames := 8, cells := 0, slots := 0, locals := 176 }) (PcR (dC, dI) h k [.ref (h 0)] sz σ) (va_Qi (fun r u => (r, u) = (f_X3_step σ)) (BR (dC, dI) h k (AX 4 h sz)) (AX 4 h sz)) 0 0 (AX 4 h sz) := by
  refine Met.ofW (cc := cX3_step) (maxL := 2) (ret := (some .int)) (by decide) rfl ?_
  intro p e s m args below meth c s₁ B hml hv
  obtain ⟨rfl, rfl, hP, hct, hD⟩ := hv
  have hx := B.exec
  have hb := B.bytes
  have hr := B.returns
  have hts := atoms_spec (ws := wsX3_step) B.pre
  have hown : s.vm.findClass RX3 = some m.cls := findClass_of_methodNamed B.named
  have hlocks := B.notSynchronized
  have hK := hct.1
  have hS : va_S (AX 4 h s.heap.size) s.heap s.heap [] := va_S.rf
  have hl := lv_entry ([.ref (h 0)]) (n := 2) (Nat.le_of_ble_eq_true rfl)
  rw [lg_entry_eq]
  generalize (lg_sl ([.ref (h 0)]) ++ List.replicate (2 - (lg_sl ([.ref (h 0)])).length) Slot.unset).toArray = ls at hl ⊢
  have hl : lv_has ls 2 [(0, .ref (h 0))] := hl
  refine lv_aload_n hx hb dX3_step_0 rfl (lv_at hl 0 rfl) ?_
  refine lv_bipush (v := 8) hx hb dX3_step_1 (by decide) ?_
  refine callR_ip (va_runV (As := [.int 8]) (rest := []) ⟨hx, hb, hml, hown, hts⟩ (c_X3_flag l dC dI h k _ σ 8) (cwV 1 hts gX3_step_X3_flag rfl rfl rfl (by decide +kernel) ⟨Nat.le_of_ble_eq_true rfl, Nat.le_of_ble_eq_true rfl⟩) (preR_V (ci := 3) (q0 := 0) hct hP hD hS rfl rfl) rfl rfl hl.1 rfl (lv_room (Nat.le_of_ble_eq_true rfl)) dX3_step_3 ⟨Nat.le_of_ble_eq_true rfl, Nat.le_of_ble_eq_true rfl⟩) hS (fun x1 H locs ex1 hP hD hS => ?_)
  refine lv_iconst (v := 1) hx hb dX3_step_6 (by decide) ?_
  refine lv_icmp_ne (tgt := 23) hx hb dX3_step_7 (by decide) (fun c2 => ?_) (fun c2 => ?_)
  · refine lv_aload_n hx hb dX3_step_23 rfl (lv_at hl 0 rfl) ?_
    refine lv_bipush (v := 16) hx hb dX3_step_24 (by decide) ?_
    refine callR_ip (va_runV (As := [.int 16]) (rest := []) ⟨hx, hb, hml, hown, hts⟩ (c_X3_flag l dC dI h k _ σ 16) (cwV 1 hts gX3_step_X3_flag rfl rfl rfl (by decide +kernel) ⟨Nat.le_of_ble_eq_true rfl, Nat.le_of_ble_eq_true rfl⟩) (preR_V (ci := 3) (q0 := 0) hct hP hD hS rfl rfl) rfl rfl hl.1 rfl (lv_room (Nat.le_of_ble_eq_true rfl)) dX3_step_26 ⟨Nat.le_of_ble_eq_true rfl, Nat.le_of_ble_eq_true rfl⟩) hS (fun x3 H locs ex3 hP hD hS => ?_)
    refine lv_iconst (v := 1) hx hb dX3_step_29 (by decide) ?_
    refine lv_icmp_ne (tgt := 35) hx hb dX3_step_30 (by decide) (fun c4 => ?_) (fun c4 => ?_)
    · refine lv_aload_n hx hb dX3_step_35 rfl (lv_at hl 0 rfl) ?_
      refine lv_aload_n hx hb dX3_step_36 rfl (lv_at hl 0 rfl) ?_
      refine va_get (D := (dC, dI)) (ci := 3) (v := .ref (h 2)) (C := RX3) (T := TX3) (N := 9) hx hb hts (fun _ h9 => List.mem_cons_of_mem _ (List.mem_append_right _ h9)) hown hK hP 0 rfl rfl 1 (by decide) (hts (.fieldLink RX3 14 "LowPowerCpuModel" "\x72" "[I") (by decide +kernel)) (fun _ h9 => h9) rfl dX3_step_37 ?_
      refine lv_iconst (v := 0) hx hb dX3_step_40 (by decide) ?_
      refine va_iald hx hb hK hP 2 0 rfl rfl (in_c (by decide)) dX3_step_41 ?_
      refine callR_ip (va_runV (As := [.int (σ.2.1 (0 : Int32).toNatClampNeg)]) (rest := []) ⟨hx, hb, hml, hown, hts⟩ (c_X3_wordAt l dC dI h k _ σ (σ.2.1 (0 : Int32).toNatClampNeg) (hI.1 _ (by decide))) (cwV 1 hts gX3_step_X3_wordAt rfl rfl rfl (by decide +kernel) ⟨Nat.le_of_ble_eq_true rfl, Nat.le_of_ble_eq_true rfl⟩) (preR_V (ci := 3) (q0 := 0) hct hP hD hS rfl rfl) rfl rfl hl.1 rfl (lv_room (Nat.le_of_ble_eq_true rfl)) dX3_step_42 ⟨Nat.le_of_ble_eq_true rfl, Nat.le_of_ble_eq_true rfl⟩) hS (fun x5 H locs ex5 hP hD hS => ?_)
      refine lv_istore_n (lv' := [(1, .int x5), (0, .ref (h 0))]) hx hb dX3_step_45 rfl hl (by decide) rfl (fun ls hl => ?_)
      refine lv_iload_n hx hb dX3_step_46 rfl (lv_at hl 0 rfl) ?_
      refine callR_ip (va_runS (As := [.int x5]) (rest := []) ⟨hx, hb, hml, hown, hts⟩ (c_X3_isAssigned l dC dI h k _ σ x5) (va_cwS 1 hts gX3_step_X3_isAssigned rfl rfl rfl (by decide +kernel) ⟨Nat.le_of_ble_eq_true rfl, Nat.le_of_ble_eq_true rfl⟩) (preR_S hct hP hD hS) rfl rfl hl.1 rfl (lv_room (Nat.le_of_ble_eq_true rfl)) dX3_step_47 ⟨Nat.le_of_ble_eq_true rfl, Nat.le_of_ble_eq_true rfl⟩) hS (fun x6 H locs ex6 hP hD hS => ?_)
      refine lv_if_ne (tgt := 55) hx hb dX3_step_50 (by decide) (fun c7 => ?_) (fun c7 => ?_)
      · refine lv_aload_n hx hb dX3_step_55 rfl (lv_at hl 1 rfl) ?_
        refine callR_i (va_runV (As := []) (rest := []) ⟨hx, hb, hml, hown, hts⟩ (c_X3_taken l dC dI h k _ σ  hI) (cwV 0 hts gX3_step_X3_taken rfl rfl rfl (by decide +kernel) ⟨Nat.le_of_ble_eq_true rfl, Nat.le_of_ble_eq_true rfl⟩) (preR_V (ci := 3) (q0 := 0) hct hP hD hS rfl rfl) rfl rfl hl.1 rfl (lv_room (Nat.le_of_ble_eq_true rfl)) dX3_step_56 ⟨Nat.le_of_ble_eq_true rfl, Nat.le_of_ble_eq_true rfl⟩) hS (fun x8 σ9 H locs ex8 eσ9 hP hD hS => ?_)
        have hIσ9 : okR σ9 := by rw [eσ9]; (repeat (first | with_reducible assumption | with_reducible exact okR_of hI rfl rfl rfl | with_reducible apply ok_X3_spend | with_reducible apply ok_X3_setRegister | with_reducible apply ok_X3_write | with_reducible apply ok_X3_number | with_reducible apply ok_X3_memory | with_reducible apply ok_X3_taken | with_reducible apply ok_X3_indexed | with_reducible apply ok_X3_joined | with_reducible apply ok_X3_push | with_reducible apply ok_X3_popped | with_reducible apply ok_X3_shifted | with_reducible apply ok_X3_register | with_reducible apply ok_X3_source | with_reducible apply in15 | (subst_vars; with_reducible apply in15)))
        refine lv_pop hx hb dX3_step_59 rfl ?_
        refine lv_aload_n hx hb dX3_step_60 rfl (lv_at hl 1 rfl) ?_
        refine lv_iload_n hx hb dX3_step_61 rfl (lv_at hl 0 rfl) ?_
        refine lv_sipush (v := 16384) hx hb dX3_step_62 (by decide) ?_
        refine wj (α := Int32) (D := (dC, dI)) (cl := vwCl) (A := AX 4 h s.heap.size) (H0 := s.heap) (if 16384 ≤ x5 then if (x5 &&& (64 : Int32)) = 0 then 0 else 1 else if 8192 ≤ x5 then 0 else if (x5 &&& (64 : Int32)) = 0 then 0 else 1) (fun v11 => wsR h k σ9) (fun v11 => [(1, .int x5), (0, .ref (h 0))]) 2 (fun v11 ls => F0 m 87 ls [.int v11, .ref (h 0)]) ?_ ?_
        · intro v11 ls H locs ev11 hl hP hD hS
          try dsimp only at hl hP hD ⊢
          refine va_put (D := (dC, dI)) (ci := 3) (v := .int v11) (ty := .boolean) (C := RX3) (T := TX3) (N := 9) hx hb hts (fun _ h9 => List.mem_cons_of_mem _ (List.mem_append_right _ h9)) tyX3 tyX3_ok nmX3 hown hK hP hD hS 0 rfl rfl 8 (by decide) (hts (.fieldLink RX3 51 "LowPowerCpuModel" "bytes" "Z") (by decide +kernel)) (fun _ h9 => h9) rfl (by decide +kernel) (nb01 (by rw [ev11]; (try unfold f_X2_isSet); (repeat' split) <;> first | exact Or.inl rfl | exact Or.inr rfl)) ((fb01 (by rw [ev11]; (try unfold f_X2_isSet); (repeat' split) <;> first | exact Or.inl rfl | exact Or.inr rfl))) (Nat.le_of_ble_eq_true rfl) dX3_step_87 (fun H locs hP hD hS => ?_)
          have hP : va_P (dC, dI) vwCl (wsR h k (σ9.1, σ9.2.1, σ9.2.2.1, σ9.2.2.2.1, σ9.2.2.2.2.1, σ9.2.2.2.2.2.1, σ9.2.2.2.2.2.2.1, σ9.2.2.2.2.2.2.2.1, v11)) H := hP
          have hD : va_D (AX 4 h s.heap.size) (wsR h k (σ9.1, σ9.2.1, σ9.2.2.1, σ9.2.2.2.1, σ9.2.2.2.2.1, σ9.2.2.2.2.2.1, σ9.2.2.2.2.2.2.1, σ9.2.2.2.2.2.2.2.1, v11)) := hD
          refine lv_iload_n hx hb dX3_step_90 rfl (lv_at hl 0 rfl) ?_
          refine lv_sipush (v := 16384) hx hb dX3_step_91 (by decide) ?_
          refine wj (α := StR) (D := (dC, dI)) (cl := vwCl) (A := AX 4 h s.heap.size) (H0 := s.heap) (if x5 < 16384 then if x5 < 8192 then let σ15 : StR := (f_X3_onePart (σ9.1, σ9.2.1, σ9.2.2.1, σ9.2.2.2.1, σ9.2.2.2.2.1, σ9.2.2.2.2.2.1, σ9.2.2.2.2.2.2.1, σ9.2.2.2.2.2.2.2.1, v11) x5); σ15 else let σ16 : StR := (f_X3_jump (σ9.1, σ9.2.1, σ9.2.2.1, σ9.2.2.2.1, σ9.2.2.2.2.1, σ9.2.2.2.2.2.1, σ9.2.2.2.2.2.2.1, σ9.2.2.2.2.2.2.2.1, v11) x5); σ16 else let σ17 : StR := (f_X3_twoParts (σ9.1, σ9.2.1, σ9.2.2.1, σ9.2.2.2.1, σ9.2.2.2.2.1, σ9.2.2.2.2.2.1, σ9.2.2.2.2.2.2.1, σ9.2.2.2.2.2.2.2.1, v11) x5); σ17) (fun v13 => wsR h k v13) (fun v13 => [(1, .int x5), (0, .ref (h 0))]) 2 (fun v13 ls => F0 m 125 ls []) ?_ ?_
          · intro v13 ls H locs ev13 hl hP hD hS
            try dsimp only at hl hP hD ⊢
            refine lv_iconst (v := 0) hx hb dX3_step_125 (by decide) ?_
            exact retR_i hx hb hr hlocks (by subst ev13; subst ev11; subst eσ9; subst ex8; subst ex6; subst ex5; subst ex3; subst ex1; exact (if_neg c2).trans ((if_neg c4).trans (if_neg c7))) hP hD hS dX3_step_126
          · intro J
            refine lv_icmp_lt (tgt := 105) hx hb dX3_step_94 (by decide) (fun c12 => ?_) (fun c12 => ?_)
            · refine lv_iload_n hx hb dX3_step_105 rfl (lv_at hl 0 rfl) ?_
              refine lv_sipush (v := 8192) hx hb dX3_step_106 (by decide) ?_
              refine lv_icmp_lt (tgt := 120) hx hb dX3_step_109 (by decide) (fun c14 => ?_) (fun c14 => ?_)
              · refine lv_aload_n hx hb dX3_step_120 rfl (lv_at hl 1 rfl) ?_
                refine lv_iload_n hx hb dX3_step_121 rfl (lv_at hl 0 rfl) ?_
                refine callR_v (va_runV (As := [.int x5]) (rest := []) ⟨hx, hb, hml, hown, hts⟩ (c_X3_onePart l dC dI h k _ (σ9.1, σ9.2.1, σ9.2.2.1, σ9.2.2.2.1, σ9.2.2.2.2.1, σ9.2.2.2.2.2.1, σ9.2.2.2.2.2.2.1, σ9.2.2.2.2.2.2.2.1, v11) x5 (okR_of hIσ9 rfl rfl rfl)) (cwV 1 hts gX3_step_X3_onePart rfl rfl rfl (by decide +kernel) ⟨Nat.le_of_ble_eq_true rfl, Nat.le_of_ble_eq_true rfl⟩) (preR_V (ci := 3) (q0 := 0) hct hP hD hS rfl rfl) rfl rfl hl.1 rfl (lv_room (Nat.le_of_ble_eq_true rfl)) dX3_step_122 ⟨Nat.le_of_ble_eq_true rfl, Nat.le_of_ble_eq_true rfl⟩) hS (fun σ15 H locs eσ15 hP hD hS => ?_)
                exact J (σ15) ls _ _ (by subst eσ15; exact ((if_pos c12).trans (if_pos c14)).symm) (lv_sub hl [0, 1] rfl) hP hD hS
              · refine lv_aload_n hx hb dX3_step_112 rfl (lv_at hl 1 rfl) ?_
                refine lv_iload_n hx hb dX3_step_113 rfl (lv_at hl 0 rfl) ?_
                refine callR_v (va_runV (As := [.int x5]) (rest := []) ⟨hx, hb, hml, hown, hts⟩ (c_X3_jump l dC dI h k _ (σ9.1, σ9.2.1, σ9.2.2.1, σ9.2.2.2.1, σ9.2.2.2.2.1, σ9.2.2.2.2.2.1, σ9.2.2.2.2.2.2.1, σ9.2.2.2.2.2.2.2.1, v11) x5) (cwV 1 hts gX3_step_X3_jump rfl rfl rfl (by decide +kernel) ⟨Nat.le_of_ble_eq_true rfl, Nat.le_of_ble_eq_true rfl⟩) (preR_V (ci := 3) (q0 := 0) hct hP hD hS rfl rfl) rfl rfl hl.1 rfl (lv_room (Nat.le_of_ble_eq_true rfl)) dX3_step_114 ⟨Nat.le_of_ble_eq_true rfl, Nat.le_of_ble_eq_true rfl⟩) hS (fun σ16 H locs eσ16 hP hD hS => ?_)
                refine lv_goto (tgt := 125) hx hb dX3_step_117 (by decide) ?_
                exact J (σ16) ls _ _ (by subst eσ16; exact ((if_pos c12).trans (if_neg c14)).symm) (lv_sub hl [0, 1] rfl) hP hD hS
            · refine lv_aload_n hx hb dX3_step_97 rfl (lv_at hl 1 rfl) ?_
              refine lv_iload_n hx hb dX3_step_98 rfl (lv_at hl 0 rfl) ?_
              refine callR_v (va_runV (As := [.int x5]) (rest := []) ⟨hx, hb, hml, hown, hts⟩ (c_X3_twoParts l dC dI h k _ (σ9.1, σ9.2.1, σ9.2.2.1, σ9.2.2.2.1, σ9.2.2.2.2.1, σ9.2.2.2.2.2.1, σ9.2.2.2.2.2.2.1, σ9.2.2.2.2.2.2.2.1, v11) x5 (okR_of hIσ9 rfl rfl rfl)) (cwV 1 hts gX3_step_X3_twoParts rfl rfl rfl (by decide +kernel) ⟨Nat.le_of_ble_eq_true rfl, Nat.le_of_ble_eq_true rfl⟩) (preR_V (ci := 3) (q0 := 0) hct hP hD hS rfl rfl) rfl rfl hl.1 rfl (lv_room (Nat.le_of_ble_eq_true rfl)) dX3_step_99 ⟨Nat.le_of_ble_eq_true rfl, Nat.le_of_ble_eq_true rfl⟩) hS (fun σ17 H locs eσ17 hP hD hS => ?_)
              refine lv_goto (tgt := 125) hx hb dX3_step_102 (by decide) ?_
              exact J (σ17) ls _ _ (by subst eσ17; exact (if_neg c12).symm) (lv_sub hl [0, 1] rfl) hP hD hS
        · intro J
          refine lv_icmp_ge (tgt := 75) hx hb dX3_step_65 (by decide) (fun c10 => ?_) (fun c10 => ?_)
          · refine lv_iload_n hx hb dX3_step_75 rfl (lv_at hl 0 rfl) ?_
            refine lv_bipush (v := 64) hx hb dX3_step_76 (by decide) ?_
            refine lv_iand hx hb dX3_step_78 ?_
            refine lv_if_eq (tgt := 86) hx hb dX3_step_79 (by decide) (fun c18 => ?_) (fun c18 => ?_)
            · refine lv_iconst (v := 0) hx hb dX3_step_86 (by decide) ?_
              exact J (0) ls _ _ (by exact ((if_pos c10).trans (if_pos c18)).symm) (lv_sub hl [0, 1] rfl) hP hD hS
            · refine lv_iconst (v := 1) hx hb dX3_step_82 (by decide) ?_
              refine lv_goto (tgt := 87) hx hb dX3_step_83 (by decide) ?_
              exact J (1) ls _ _ (by exact ((if_pos c10).trans (if_neg c18)).symm) (lv_sub hl [0, 1] rfl) hP hD hS
          · refine lv_iload_n hx hb dX3_step_68 rfl (lv_at hl 0 rfl) ?_
            refine lv_sipush (v := 8192) hx hb dX3_step_69 (by decide) ?_
            refine lv_icmp_ge (tgt := 86) hx hb dX3_step_72 (by decide) (fun c19 => ?_) (fun c19 => ?_)
            · refine lv_iconst (v := 0) hx hb dX3_step_86 (by decide) ?_
              exact J (0) ls _ _ (by exact ((if_neg c10).trans (if_pos c19)).symm) (lv_sub hl [0, 1] rfl) hP hD hS
            · refine lv_iload_n hx hb dX3_step_75 rfl (lv_at hl 0 rfl) ?_
              refine lv_bipush (v := 64) hx hb dX3_step_76 (by decide) ?_
              refine lv_iand hx hb dX3_step_78 ?_
              refine lv_if_eq (tgt := 86) hx hb dX3_step_79 (by decide) (fun c20 => ?_) (fun c20 => ?_)
              · refine lv_iconst (v := 0) hx hb dX3_step_86 (by decide) ?_
                exact J (0) ls _ _ (by exact ((if_neg c10).trans ((if_neg c19).trans (if_pos c20))).symm) (lv_sub hl [0, 1] rfl) hP hD hS
              · refine lv_iconst (v := 1) hx hb dX3_step_82 (by decide) ?_
                refine lv_goto (tgt := 87) hx hb dX3_step_83 (by decide) ?_
                exact J (1) ls _ _ (by exact ((if_neg c10).trans ((if_neg c19).trans (if_neg c20))).symm) (lv_sub hl [0, 1] rfl) hP hD hS
      · refine lv_iconst (v := 2) hx hb dX3_step_53 (by decide) ?_
        exact retR_i hx hb hr hlocks (by subst ex6; subst ex5; subst ex3; subst ex1; exact (if_neg c2).trans ((if_neg c4).trans (if_pos c7))) hP hD hS dX3_step_54
    · refine lv_iconst (v := 1) hx hb dX3_step_33 (by decide) ?_
      exact retR_i hx hb hr hlocks (by subst ex3; subst ex1; exact (if_neg c2).trans (if_pos c4)) hP hD hS dX3_step_34
  · refine lv_aload_n hx hb dX3_step_10 rfl (lv_at hl 0 rfl) ?_
    refine va_get (D := (dC, dI)) (ci := 3) (v := .int σ.2.2.2.2.1) (C := RX3) (T := TX3) (N := 9) hx hb hts (fun _ h9 => List.mem_cons_of_mem _ (List.mem_append_right _ h9)) hown hK hP 0 rfl rfl 4 (by decide) (hts (.fieldLink RX3 28 "LowPowerCpuModel" "lines" "I") (by decide +kernel)) (fun _ h9 => h9) rfl dX3_step_11 ?_
    refine lv_if_eq (tgt := 23) hx hb dX3_step_14 (by decide) (fun c21 => ?_) (fun c21 => ?_)
    · refine lv_aload_n hx hb dX3_step_23 rfl (lv_at hl 0 rfl) ?_
      refine lv_bipush (v := 16) hx hb dX3_step_24 (by decide) ?_
      refine callR_ip (va_runV (As := [.int 16]) (rest := []) ⟨hx, hb, hml, hown, hts⟩ (c_X3_flag l dC dI h k _ σ 16) (cwV 1 hts gX3_step_X3_flag rfl rfl rfl (by decide +kernel) ⟨Nat.le_of_ble_eq_true rfl, Nat.le_of_ble_eq_true rfl⟩) (preR_V (ci := 3) (q0 := 0) hct hP hD hS rfl rfl) rfl rfl hl.1 rfl (lv_room (Nat.le_of_ble_eq_true rfl)) dX3_step_26 ⟨Nat.le_of_ble_eq_true rfl, Nat.le_of_ble_eq_true rfl⟩) hS (fun x22 H locs ex22 hP hD hS => ?_)
      refine lv_iconst (v := 1) hx hb dX3_step_29 (by decide) ?_
      refine lv_icmp_ne (tgt := 35) hx hb dX3_step_30 (by decide) (fun c23 => ?_) (fun c23 => ?_)
      · refine lv_aload_n hx hb dX3_step_35 rfl (lv_at hl 0 rfl) ?_
        refine lv_aload_n hx hb dX3_step_36 rfl (lv_at hl 0 rfl) ?_
        refine va_get (D := (dC, dI)) (ci := 3) (v := .ref (h 2)) (C := RX3) (T := TX3) (N := 9) hx hb hts (fun _ h9 => List.mem_cons_of_mem _ (List.mem_append_right _ h9)) hown hK hP 0 rfl rfl 1 (by decide) (hts (.fieldLink RX3 14 "LowPowerCpuModel" "\x72" "[I") (by decide +kernel)) (fun _ h9 => h9) rfl dX3_step_37 ?_
        refine lv_iconst (v := 0) hx hb dX3_step_40 (by decide) ?_
        refine va_iald hx hb hK hP 2 0 rfl rfl (in_c (by decide)) dX3_step_41 ?_
        refine callR_ip (va_runV (As := [.int (σ.2.1 (0 : Int32).toNatClampNeg)]) (rest := []) ⟨hx, hb, hml, hown, hts⟩ (c_X3_wordAt l dC dI h k _ σ (σ.2.1 (0 : Int32).toNatClampNeg) (hI.1 _ (by decide))) (cwV 1 hts gX3_step_X3_wordAt rfl rfl rfl (by decide +kernel) ⟨Nat.le_of_ble_eq_true rfl, Nat.le_of_ble_eq_true rfl⟩) (preR_V (ci := 3) (q0 := 0) hct hP hD hS rfl rfl) rfl rfl hl.1 rfl (lv_room (Nat.le_of_ble_eq_true rfl)) dX3_step_42 ⟨Nat.le_of_ble_eq_true rfl, Nat.le_of_ble_eq_true rfl⟩) hS (fun x24 H locs ex24 hP hD hS => ?_)
        refine lv_istore_n (lv' := [(1, .int x24), (0, .ref (h 0))]) hx hb dX3_step_45 rfl hl (by decide) rfl (fun ls hl => ?_)
        refine lv_iload_n hx hb dX3_step_46 rfl (lv_at hl 0 rfl) ?_
        refine callR_ip (va_runS (As := [.int x24]) (rest := []) ⟨hx, hb, hml, hown, hts⟩ (c_X3_isAssigned l dC dI h k _ σ x24) (va_cwS 1 hts gX3_step_X3_isAssigned rfl rfl rfl (by decide +kernel) ⟨Nat.le_of_ble_eq_true rfl, Nat.le_of_ble_eq_true rfl⟩) (preR_S hct hP hD hS) rfl rfl hl.1 rfl (lv_room (Nat.le_of_ble_eq_true rfl)) dX3_step_47 ⟨Nat.le_of_ble_eq_true rfl, Nat.le_of_ble_eq_true rfl⟩) hS (fun x25 H locs ex25 hP hD hS => ?_)
        refine lv_if_ne (tgt := 55) hx hb dX3_step_50 (by decide) (fun c26 => ?_) (fun c26 => ?_)
        · refine lv_aload_n hx hb dX3_step_55 rfl (lv_at hl 1 rfl) ?_
          refine callR_i (va_runV (As := []) (rest := []) ⟨hx, hb, hml, hown, hts⟩ (c_X3_taken l dC dI h k _ σ  hI) (cwV 0 hts gX3_step_X3_taken rfl rfl rfl (by decide +kernel) ⟨Nat.le_of_ble_eq_true rfl, Nat.le_of_ble_eq_true rfl⟩) (preR_V (ci := 3) (q0 := 0) hct hP hD hS rfl rfl) rfl rfl hl.1 rfl (lv_room (Nat.le_of_ble_eq_true rfl)) dX3_step_56 ⟨Nat.le_of_ble_eq_true rfl, Nat.le_of_ble_eq_true rfl⟩) hS (fun x27 σ28 H locs ex27 eσ28 hP hD hS => ?_)
          have hIσ28 : okR σ28 := by rw [eσ28]; (repeat (first | with_reducible assumption | with_reducible exact okR_of hI rfl rfl rfl | with_reducible apply ok_X3_spend | with_reducible apply ok_X3_setRegister | with_reducible apply ok_X3_write | with_reducible apply ok_X3_number | with_reducible apply ok_X3_memory | with_reducible apply ok_X3_taken | with_reducible apply ok_X3_indexed | with_reducible apply ok_X3_joined | with_reducible apply ok_X3_push | with_reducible apply ok_X3_popped | with_reducible apply ok_X3_shifted | with_reducible apply ok_X3_register | with_reducible apply ok_X3_source | with_reducible apply in15 | (subst_vars; with_reducible apply in15)))
          refine lv_pop hx hb dX3_step_59 rfl ?_
          refine lv_aload_n hx hb dX3_step_60 rfl (lv_at hl 1 rfl) ?_
          refine lv_iload_n hx hb dX3_step_61 rfl (lv_at hl 0 rfl) ?_
          refine lv_sipush (v := 16384) hx hb dX3_step_62 (by decide) ?_
          refine wj (α := Int32) (D := (dC, dI)) (cl := vwCl) (A := AX 4 h s.heap.size) (H0 := s.heap) (if 16384 ≤ x24 then if (x24 &&& (64 : Int32)) = 0 then 0 else 1 else if 8192 ≤ x24 then 0 else if (x24 &&& (64 : Int32)) = 0 then 0 else 1) (fun v30 => wsR h k σ28) (fun v30 => [(1, .int x24), (0, .ref (h 0))]) 2 (fun v30 ls => F0 m 87 ls [.int v30, .ref (h 0)]) ?_ ?_
          · intro v30 ls H locs ev30 hl hP hD hS
            try dsimp only at hl hP hD ⊢
            refine va_put (D := (dC, dI)) (ci := 3) (v := .int v30) (ty := .boolean) (C := RX3) (T := TX3) (N := 9) hx hb hts (fun _ h9 => List.mem_cons_of_mem _ (List.mem_append_right _ h9)) tyX3 tyX3_ok nmX3 hown hK hP hD hS 0 rfl rfl 8 (by decide) (hts (.fieldLink RX3 51 "LowPowerCpuModel" "bytes" "Z") (by decide +kernel)) (fun _ h9 => h9) rfl (by decide +kernel) (nb01 (by rw [ev30]; (try unfold f_X2_isSet); (repeat' split) <;> first | exact Or.inl rfl | exact Or.inr rfl)) ((fb01 (by rw [ev30]; (try unfold f_X2_isSet); (repeat' split) <;> first | exact Or.inl rfl | exact Or.inr rfl))) (Nat.le_of_ble_eq_true rfl) dX3_step_87 (fun H locs hP hD hS => ?_)
            have hP : va_P (dC, dI) vwCl (wsR h k (σ28.1, σ28.2.1, σ28.2.2.1, σ28.2.2.2.1, σ28.2.2.2.2.1, σ28.2.2.2.2.2.1, σ28.2.2.2.2.2.2.1, σ28.2.2.2.2.2.2.2.1, v30)) H := hP
            have hD : va_D (AX 4 h s.heap.size) (wsR h k (σ28.1, σ28.2.1, σ28.2.2.1, σ28.2.2.2.1, σ28.2.2.2.2.1, σ28.2.2.2.2.2.1, σ28.2.2.2.2.2.2.1, σ28.2.2.2.2.2.2.2.1, v30)) := hD
            refine lv_iload_n hx hb dX3_step_90 rfl (lv_at hl 0 rfl) ?_
            refine lv_sipush (v := 16384) hx hb dX3_step_91 (by decide) ?_
            refine wj (α := StR) (D := (dC, dI)) (cl := vwCl) (A := AX 4 h s.heap.size) (H0 := s.heap) (if x24 < 16384 then if x24 < 8192 then let σ34 : StR := (f_X3_onePart (σ28.1, σ28.2.1, σ28.2.2.1, σ28.2.2.2.1, σ28.2.2.2.2.1, σ28.2.2.2.2.2.1, σ28.2.2.2.2.2.2.1, σ28.2.2.2.2.2.2.2.1, v30) x24); σ34 else let σ35 : StR := (f_X3_jump (σ28.1, σ28.2.1, σ28.2.2.1, σ28.2.2.2.1, σ28.2.2.2.2.1, σ28.2.2.2.2.2.1, σ28.2.2.2.2.2.2.1, σ28.2.2.2.2.2.2.2.1, v30) x24); σ35 else let σ36 : StR := (f_X3_twoParts (σ28.1, σ28.2.1, σ28.2.2.1, σ28.2.2.2.1, σ28.2.2.2.2.1, σ28.2.2.2.2.2.1, σ28.2.2.2.2.2.2.1, σ28.2.2.2.2.2.2.2.1, v30) x24); σ36) (fun v32 => wsR h k v32) (fun v32 => [(1, .int x24), (0, .ref (h 0))]) 2 (fun v32 ls => F0 m 125 ls []) ?_ ?_
            · intro v32 ls H locs ev32 hl hP hD hS
              try dsimp only at hl hP hD ⊢
              refine lv_iconst (v := 0) hx hb dX3_step_125 (by decide) ?_
              exact retR_i hx hb hr hlocks (by subst ev32; subst ev30; subst eσ28; subst ex27; subst ex25; subst ex24; subst ex22; subst ex1; exact (if_pos c2).trans ((if_pos c21).trans ((if_neg c23).trans (if_neg c26)))) hP hD hS dX3_step_126
            · intro J
              refine lv_icmp_lt (tgt := 105) hx hb dX3_step_94 (by decide) (fun c31 => ?_) (fun c31 => ?_)
              · refine lv_iload_n hx hb dX3_step_105 rfl (lv_at hl 0 rfl) ?_
                refine lv_sipush (v := 8192) hx hb dX3_step_106 (by decide) ?_
                refine lv_icmp_lt (tgt := 120) hx hb dX3_step_109 (by decide) (fun c33 => ?_) (fun c33 => ?_)
                · refine lv_aload_n hx hb dX3_step_120 rfl (lv_at hl 1 rfl) ?_
                  refine lv_iload_n hx hb dX3_step_121 rfl (lv_at hl 0 rfl) ?_
                  refine callR_v (va_runV (As := [.int x24]) (rest := []) ⟨hx, hb, hml, hown, hts⟩ (c_X3_onePart l dC dI h k _ (σ28.1, σ28.2.1, σ28.2.2.1, σ28.2.2.2.1, σ28.2.2.2.2.1, σ28.2.2.2.2.2.1, σ28.2.2.2.2.2.2.1, σ28.2.2.2.2.2.2.2.1, v30) x24 (okR_of hIσ28 rfl rfl rfl)) (cwV 1 hts gX3_step_X3_onePart rfl rfl rfl (by decide +kernel) ⟨Nat.le_of_ble_eq_true rfl, Nat.le_of_ble_eq_true rfl⟩) (preR_V (ci := 3) (q0 := 0) hct hP hD hS rfl rfl) rfl rfl hl.1 rfl (lv_room (Nat.le_of_ble_eq_true rfl)) dX3_step_122 ⟨Nat.le_of_ble_eq_true rfl, Nat.le_of_ble_eq_true rfl⟩) hS (fun σ34 H locs eσ34 hP hD hS => ?_)
                  exact J (σ34) ls _ _ (by subst eσ34; exact ((if_pos c31).trans (if_pos c33)).symm) (lv_sub hl [0, 1] rfl) hP hD hS
                · refine lv_aload_n hx hb dX3_step_112 rfl (lv_at hl 1 rfl) ?_
                  refine lv_iload_n hx hb dX3_step_113 rfl (lv_at hl 0 rfl) ?_
                  refine callR_v (va_runV (As := [.int x24]) (rest := []) ⟨hx, hb, hml, hown, hts⟩ (c_X3_jump l dC dI h k _ (σ28.1, σ28.2.1, σ28.2.2.1, σ28.2.2.2.1, σ28.2.2.2.2.1, σ28.2.2.2.2.2.1, σ28.2.2.2.2.2.2.1, σ28.2.2.2.2.2.2.2.1, v30) x24) (cwV 1 hts gX3_step_X3_jump rfl rfl rfl (by decide +kernel) ⟨Nat.le_of_ble_eq_true rfl, Nat.le_of_ble_eq_true rfl⟩) (preR_V (ci := 3) (q0 := 0) hct hP hD hS rfl rfl) rfl rfl hl.1 rfl (lv_room (Nat.le_of_ble_eq_true rfl)) dX3_step_114 ⟨Nat.le_of_ble_eq_true rfl, Nat.le_of_ble_eq_true rfl⟩) hS (fun σ35 H locs eσ35 hP hD hS => ?_)
                  refine lv_goto (tgt := 125) hx hb dX3_step_117 (by decide) ?_
                  exact J (σ35) ls _ _ (by subst eσ35; exact ((if_pos c31).trans (if_neg c33)).symm) (lv_sub hl [0, 1] rfl) hP hD hS
              · refine lv_aload_n hx hb dX3_step_97 rfl (lv_at hl 1 rfl) ?_
                refine lv_iload_n hx hb dX3_step_98 rfl (lv_at hl 0 rfl) ?_
                refine callR_v (va_runV (As := [.int x24]) (rest := []) ⟨hx, hb, hml, hown, hts⟩ (c_X3_twoParts l dC dI h k _ (σ28.1, σ28.2.1, σ28.2.2.1, σ28.2.2.2.1, σ28.2.2.2.2.1, σ28.2.2.2.2.2.1, σ28.2.2.2.2.2.2.1, σ28.2.2.2.2.2.2.2.1, v30) x24 (okR_of hIσ28 rfl rfl rfl)) (cwV 1 hts gX3_step_X3_twoParts rfl rfl rfl (by decide +kernel) ⟨Nat.le_of_ble_eq_true rfl, Nat.le_of_ble_eq_true rfl⟩) (preR_V (ci := 3) (q0 := 0) hct hP hD hS rfl rfl) rfl rfl hl.1 rfl (lv_room (Nat.le_of_ble_eq_true rfl)) dX3_step_99 ⟨Nat.le_of_ble_eq_true rfl, Nat.le_of_ble_eq_true rfl⟩) hS (fun σ36 H locs eσ36 hP hD hS => ?_)
                refine lv_goto (tgt := 125) hx hb dX3_step_102 (by decide) ?_
                exact J (σ36) ls _ _ (by subst eσ36; exact (if_neg c31).symm) (lv_sub hl [0, 1] rfl) hP hD hS
          · intro J
            refine lv_icmp_ge (tgt := 75) hx hb dX3_step_65 (by decide) (fun c29 => ?_) (fun c29 => ?_)
            · refine lv_iload_n hx hb dX3_step_75 rfl (lv_at hl 0 rfl) ?_
              refine lv_bipush (v := 64) hx hb dX3_step_76 (by decide) ?_
              refine lv_iand hx hb dX3_step_78 ?_
              refine lv_if_eq (tgt := 86) hx hb dX3_step_79 (by decide) (fun c37 => ?_) (fun c37 => ?_)
              · refine lv_iconst (v := 0) hx hb dX3_step_86 (by decide) ?_
                exact J (0) ls _ _ (by exact ((if_pos c29).trans (if_pos c37)).symm) (lv_sub hl [0, 1] rfl) hP hD hS
              · refine lv_iconst (v := 1) hx hb dX3_step_82 (by decide) ?_
                refine lv_goto (tgt := 87) hx hb dX3_step_83 (by decide) ?_
                exact J (1) ls _ _ (by exact ((if_pos c29).trans (if_neg c37)).symm) (lv_sub hl [0, 1] rfl) hP hD hS
            · refine lv_iload_n hx hb dX3_step_68 rfl (lv_at hl 0 rfl) ?_
              refine lv_sipush (v := 8192) hx hb dX3_step_69 (by decide) ?_
              refine lv_icmp_ge (tgt := 86) hx hb dX3_step_72 (by decide) (fun c38 => ?_) (fun c38 => ?_)
              · refine lv_iconst (v := 0) hx hb dX3_step_86 (by decide) ?_
                exact J (0) ls _ _ (by exact ((if_neg c29).trans (if_pos c38)).symm) (lv_sub hl [0, 1] rfl) hP hD hS
              · refine lv_iload_n hx hb dX3_step_75 rfl (lv_at hl 0 rfl) ?_
                refine lv_bipush (v := 64) hx hb dX3_step_76 (by decide) ?_
                refine lv_iand hx hb dX3_step_78 ?_
                refine lv_if_eq (tgt := 86) hx hb dX3_step_79 (by decide) (fun c39 => ?_) (fun c39 => ?_)
                · refine lv_iconst (v := 0) hx hb dX3_step_86 (by decide) ?_
                  exact J (0) ls _ _ (by exact ((if_neg c29).trans ((if_neg c38).trans (if_pos c39))).symm) (lv_sub hl [0, 1] rfl) hP hD hS
                · refine lv_iconst (v := 1) hx hb dX3_step_82 (by decide) ?_
                  refine lv_goto (tgt := 87) hx hb dX3_step_83 (by decide) ?_
                  exact J (1) ls _ _ (by exact ((if_neg c29).trans ((if_neg c38).trans (if_neg c39))).symm) (lv_sub hl [0, 1] rfl) hP hD hS
        · refine lv_iconst (v := 2) hx hb dX3_step_53 (by decide) ?_
          exact retR_i hx hb hr hlocks (by subst ex25; subst ex24; subst ex22; subst ex1; exact (if_pos c2).trans ((if_pos c21).trans ((if_neg c23).trans (if_pos c26)))) hP hD hS dX3_step_54
      · refine lv_iconst (v := 1) hx hb dX3_step_33 (by decide) ?_
        exact retR_i hx hb hr hlocks (by subst ex22; subst ex1; exact (if_pos c2).trans ((if_pos c21).trans (if_pos c23))) hP hD hS dX3_step_34
    · refine lv_aload_n hx hb dX3_step_17 rfl (lv_at hl 0 rfl) ?_
      refine callR_v (va_runV (As := []) (rest := []) ⟨hx, hb, hml, hown, hts⟩ (c_X3_interrupt l dC dI h k _ σ  c21 hI) (cwV 0 hts gX3_step_X3_interrupt rfl rfl rfl (by decide +kernel) ⟨Nat.le_of_ble_eq_true rfl, Nat.le_of_ble_eq_true rfl⟩) (preR_V (ci := 3) (q0 := 0) hct hP hD hS rfl rfl) rfl rfl hl.1 rfl (lv_room (Nat.le_of_ble_eq_true rfl)) dX3_step_18 ⟨Nat.le_of_ble_eq_true rfl, Nat.le_of_ble_eq_true rfl⟩) hS (fun σ40 H locs eσ40 hP hD hS => ?_)
      refine lv_iconst (v := 0) hx hb dX3_step_21 (by decide) ?_
      exact retR_i hx hb hr hlocks (by subst eσ40; subst ex1; exact (if_pos c2).trans (if_neg c21)) hP hD hS dX3_step_22
