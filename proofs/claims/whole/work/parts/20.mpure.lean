set_option maxHeartbeats 4000000 in
set_option maxRecDepth 100000 in
theorem c_X3_isMultiplier (l : Launch) (dC : Nat → ClassId) (dI : Nat → Nat → Nat) (h : Nat → Nat) (k : Nat → ClassId) (sz : Nat) (σ : StR) (a1 : Int32) : Met l yX3_isMultiplier wsX3_isMultiplier ({ frames := 0, cells := 0, slots := 0, locals := 0 }) (PcR (dC, dI) h k [.int a1] sz σ) (va_Qi (fun r u => (r, u) = (f_X3_isMultiplier a1, σ)) (BR (dC, dI) h k (AX 4 h sz)) (AX 4 h sz)) 0 0 (AX 4 h sz) := by
  refine Met.ofW (cc := cX3_isMultiplier) (maxL := 1) (ret := (some .boolean)) (by decide) rfl ?_
  intro p e s m args below meth c s₁ B hml hv
  obtain ⟨rfl, rfl, hP, hct, hD⟩ := hv
  have hx := B.exec
  have hb := B.bytes
  have hr := B.returns
  have hts := atoms_spec (ws := wsX3_isMultiplier) B.pre
  have hown : s.vm.findClass RX3 = some m.cls := findClass_of_methodNamed B.named
  have hlocks := B.notSynchronized
  have hK := hct.1
  have hS : va_S (AX 4 h s.heap.size) s.heap s.heap [] := va_S.rf
  have hl := lv_entry ([.int a1]) (n := 1) (Nat.le_of_ble_eq_true rfl)
  rw [lg_entry_eq]
  generalize (lg_sl ([.int a1]) ++ List.replicate (1 - (lg_sl ([.int a1])).length) Slot.unset).toArray = ls at hl ⊢
  have hl : lv_has ls 1 [(0, .int a1)] := hl
  refine lv_iload_n hx hb dX3_isMultiplier_0 rfl (lv_at hl 0 rfl) ?_
  refine lv_sipush (v := 304) hx hb dX3_isMultiplier_1 (by decide) ?_
  refine lv_icmp_lt (tgt := 18) hx hb dX3_isMultiplier_4 (by decide) (fun c1 => ?_) (fun c1 => ?_)
  · refine lv_iconst (v := 0) hx hb dX3_isMultiplier_18 (by decide) ?_
    exact retR_zp hx hb hr hlocks rfl (by exact if_pos c1) hP hD hS dX3_isMultiplier_19
  · refine lv_iload_n hx hb dX3_isMultiplier_7 rfl (lv_at hl 0 rfl) ?_
    refine lv_sipush (v := 320) hx hb dX3_isMultiplier_8 (by decide) ?_
    refine lv_icmp_ge (tgt := 18) hx hb dX3_isMultiplier_11 (by decide) (fun c2 => ?_) (fun c2 => ?_)
    · refine lv_iconst (v := 0) hx hb dX3_isMultiplier_18 (by decide) ?_
      exact retR_zp hx hb hr hlocks rfl (by exact (if_neg c1).trans (if_pos c2)) hP hD hS dX3_isMultiplier_19
    · refine lv_iconst (v := 1) hx hb dX3_isMultiplier_14 (by decide) ?_
      refine lv_goto (tgt := 19) hx hb dX3_isMultiplier_15 (by decide) ?_
      exact retR_zp hx hb hr hlocks rfl (by exact (if_neg c1).trans (if_neg c2)) hP hD hS dX3_isMultiplier_19

set_option maxHeartbeats 4000000 in
set_option maxRecDepth 100000 in
theorem c_X3_which (l : Launch) (dC : Nat → ClassId) (dI : Nat → Nat → Nat) (h : Nat → Nat) (k : Nat → ClassId) (sz : Nat) (σ : StR) (a1 : Int32) : Met l yX3_which wsX3_which ({ frames := 0, cells := 0, slots := 0, locals := 0 }) (PcR (dC, dI) h k [.int a1] sz σ) (va_Qi (fun r u => (r, u) = (f_X3_which a1, σ)) (BR (dC, dI) h k (AX 4 h sz)) (AX 4 h sz)) 0 0 (AX 4 h sz) := by
  refine Met.ofW (cc := cX3_which) (maxL := 1) (ret := (some .int)) (by decide) rfl ?_
  intro p e s m args below meth c s₁ B hml hv
  obtain ⟨rfl, rfl, hP, hct, hD⟩ := hv
  have hx := B.exec
  have hb := B.bytes
  have hr := B.returns
  have hts := atoms_spec (ws := wsX3_which) B.pre
  have hown : s.vm.findClass RX3 = some m.cls := findClass_of_methodNamed B.named
  have hlocks := B.notSynchronized
  have hK := hct.1
  have hS : va_S (AX 4 h s.heap.size) s.heap s.heap [] := va_S.rf
  have hl := lv_entry ([.int a1]) (n := 1) (Nat.le_of_ble_eq_true rfl)
  rw [lg_entry_eq]
  generalize (lg_sl ([.int a1]) ++ List.replicate (1 - (lg_sl ([.int a1])).length) Slot.unset).toArray = ls at hl ⊢
  have hl : lv_has ls 1 [(0, .int a1)] := hl
  refine lv_iload_n hx hb dX3_which_0 rfl (lv_at hl 0 rfl) ?_
  refine lv_sipush (v := 312) hx hb dX3_which_1 (by decide) ?_
  refine lv_icmp_ge (tgt := 11) hx hb dX3_which_4 (by decide) (fun c1 => ?_) (fun c1 => ?_)
  · refine lv_iload_n hx hb dX3_which_11 rfl (lv_at hl 0 rfl) ?_
    refine lv_sipush (v := 304) hx hb dX3_which_12 (by decide) ?_
    refine lv_isub hx hb dX3_which_15 ?_
    refine lv_iconst (v := 2) hx hb dX3_which_16 (by decide) ?_
    refine lv_idiv hx hb dX3_which_17 (by decide) ?_
    refine lv_iconst (v := 3) hx hb dX3_which_18 (by decide) ?_
    refine lv_isub hx hb dX3_which_19 ?_
    exact retR_ip hx hb hr hlocks (by exact if_pos c1) hP hD hS dX3_which_20
  · refine lv_iconst (v := 0) hx hb dX3_which_7 (by decide) ?_
    refine lv_goto (tgt := 20) hx hb dX3_which_8 (by decide) ?_
    exact retR_ip hx hb hr hlocks (by exact if_neg c1) hP hD hS dX3_which_20

set_option maxHeartbeats 4000000 in
set_option maxRecDepth 100000 in
theorem c_X3_isAddress (l : Launch) (dC : Nat → ClassId) (dI : Nat → Nat → Nat) (h : Nat → Nat) (k : Nat → ClassId) (sz : Nat) (σ : StR) (a1 : Int32) : Met l yX3_isAddress wsX3_isAddress ({ frames := 0, cells := 0, slots := 0, locals := 0 }) (PcR (dC, dI) h k [.int a1] sz σ) (va_Qi (fun r u => (r, u) = (f_X3_isAddress a1, σ)) (BR (dC, dI) h k (AX 4 h sz)) (AX 4 h sz)) 0 0 (AX 4 h sz) := by
  refine Met.ofW (cc := cX3_isAddress) (maxL := 1) (ret := (some .boolean)) (by decide) rfl ?_
  intro p e s m args below meth c s₁ B hml hv
  obtain ⟨rfl, rfl, hP, hct, hD⟩ := hv
  have hx := B.exec
  have hb := B.bytes
  have hr := B.returns
  have hts := atoms_spec (ws := wsX3_isAddress) B.pre
  have hown : s.vm.findClass RX3 = some m.cls := findClass_of_methodNamed B.named
  have hlocks := B.notSynchronized
  have hK := hct.1
  have hS : va_S (AX 4 h s.heap.size) s.heap s.heap [] := va_S.rf
  have hl := lv_entry ([.int a1]) (n := 1) (Nat.le_of_ble_eq_true rfl)
  rw [lg_entry_eq]
  generalize (lg_sl ([.int a1]) ++ List.replicate (1 - (lg_sl ([.int a1])).length) Slot.unset).toArray = ls at hl ⊢
  have hl : lv_has ls 1 [(0, .int a1)] := hl
  refine lv_iload_n hx hb dX3_isAddress_0 rfl (lv_at hl 0 rfl) ?_
  refine lv_if_lt (tgt := 14) hx hb dX3_isAddress_1 (by decide) (fun c1 => ?_) (fun c1 => ?_)
  · refine lv_iconst (v := 0) hx hb dX3_isAddress_14 (by decide) ?_
    exact retR_zp hx hb hr hlocks rfl (by exact if_pos c1) hP hD hS dX3_isAddress_15
  · refine lv_iload_n hx hb dX3_isAddress_4 rfl (lv_at hl 0 rfl) ?_
    refine lv_ldc (v := 65536) hx hb hown (hts (.constant RX3 73 65536) (by decide +kernel)) dX3_isAddress_5 ?_
    refine lv_icmp_ge (tgt := 14) hx hb dX3_isAddress_7 (by decide) (fun c2 => ?_) (fun c2 => ?_)
    · refine lv_iconst (v := 0) hx hb dX3_isAddress_14 (by decide) ?_
      exact retR_zp hx hb hr hlocks rfl (by exact (if_neg c1).trans (if_pos c2)) hP hD hS dX3_isAddress_15
    · refine lv_iconst (v := 1) hx hb dX3_isAddress_10 (by decide) ?_
      refine lv_goto (tgt := 15) hx hb dX3_isAddress_11 (by decide) ?_
      exact retR_zp hx hb hr hlocks rfl (by exact (if_neg c1).trans (if_neg c2)) hP hD hS dX3_isAddress_15

set_option maxHeartbeats 4000000 in
set_option maxRecDepth 100000 in
theorem c_X3_withByte (l : Launch) (dC : Nat → ClassId) (dI : Nat → Nat → Nat) (h : Nat → Nat) (k : Nat → ClassId) (sz : Nat) (σ : StR) (a1 : Int32) (a2 : Int32) (a3 : Int32) : Met l yX3_withByte wsX3_withByte ({ frames := 0, cells := 0, slots := 0, locals := 0 }) (PcR (dC, dI) h k [.int a1, .int a2, .int a3] sz σ) (va_Qi (fun r u => (r, u) = (f_X3_withByte a1 a2 a3, σ)) (BR (dC, dI) h k (AX 4 h sz)) (AX 4 h sz)) 0 0 (AX 4 h sz) := by
  refine Met.ofW (cc := cX3_withByte) (maxL := 3) (ret := (some .int)) (by decide) rfl ?_
  intro p e s m args below meth c s₁ B hml hv
  obtain ⟨rfl, rfl, hP, hct, hD⟩ := hv
  have hx := B.exec
  have hb := B.bytes
  have hr := B.returns
  have hts := atoms_spec (ws := wsX3_withByte) B.pre
  have hown : s.vm.findClass RX3 = some m.cls := findClass_of_methodNamed B.named
  have hlocks := B.notSynchronized
  have hK := hct.1
  have hS : va_S (AX 4 h s.heap.size) s.heap s.heap [] := va_S.rf
  have hl := lv_entry ([.int a1, .int a2, .int a3]) (n := 3) (Nat.le_of_ble_eq_true rfl)
  rw [lg_entry_eq]
  generalize (lg_sl ([.int a1, .int a2, .int a3]) ++ List.replicate (3 - (lg_sl ([.int a1, .int a2, .int a3])).length) Slot.unset).toArray = ls at hl ⊢
  have hl : lv_has ls 3 [(0, .int a1), (1, .int a2), (2, .int a3)] := hl
  refine lv_iload_n hx hb dX3_withByte_0 rfl (lv_at hl 1 rfl) ?_
  refine lv_iconst (v := 1) hx hb dX3_withByte_1 (by decide) ?_
  refine lv_iand hx hb dX3_withByte_2 ?_
  refine lv_if_ne (tgt := 15) hx hb dX3_withByte_3 (by decide) (fun c1 => ?_) (fun c1 => ?_)
  · refine lv_iload_n hx hb dX3_withByte_15 rfl (lv_at hl 0 rfl) ?_
    refine lv_sipush (v := 255) hx hb dX3_withByte_16 (by decide) ?_
    refine lv_iand hx hb dX3_withByte_19 ?_
    refine lv_iload_n hx hb dX3_withByte_20 rfl (lv_at hl 2 rfl) ?_
    refine lv_bipush (v := 8) hx hb dX3_withByte_21 (by decide) ?_
    refine lv_ishl hx hb dX3_withByte_23 ?_
    refine lv_ior hx hb dX3_withByte_24 ?_
    exact retR_ip hx hb hr hlocks (by exact if_neg c1) hP hD hS dX3_withByte_25
  · refine lv_iload_n hx hb dX3_withByte_6 rfl (lv_at hl 0 rfl) ?_
    refine lv_ldc (v := 65280) hx hb hown (hts (.constant RX3 58 65280) (by decide +kernel)) dX3_withByte_7 ?_
    refine lv_iand hx hb dX3_withByte_9 ?_
    refine lv_iload_n hx hb dX3_withByte_10 rfl (lv_at hl 2 rfl) ?_
    refine lv_ior hx hb dX3_withByte_11 ?_
    refine lv_goto (tgt := 25) hx hb dX3_withByte_12 (by decide) ?_
    exact retR_ip hx hb hr hlocks (by exact if_pos c1) hP hD hS dX3_withByte_25

set_option maxHeartbeats 4000000 in
set_option maxRecDepth 100000 in
theorem c_X3_sort (l : Launch) (dC : Nat → ClassId) (dI : Nat → Nat → Nat) (h : Nat → Nat) (k : Nat → ClassId) (sz : Nat) (σ : StR) (a1 : Int32) (a2 : Int32) : Met l yX3_sort wsX3_sort ({ frames := 0, cells := 0, slots := 0, locals := 0 }) (PcR (dC, dI) h k [.int a1, .int a2] sz σ) (va_Qi (fun r u => (r, u) = (f_X3_sort a1 a2, σ)) (BR (dC, dI) h k (AX 4 h sz)) (AX 4 h sz)) 0 0 (AX 4 h sz) := by
  refine Met.ofW (cc := cX3_sort) (maxL := 2) (ret := (some .int)) (by decide) rfl ?_
  intro p e s m args below meth c s₁ B hml hv
  obtain ⟨rfl, rfl, hP, hct, hD⟩ := hv
  have hx := B.exec
  have hb := B.bytes
  have hr := B.returns
  have hts := atoms_spec (ws := wsX3_sort) B.pre
  have hown : s.vm.findClass RX3 = some m.cls := findClass_of_methodNamed B.named
  have hlocks := B.notSynchronized
  have hK := hct.1
  have hS : va_S (AX 4 h s.heap.size) s.heap s.heap [] := va_S.rf
  have hl := lv_entry ([.int a1, .int a2]) (n := 2) (Nat.le_of_ble_eq_true rfl)
  rw [lg_entry_eq]
  generalize (lg_sl ([.int a1, .int a2]) ++ List.replicate (2 - (lg_sl ([.int a1, .int a2])).length) Slot.unset).toArray = ls at hl ⊢
  have hl : lv_has ls 2 [(0, .int a1), (1, .int a2)] := hl
  refine lv_iload_n hx hb dX3_sort_0 rfl (lv_at hl 0 rfl) ?_
  refine lv_if_eq (tgt := 19) hx hb dX3_sort_1 (by decide) (fun c1 => ?_) (fun c1 => ?_)
  · refine lv_iconst (v := 0) hx hb dX3_sort_19 (by decide) ?_
    exact retR_ip hx hb hr hlocks (by exact if_pos c1) hP hD hS dX3_sort_20
  · refine lv_iload_n hx hb dX3_sort_4 rfl (lv_at hl 1 rfl) ?_
    refine lv_iconst (v := 3) hx hb dX3_sort_5 (by decide) ?_
    refine lv_icmp_eq (tgt := 19) hx hb dX3_sort_6 (by decide) (fun c2 => ?_) (fun c2 => ?_)
    · refine lv_iconst (v := 0) hx hb dX3_sort_19 (by decide) ?_
      exact retR_ip hx hb hr hlocks (by exact (if_neg c1).trans (if_pos c2)) hP hD hS dX3_sort_20
    · refine lv_iload_n hx hb dX3_sort_9 rfl (lv_at hl 1 rfl) ?_
      refine lv_iconst (v := 2) hx hb dX3_sort_10 (by decide) ?_
      refine lv_icmp_ne (tgt := 21) hx hb dX3_sort_11 (by decide) (fun c3 => ?_) (fun c3 => ?_)
      · refine lv_iload_n hx hb dX3_sort_21 rfl (lv_at hl 0 rfl) ?_
        refine lv_iconst (v := 1) hx hb dX3_sort_22 (by decide) ?_
        refine lv_icmp_ne (tgt := 30) hx hb dX3_sort_23 (by decide) (fun c4 => ?_) (fun c4 => ?_)
        · refine lv_iload_n hx hb dX3_sort_30 rfl (lv_at hl 0 rfl) ?_
          refine lv_iconst (v := 1) hx hb dX3_sort_31 (by decide) ?_
          refine lv_isub hx hb dX3_sort_32 ?_
          exact retR_ip hx hb hr hlocks (by exact (if_neg c1).trans ((if_neg c2).trans ((if_neg c3).trans (if_neg c4)))) hP hD hS dX3_sort_33
        · refine lv_iconst (v := 3) hx hb dX3_sort_26 (by decide) ?_
          refine lv_goto (tgt := 33) hx hb dX3_sort_27 (by decide) ?_
          exact retR_ip hx hb hr hlocks (by exact (if_neg c1).trans ((if_neg c2).trans ((if_neg c3).trans (if_pos c4)))) hP hD hS dX3_sort_33
      · refine lv_iload_n hx hb dX3_sort_14 rfl (lv_at hl 0 rfl) ?_
        refine lv_iconst (v := 1) hx hb dX3_sort_15 (by decide) ?_
        refine lv_icmp_le (tgt := 21) hx hb dX3_sort_16 (by decide) (fun c5 => ?_) (fun c5 => ?_)
        · refine lv_iload_n hx hb dX3_sort_21 rfl (lv_at hl 0 rfl) ?_
          refine lv_iconst (v := 1) hx hb dX3_sort_22 (by decide) ?_
          refine lv_icmp_ne (tgt := 30) hx hb dX3_sort_23 (by decide) (fun c6 => ?_) (fun c6 => ?_)
          · refine lv_iload_n hx hb dX3_sort_30 rfl (lv_at hl 0 rfl) ?_
            refine lv_iconst (v := 1) hx hb dX3_sort_31 (by decide) ?_
            refine lv_isub hx hb dX3_sort_32 ?_
            exact retR_ip hx hb hr hlocks (by exact (if_neg c1).trans ((if_neg c2).trans ((if_pos c3).trans ((if_pos c5).trans (if_neg c6))))) hP hD hS dX3_sort_33
          · refine lv_iconst (v := 3) hx hb dX3_sort_26 (by decide) ?_
            refine lv_goto (tgt := 33) hx hb dX3_sort_27 (by decide) ?_
            exact retR_ip hx hb hr hlocks (by exact (if_neg c1).trans ((if_neg c2).trans ((if_pos c3).trans ((if_pos c5).trans (if_pos c6))))) hP hD hS dX3_sort_33
        · refine lv_iconst (v := 0) hx hb dX3_sort_19 (by decide) ?_
          exact retR_ip hx hb hr hlocks (by exact (if_neg c1).trans ((if_neg c2).trans ((if_pos c3).trans (if_neg c5)))) hP hD hS dX3_sort_20

set_option maxHeartbeats 4000000 in
set_option maxRecDepth 100000 in
theorem c_X3_pick (l : Launch) (dC : Nat → ClassId) (dI : Nat → Nat → Nat) (h : Nat → Nat) (k : Nat → ClassId) (sz : Nat) (σ : StR) (a1 : Int32) (a2 : Int32) : Met l yX3_pick wsX3_pick ({ frames := 0, cells := 0, slots := 0, locals := 0 }) (PcR (dC, dI) h k [.int a1, .int a2] sz σ) (va_Qi (fun r u => (r, u) = (f_X3_pick a1 a2, σ)) (BR (dC, dI) h k (AX 4 h sz)) (AX 4 h sz)) 0 0 (AX 4 h sz) := by
  refine Met.ofW (cc := cX3_pick) (maxL := 2) (ret := (some .int)) (by decide) rfl ?_
  intro p e s m args below meth c s₁ B hml hv
  obtain ⟨rfl, rfl, hP, hct, hD⟩ := hv
  have hx := B.exec
  have hb := B.bytes
  have hr := B.returns
  have hts := atoms_spec (ws := wsX3_pick) B.pre
  have hown : s.vm.findClass RX3 = some m.cls := findClass_of_methodNamed B.named
  have hlocks := B.notSynchronized
  have hK := hct.1
  have hS : va_S (AX 4 h s.heap.size) s.heap s.heap [] := va_S.rf
  have hl := lv_entry ([.int a1, .int a2]) (n := 2) (Nat.le_of_ble_eq_true rfl)
  rw [lg_entry_eq]
  generalize (lg_sl ([.int a1, .int a2]) ++ List.replicate (2 - (lg_sl ([.int a1, .int a2])).length) Slot.unset).toArray = ls at hl ⊢
  have hl : lv_has ls 2 [(0, .int a1), (1, .int a2)] := hl
  refine lv_iload_n hx hb dX3_pick_0 rfl (lv_at hl 0 rfl) ?_
  refine lv_iconst (v := 4) hx hb dX3_pick_1 (by decide) ?_
  refine lv_iload_n hx hb dX3_pick_2 rfl (lv_at hl 1 rfl) ?_
  refine lv_imul hx hb dX3_pick_3 ?_
  refine lv_ishr hx hb dX3_pick_4 ?_
  refine lv_bipush (v := 15) hx hb dX3_pick_5 (by decide) ?_
  refine lv_iand hx hb dX3_pick_7 ?_
  exact retR_ip hx hb hr hlocks (by exact rfl) hP hD hS dX3_pick_8

set_option maxHeartbeats 4000000 in
set_option maxRecDepth 100000 in
theorem c_X3_isAssigned (l : Launch) (dC : Nat → ClassId) (dI : Nat → Nat → Nat) (h : Nat → Nat) (k : Nat → ClassId) (sz : Nat) (σ : StR) (a1 : Int32) : Met l yX3_isAssigned wsX3_isAssigned ({ frames := 0, cells := 0, slots := 0, locals := 0 }) (PcR (dC, dI) h k [.int a1] sz σ) (va_Qi (fun r u => (r, u) = (f_X3_isAssigned a1, σ)) (BR (dC, dI) h k (AX 4 h sz)) (AX 4 h sz)) 0 0 (AX 4 h sz) := by
  refine Met.ofW (cc := cX3_isAssigned) (maxL := 2) (ret := (some .boolean)) (by decide) rfl ?_
  intro p e s m args below meth c s₁ B hml hv
  obtain ⟨rfl, rfl, hP, hct, hD⟩ := hv
  have hx := B.exec
  have hb := B.bytes
  have hr := B.returns
  have hts := atoms_spec (ws := wsX3_isAssigned) B.pre
  have hown : s.vm.findClass RX3 = some m.cls := findClass_of_methodNamed B.named
  have hlocks := B.notSynchronized
  have hK := hct.1
  have hS : va_S (AX 4 h s.heap.size) s.heap s.heap [] := va_S.rf
  have hl := lv_entry ([.int a1]) (n := 2) (Nat.le_of_ble_eq_true rfl)
  rw [lg_entry_eq]
  generalize (lg_sl ([.int a1]) ++ List.replicate (2 - (lg_sl ([.int a1])).length) Slot.unset).toArray = ls at hl ⊢
  have hl : lv_has ls 2 [(0, .int a1)] := hl
  refine lv_iload_n hx hb dX3_isAssigned_0 rfl (lv_at hl 0 rfl) ?_
  refine lv_sipush (v := 8192) hx hb dX3_isAssigned_1 (by decide) ?_
  refine lv_icmp_lt (tgt := 9) hx hb dX3_isAssigned_4 (by decide) (fun c1 => ?_) (fun c1 => ?_)
  · refine lv_iload_n hx hb dX3_isAssigned_9 rfl (lv_at hl 0 rfl) ?_
    refine lv_sipush (v := 4096) hx hb dX3_isAssigned_10 (by decide) ?_
    refine lv_icmp_lt (tgt := 23) hx hb dX3_isAssigned_13 (by decide) (fun c2 => ?_) (fun c2 => ?_)
    · refine lv_iconst (v := 0) hx hb dX3_isAssigned_23 (by decide) ?_
      exact retR_zp hx hb hr hlocks rfl (by exact (if_pos c1).trans (if_pos c2)) hP hD hS dX3_isAssigned_24
    · refine lv_iload_n hx hb dX3_isAssigned_16 rfl (lv_at hl 0 rfl) ?_
      refine lv_sipush (v := 4864) hx hb dX3_isAssigned_17 (by decide) ?_
      refine lv_icmp_le (tgt := 25) hx hb dX3_isAssigned_20 (by decide) (fun c3 => ?_) (fun c3 => ?_)
      · refine lv_iload_n hx hb dX3_isAssigned_25 rfl (lv_at hl 0 rfl) ?_
        refine lv_bipush (v := 7) hx hb dX3_isAssigned_26 (by decide) ?_
        refine lv_ishr hx hb dX3_isAssigned_28 ?_
        refine lv_bipush (v := 7) hx hb dX3_isAssigned_29 (by decide) ?_
        refine lv_iand hx hb dX3_isAssigned_31 ?_
        refine lv_topi (fun x4 ex4 => ?_)
        refine lv_istore_n (lv' := [(1, .int x4), (0, .int a1)]) hx hb dX3_isAssigned_32 rfl hl (by decide) rfl (fun ls hl => ?_)
        refine lv_iload_n hx hb dX3_isAssigned_33 rfl (lv_at hl 1 rfl) ?_
        refine lv_sipush (v := 4864) hx hb dX3_isAssigned_34 (by decide) ?_
        refine lv_icmp_eq (tgt := 61) hx hb dX3_isAssigned_37 (by decide) (fun c5 => ?_) (fun c5 => ?_)
        · refine lv_iconst (v := 1) hx hb dX3_isAssigned_61 (by decide) ?_
          refine lv_goto (tgt := 66) hx hb dX3_isAssigned_62 (by decide) ?_
          exact retR_zp hx hb hr hlocks rfl (by subst ex4; exact (if_pos c1).trans ((if_neg c2).trans ((if_pos c3).trans (if_pos c5)))) hP hD hS dX3_isAssigned_66
        · refine lv_iload_n hx hb dX3_isAssigned_40 rfl (lv_at hl 1 rfl) ?_
          refine lv_bipush (v := 64) hx hb dX3_isAssigned_41 (by decide) ?_
          refine lv_iand hx hb dX3_isAssigned_43 ?_
          refine lv_if_eq (tgt := 61) hx hb dX3_isAssigned_44 (by decide) (fun c6 => ?_) (fun c6 => ?_)
          · refine lv_iconst (v := 1) hx hb dX3_isAssigned_61 (by decide) ?_
            refine lv_goto (tgt := 66) hx hb dX3_isAssigned_62 (by decide) ?_
            exact retR_zp hx hb hr hlocks rfl (by subst ex4; exact (if_pos c1).trans ((if_neg c2).trans ((if_pos c3).trans ((if_neg c5).trans (if_pos c6))))) hP hD hS dX3_isAssigned_66
          · refine lv_iload_n hx hb dX3_isAssigned_47 rfl (lv_at hl 0 rfl) ?_
            refine lv_if_eq (tgt := 61) hx hb dX3_isAssigned_48 (by decide) (fun c7 => ?_) (fun c7 => ?_)
            · refine lv_iconst (v := 1) hx hb dX3_isAssigned_61 (by decide) ?_
              refine lv_goto (tgt := 66) hx hb dX3_isAssigned_62 (by decide) ?_
              exact retR_zp hx hb hr hlocks rfl (by subst ex4; exact (if_pos c1).trans ((if_neg c2).trans ((if_pos c3).trans ((if_neg c5).trans ((if_neg c6).trans (if_pos c7)))))) hP hD hS dX3_isAssigned_66
            · refine lv_iload_n hx hb dX3_isAssigned_51 rfl (lv_at hl 0 rfl) ?_
              refine lv_iconst (v := 2) hx hb dX3_isAssigned_52 (by decide) ?_
              refine lv_icmp_eq (tgt := 61) hx hb dX3_isAssigned_53 (by decide) (fun c8 => ?_) (fun c8 => ?_)
              · refine lv_iconst (v := 1) hx hb dX3_isAssigned_61 (by decide) ?_
                refine lv_goto (tgt := 66) hx hb dX3_isAssigned_62 (by decide) ?_
                exact retR_zp hx hb hr hlocks rfl (by subst ex4; exact (if_pos c1).trans ((if_neg c2).trans ((if_pos c3).trans ((if_neg c5).trans ((if_neg c6).trans ((if_neg c7).trans (if_pos c8))))))) hP hD hS dX3_isAssigned_66
              · refine lv_iload_n hx hb dX3_isAssigned_56 rfl (lv_at hl 0 rfl) ?_
                refine lv_iconst (v := 4) hx hb dX3_isAssigned_57 (by decide) ?_
                refine lv_icmp_ne (tgt := 65) hx hb dX3_isAssigned_58 (by decide) (fun c9 => ?_) (fun c9 => ?_)
                · refine lv_iconst (v := 0) hx hb dX3_isAssigned_65 (by decide) ?_
                  exact retR_zp hx hb hr hlocks rfl (by subst ex4; exact (if_pos c1).trans ((if_neg c2).trans ((if_pos c3).trans ((if_neg c5).trans ((if_neg c6).trans ((if_neg c7).trans ((if_neg c8).trans (if_neg c9)))))))) hP hD hS dX3_isAssigned_66
                · refine lv_iconst (v := 1) hx hb dX3_isAssigned_61 (by decide) ?_
                  refine lv_goto (tgt := 66) hx hb dX3_isAssigned_62 (by decide) ?_
                  exact retR_zp hx hb hr hlocks rfl (by subst ex4; exact (if_pos c1).trans ((if_neg c2).trans ((if_pos c3).trans ((if_neg c5).trans ((if_neg c6).trans ((if_neg c7).trans ((if_neg c8).trans (if_pos c9)))))))) hP hD hS dX3_isAssigned_66
      · refine lv_iconst (v := 0) hx hb dX3_isAssigned_23 (by decide) ?_
        exact retR_zp hx hb hr hlocks rfl (by exact (if_pos c1).trans ((if_neg c2).trans (if_neg c3))) hP hD hS dX3_isAssigned_24
  · refine lv_iconst (v := 1) hx hb dX3_isAssigned_7 (by decide) ?_
    exact retR_zp hx hb hr hlocks rfl (by exact if_neg c1) hP hD hS dX3_isAssigned_8
