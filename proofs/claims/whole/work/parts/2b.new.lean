/-! constructors of the class: what a new object is -/
abbrev zX1 : va_E := .inr (1, [.int 0, .int 0, .int 0, .int 0, .int 0, .int 0])
set_option maxHeartbeats 4000000 in
set_option maxRecDepth 100000 in
/-- Multiplier(): its fields stay -/
theorem c_X1_init (l : Launch) (dC : Nat → ClassId) (dI : Nat → Nat → Nat) (q0 : Nat) (sz : Nat) : Met l yX1_init wsX1_init ({ frames := 1, cells := 0, slots := 0, locals := 12 }) (va_Pc [.ref q0] (fun U => U.heap.size = sz ∧ va_P (dC, dI) vwCl [(q0, zX1)] U.heap ∧ va_D (fun _ => True) [(q0, zX1)])) (va_Qv (fun u : Unit => u = u) (fun _ t => va_P (dC, dI) vwCl [(q0, zX1)] t.heap ∧ va_D (va_A [(q0, zX1)] sz) [(q0, zX1)]) (va_A [(q0, zX1)] sz)) 0 0 (va_A [(q0, zX1)] sz) := by
  refine Met.ofW (cc := cX1_init) (maxL := 1) (ret := none) (by decide) rfl ?_
  intro p e s m args below meth c s₁ B hml hv
  obtain ⟨rfl, rfl, hP, hD0⟩ := hv
  have hx := B.exec
  have hb := B.bytes
  have hr := B.returns
  have hts := atoms_spec (ws := wsX1_init) B.pre
  have hown : s.vm.findClass RX1 = some m.cls := findClass_of_methodNamed B.named
  have hlocks := B.notSynchronized
  have hD := hD0.self (sz := s.heap.size)
  have hS : va_S (va_A [(q0, zX1)] s.heap.size) s.heap s.heap [] := va_S.rf
  have hl := lv_entry ([.ref q0]) (n := 1) (Nat.le_of_ble_eq_true rfl)
  rw [lg_entry_eq]
  generalize (lg_sl ([.ref q0]) ++ List.replicate (1 - (lg_sl ([.ref q0])).length) Slot.unset).toArray = ls at hl ⊢
  have hl : lv_has ls 1 [(0, .ref q0)] := hl
  refine lv_aload_n hx hb dX1_init_0 rfl (lv_at hl 0 rfl) ?_
  refine W.objInit hx hb hown (hts (.methodLink RX1 1 objectInit) (by decide +kernel)) (hts (.instanceMethod objectInit) (by decide +kernel)) (hts _ (List.mem_cons_of_mem _ (List.mem_of_getElem? (i := 2) rfl))) rfl (by rw [hml]; exact hl.1) rfl dX1_init_1 (Nat.le_of_ble_eq_true rfl) (Nat.le_of_ble_eq_true rfl) ?_
  refine W.eq (g2 := F0 m 4 ls []) rfl ?_
  exact W.vret hx hb hr (fun t ht hW => ⟨⟨(), rfl, rfl, by rw [ht]; exact hP, hD⟩, hS.F ht⟩) hS.2.2 dX1_init_4
abbrev zX0 : va_E := .inr (0, [.null, .null])
abbrev wX0 (q0 qC qX : Nat) (cL : ClassId) : va_W := [(q0, .inr (0, [.ref qC, .ref qX])), (qC, .inl (cL, 8192, .inr (.inl (fun _ => 0)))), (qX, zX1)]
set_option maxHeartbeats 4000000 in
set_option maxRecDepth 100000 in
/-- Memory(): a row of 8192 longs, a Multiplier -/
theorem c_X0_init (l : Launch) (dC : Nat → ClassId) (dI : Nat → Nat → Nat) (q0 : Nat) (sz : Nat) : Met l yX0_init wsX0_init ({ frames := 2, cells := 2, slots := 8198, locals := 32 }) (va_Pc [.ref q0] (fun U => U.heap.size = sz ∧ va_P (dC, dI) vwCl [(q0, zX0)] U.heap ∧ va_K (dC, dI) vwCl [] U ∧ (∀ w ∈ nestC, va_Nw w U) ∧ va_D (fun _ => True) [(q0, zX0)])) (va_Qv (fun u : Nat × Nat × ClassId => u = u) (fun u t => va_P (dC, dI) vwCl (wX0 q0 u.1 u.2.1 u.2.2) t.heap ∧ va_K (dC, dI) vwCl [(u.2.2, .long)] t ∧ va_D (va_A [(q0, zX0)] sz) (wX0 q0 u.1 u.2.1 u.2.2)) (va_A [(q0, zX0)] sz)) 2 8198 (va_A [(q0, zX0)] sz) := by
  refine Met.ofW (cc := cX0_init) (maxL := 1) (ret := none) (by decide) rfl ?_
  intro p e s m args below meth c s₁ B hml hv
  obtain ⟨rfl, rfl, hP, hK, hN, hD0⟩ := hv
  have hx := B.exec
  have hb := B.bytes
  have hr := B.returns
  have hts := atoms_spec (ws := wsX0_init) B.pre
  have hown : s.vm.findClass RX0 = some m.cls := findClass_of_methodNamed B.named
  have hlocks := B.notSynchronized
  have hin : meth.name = "<init>" := (name_of_methodNamed B.named B.method).1
  have hD := hD0.self (sz := s.heap.size)
  generalize hAe : va_A [(q0, zX0)] s.heap.size = A at hD ⊢
  have hA : ∀ q : Nat, s.heap.size ≤ q → A q := fun q h => by rw [← hAe]; exact Or.inr h
  have hS : va_S A s.heap s.heap [] := va_S.rf
  have hl := lv_entry ([.ref q0]) (n := 1) (Nat.le_of_ble_eq_true rfl)
  rw [lg_entry_eq]
  generalize (lg_sl ([.ref q0]) ++ List.replicate (1 - (lg_sl ([.ref q0])).length) Slot.unset).toArray = ls at hl ⊢
  have hl : lv_has ls 1 [(0, .ref q0)] := hl
  refine lv_aload_n hx hb dX0_init_0 rfl (lv_at hl 0 rfl) ?_
  refine W.objInit hx hb hown (hts (.methodLink RX0 3 objectInit) (by decide +kernel)) (hts (.instanceMethod objectInit) (by decide +kernel)) (hts _ (List.mem_cons_of_mem _ (List.mem_append_left _ (List.mem_append_left _ (List.mem_of_getElem? (i := 2) rfl))))) rfl (by rw [hml]; exact hl.1) rfl dX0_init_1 (Nat.le_of_ble_eq_true rfl) (Nat.le_of_ble_eq_true rfl) ?_
  refine W.eq (g2 := F0 m 4 ls []) rfl ?_
  refine lv_aload_n hx hb dX0_init_4 rfl (lv_at hl 0 rfl) ?_
  refine lv_sipush (v := 8192) hx hb dX0_init_5 (by decide) ?_
  refine va_newa (atype := .long) (N' := 8192) (a0 := (8192, .inr (.inl (fun _ => 0)))) hx hb (hts (.arrayClass .long) (by decide +kernel)) (ty := .long) rfl hK hP hD hS hA (fun cA => vp_cell_l cA 8192 (fun _ => 0)) (by decide) (by decide +kernel) (by decide +kernel) (by show _ ≤ (2 : Nat); omega) (by show _ ≤ (8198 : Nat); omega) dX0_init_8 (fun qC cL H hK hP hD hS => ?_)
  have hK : va_K (dC, dI) vwCl [(cL, .long)] s := hK
  have hP : va_P (dC, dI) vwCl [(q0, zX0), (qC, .inl (cL, 8192, .inr (.inl (fun _ => 0))))] H := hP
  have hD : va_D A [(q0, zX0), (qC, .inl (cL, 8192, .inr (.inl (fun _ => 0))))] := hD
  refine va_putF (D := (dC, dI)) (ci := 0) (v := .ref qC) (ty := .array .long) (C := RX0) (T := TX0) (N := 2) hx hb hts (fun _ h9 => List.mem_cons_of_mem _ (List.mem_append_left _ (List.mem_append_right _ h9))) tyX0 tyX0_ok nmX0 hown hK hP hD hS 0 rfl rfl 0 (by decide) (hts (.fieldLink RX0 9 "LowPowerCpu$Memory" "cells" "[J") (by decide +kernel)) (fun _ h9 => h9) rfl hin rfl (by decide +kernel) rfl rfl (Nat.le_of_ble_eq_true rfl) dX0_init_10 (fun H locs hP hD hS => ?_)
  have hP : va_P (dC, dI) vwCl [(q0, .inr (0, [.ref qC, .null])), (qC, .inl (cL, 8192, .inr (.inl (fun _ => 0))))] H := hP
  have hD : va_D A [(q0, .inr (0, [.ref qC, .null])), (qC, .inl (cL, 8192, .inr (.inl (fun _ => 0))))] := hD
  refine lv_aload_n hx hb dX0_init_13 rfl (lv_at hl 0 rfl) ?_
  refine va_new (ci := 1) (fs := [.int 0, .int 0, .int 0, .int 0, .int 0, .int 0]) (C := RX1) (T := TX1) (N := 6) hx hb hts (fun _ h9 => List.mem_cons_of_mem _ (List.mem_append_right _ h9)) tyX1 tyX1_ok hown (hts (.classLink RX0 15 RX1) (by decide +kernel)) (hts (.instantiable RX1 6) (by decide +kernel)) (hts (.initialized RX1) (by decide +kernel)) hK hP hD hS hA rfl (fun j hj => by rcases (show j = 0 ∨ j = 1 ∨ j = 2 ∨ j = 3 ∨ j = 4 ∨ j = 5 by omega) with rfl | rfl | rfl | rfl | rfl | rfl <;> rfl) (by show _ ≤ (2 : Nat); omega) (by show _ ≤ (8198 : Nat); omega) dX0_init_14 (fun qX H hP hD hS => ?_)
  have hP : va_P (dC, dI) vwCl [(q0, .inr (0, [.ref qC, .null])), (qC, .inl (cL, 8192, .inr (.inl (fun _ => 0)))), (qX, zX1)] H := hP
  have hD : va_D A [(q0, .inr (0, [.ref qC, .null])), (qC, .inl (cL, 8192, .inr (.inl (fun _ => 0)))), (qX, zX1)] := hD
  refine W.widen (k := 2) (n := 8198) (by omega) (by omega) ?_
  refine lv_dup hx hb dX0_init_17 rfl ?_
  have hPc := hP.sub (ws' := [(qX, zX1)]) [2] rfl
  have hDc := hD.sub (ws' := [(qX, zX1)]) [2] (by decide) rfl
  have hFc := va_free (wc := [(qX, zX1)]) hD hS hA [2] rfl
  refine va_callv (va_runIN (As := []) (rest := [.ref qX, .ref q0]) ⟨hx, hb, hml, hown, hts⟩ (c_X1_init l dC dI qX H.size) ⟨va_cnB 0 hts gX0_init_X1_init_n17 rfl rfl rfl (hN (.methodLinkNest RX0 17 yX1_init RX2) (by decide +kernel)) (hts (.initialized RX1) (by decide +kernel)) (by decide +kernel) ⟨Nat.le_of_ble_eq_true rfl, Nat.le_of_ble_eq_true rfl⟩, rfl, hts (.instanceMethod yX1_init) (by decide +kernel)⟩ ⟨fun a U g mk q => by obtain ⟨q0, q1, qP, qD⟩ := q; exact ⟨q0, q1, qP, qD⟩, fun U hU hW => ⟨rfl, by rw [hU], by rw [hU]; exact hPc, hDc.weaken (fun _ _ _ _ => trivial)⟩⟩ rfl rfl hl.1 rfl (lv_room (Nat.le_of_ble_eq_true rfl)) dX0_init_18 ⟨by show _ ≤ (2 : Nat); omega, by show _ ≤ (8198 : Nat); omega⟩) hS (fun q _ h => hFc q h) hFc (fun u t H1 locs ht hvm hw hB hz1 hk1 hS => ?_)
  obtain ⟨hP1, hD1⟩ := hB
  rw [ht] at hP1
  obtain ⟨hP, hD⟩ := va_join (wr := [(q0, .inr (0, [.ref qC, .null])), (qC, .inl (cL, 8192, .inr (.inl (fun _ => 0))))]) (w1 := [(qX, zX1)]) hP hD [2] [0, 1] rfl rfl (by decide) (by decide) hk1 hFc hP1 hD1
  generalize H1 = H at hP hS ⊢
  have hP : va_P (dC, dI) vwCl [(q0, .inr (0, [.ref qC, .null])), (qC, .inl (cL, 8192, .inr (.inl (fun _ => 0)))), (qX, zX1)] H := hP
  have hD : va_D A [(q0, .inr (0, [.ref qC, .null])), (qC, .inl (cL, 8192, .inr (.inl (fun _ => 0)))), (qX, zX1)] := hD
  refine va_putF (D := (dC, dI)) (ci := 0) (v := .ref qX) (ty := .object "LowPowerCpu$Multiplier") (C := RX0) (T := TX0) (N := 2) hx hb hts (fun _ h9 => List.mem_cons_of_mem _ (List.mem_append_left _ (List.mem_append_right _ h9))) tyX0 tyX0_ok nmX0 hown hK hP hD hS 0 rfl rfl 1 (by decide) (hts (.fieldLink RX0 18 "LowPowerCpu$Memory" "multiplier" "LLowPowerCpu$Multiplier;") (by decide +kernel)) (fun _ h9 => h9) rfl hin rfl (by decide +kernel) rfl rfl (Nat.le_of_ble_eq_true rfl) dX0_init_21 (fun H locs hP hD hS => ?_)
  have hP : va_P (dC, dI) vwCl (wX0 q0 qC qX cL) H := hP
  have hD : va_D A (wX0 q0 qC qX cL) := hD
  exact W.vret hx hb hr (fun t ht hW => ⟨⟨(qC, qX, cL), rfl, rfl, by rw [ht]; exact hP, va_K.moved hW.alike hK, hD⟩, hS.F ht⟩) hS.2.2 dX0_init_24
abbrev zX2 : va_E := .inr (2, [.null, .null, .int 0, .int 0])
def σ0 : StC := (fun _ => 0, 0, 0, fun _ => 0, 0, 0, 0, 0, 0, 0)
def hC5 (a b c d e : Nat) : Nat → Nat := fun i => match i with | 0 => a | 1 => b | 2 => c | 3 => d | _ => e
set_option maxHeartbeats 4000000 in
set_option maxRecDepth 100000 in
/-- LowPowerCpu(): all is 0, then init() -/
theorem c_X2_init (l : Launch) (dC : Nat → ClassId) (dI : Nat → Nat → Nat) (g : Nat → Nat) (q0 : Nat) (sz : Nat) : Met l yX2_init wsX2_init ({ frames := 4, cells := 4, slots := 8216, locals := 130 }) (va_Pc [.ref q0] (fun U => U.heap.size = sz ∧ va_P (dC, dI) vwCl [(q0, zX2)] U.heap ∧ va_K (dC, dI) vwCl [] U ∧ (∀ w ∈ nestC, va_Nw w U) ∧ ((∀ i, i < 7 → va_Z "LowPowerCpu" (tabN i) "[I" (.ref (g i)) (va_A [(q0, zX2)] sz) U U.heap) ∧ (∀ i, i < 7 → va_T .int (g i) 4 (fun j => .int (tabC i j)) (va_A [(q0, zX2)] sz) U U.heap)) ∧ va_D (fun _ => True) [(q0, zX2)])) (va_Qv (fun u : (Nat → Nat) × (Nat → ClassId) => u.1 0 = q0) (fun u t => va_P (dC, dI) vwCl (wsC u.1 u.2 (f_X2_init_ σ0)) t.heap ∧ va_K (dC, dI) vwCl [(u.2 0, .int), (u.2 1, .long)] t ∧ va_D (va_A [(q0, zX2)] sz) (wsC u.1 u.2 (f_X2_init_ σ0))) (va_A [(q0, zX2)] sz)) 4 8216 (va_A [(q0, zX2)] sz) := by
  refine Met.ofW (cc := cX2_init) (maxL := 1) (ret := none) (by decide) rfl ?_
  intro p e s m args below meth c s₁ B hml hv
  obtain ⟨rfl, rfl, hP, hK, hN, ⟨hZ, hT⟩, hD0⟩ := hv
  have hx := B.exec
  have hb := B.bytes
  have hr := B.returns
  have hts := atoms_spec (ws := wsX2_init) B.pre
  have hown : s.vm.findClass RX2 = some m.cls := findClass_of_methodNamed B.named
  have hlocks := B.notSynchronized
  have hin : meth.name = "<init>" := (name_of_methodNamed B.named B.method).1
  have hD := hD0.self (sz := s.heap.size)
  generalize hAe : va_A [(q0, zX2)] s.heap.size = A at hD hZ hT ⊢
  have hA : ∀ q : Nat, s.heap.size ≤ q → A q := fun q h => by rw [← hAe]; exact Or.inr h
  have hS : va_S A s.heap s.heap [] := va_S.rf
  have hl := lv_entry ([.ref q0]) (n := 1) (Nat.le_of_ble_eq_true rfl)
  rw [lg_entry_eq]
  generalize (lg_sl ([.ref q0]) ++ List.replicate (1 - (lg_sl ([.ref q0])).length) Slot.unset).toArray = ls at hl ⊢
  have hl : lv_has ls 1 [(0, .ref q0)] := hl
  refine lv_aload_n hx hb dX2_init_0 rfl (lv_at hl 0 rfl) ?_
  refine W.objInit hx hb hown (hts (.methodLink RX2 3 objectInit) (by decide +kernel)) (hts (.instanceMethod objectInit) (by decide +kernel)) (hts _ (List.mem_cons_of_mem _ (List.mem_append_left _ (List.mem_append_left _ (List.mem_append_left _ (List.mem_append_left _ (List.mem_of_getElem? (i := 2) rfl))))))) rfl (by rw [hml]; exact hl.1) rfl dX2_init_1 (Nat.le_of_ble_eq_true rfl) (Nat.le_of_ble_eq_true rfl) ?_
  refine W.eq (g2 := F0 m 4 ls []) rfl ?_
  refine lv_aload_n hx hb dX2_init_4 rfl (lv_at hl 0 rfl) ?_
  refine va_new (ci := 0) (fs := [.null, .null]) (C := RX0) (T := TX0) (N := 2) hx hb hts (fun _ h9 => List.mem_cons_of_mem _ (List.mem_append_left _ (List.mem_append_left _ (List.mem_append_right _ h9)))) tyX0 tyX0_ok hown (hts (.classLink RX2 9 RX0) (by decide +kernel)) (hts (.instantiable RX0 2) (by decide +kernel)) (hts (.initialized RX0) (by decide +kernel)) hK hP hD hS hA rfl (fun j hj => by rcases (show j = 0 ∨ j = 1 by omega) with rfl | rfl <;> rfl) (by show _ ≤ (4 : Nat); omega) (by show _ ≤ (8216 : Nat); omega) dX2_init_5 (fun qM H hP hD hS => ?_)
  have hP : va_P (dC, dI) vwCl [(q0, zX2), (qM, zX0)] H := hP
  have hD : va_D A [(q0, zX2), (qM, zX0)] := hD
  refine W.widen (k := 1) (n := 2) (by omega) (by omega) ?_
  refine lv_dup hx hb dX2_init_8 rfl ?_
  have hPc := hP.sub (ws' := [(qM, zX0)]) [1] rfl
  have hDc := hD.sub (ws' := [(qM, zX0)]) [1] (by decide) rfl
  have hFc := va_free (wc := [(qM, zX0)]) hD hS hA [1] rfl
  refine va_callv (va_runIN (As := []) (rest := [.ref qM, .ref q0]) ⟨hx, hb, hml, hown, hts⟩ (c_X0_init l dC dI qM H.size) ⟨va_cnB 0 hts gX2_init_X0_init_n11 rfl rfl rfl (hN (.methodLinkNest RX2 11 yX0_init RX2) (by decide +kernel)) (hts (.initialized RX0) (by decide +kernel)) (by decide +kernel) ⟨Nat.le_of_ble_eq_true rfl, Nat.le_of_ble_eq_true rfl⟩, rfl, hts (.instanceMethod yX0_init) (by decide +kernel)⟩ ⟨fun a U g mk q => by obtain ⟨q0, q1, qP, qK, qN, qD⟩ := q; exact ⟨q0, q1, qP, va_K.moved (u := U) (U := U.calling g mk a) (Vm.Alike.refl U.vm) qK, fun w hw => va_Nw.same (u := U) (U := U.calling g mk a) (nest_tab (nestC_ok w hw)) rfl (qN w hw), qD⟩, fun U hU hW => ⟨rfl, by rw [hU], by rw [hU]; exact hPc, va_K.moved hW.alike (hK.sub (tys' := []) [] rfl), fun w hw => nest_moved (nestC_ok w hw) hW (hN w hw), hDc.weaken (fun _ _ _ _ => trivial)⟩⟩ rfl rfl hl.1 rfl (lv_room (Nat.le_of_ble_eq_true rfl)) dX2_init_9 ⟨by show _ ≤ (4 : Nat); omega, by show _ ≤ (8216 : Nat); omega⟩) hS (fun q _ h => hFc q h) hFc (fun u t H1 locs ht hvm hw hB hz1 hk1 hS => ?_)
  obtain ⟨qC, qX, cL⟩ := u
  obtain ⟨hP1, hK1, hD1⟩ := hB
  rw [ht] at hP1
  have hK1 := va_K.moved hvm.symm hK1
  obtain ⟨hP, hD⟩ := va_join (wr := [(q0, zX2)]) (w1 := wX0 qM qC qX cL) hP hD [1] [0] rfl rfl (by decide) (by decide) hk1 hFc hP1 hD1
  generalize H1 = H at hP hS ⊢
  have hK : va_K (dC, dI) vwCl [(cL, .long)] s := hK1
  have hP : va_P (dC, dI) vwCl ((q0, zX2) :: wX0 qM qC qX cL) H := hP
  have hD : va_D A ((q0, zX2) :: wX0 qM qC qX cL) := hD
  refine W.widen (k := 3) (n := 8200) (by omega) (by omega) ?_
  refine va_putF (D := (dC, dI)) (ci := 2) (v := .ref qM) (ty := .object "LowPowerCpu$Memory") (C := RX2) (T := TX2) (N := 4) hx hb hts (fun _ h9 => List.mem_cons_of_mem _ (List.mem_append_left _ (List.mem_append_right _ h9))) tyX2 tyX2_ok nmX2 hown hK hP hD hS 0 rfl rfl 0 (by decide) (hts (.fieldLink RX2 12 "LowPowerCpu" "memory" "LLowPowerCpu$Memory;") (by decide +kernel)) (fun _ h9 => h9) rfl hin rfl (by decide +kernel) rfl rfl (Nat.le_of_ble_eq_true rfl) dX2_init_12 (fun H locs hP hD hS => ?_)
  have hP : va_P (dC, dI) vwCl ((q0, .inr (2, [.ref qM, .null, .int 0, .int 0])) :: wX0 qM qC qX cL) H := hP
  have hD : va_D A ((q0, .inr (2, [.ref qM, .null, .int 0, .int 0])) :: wX0 qM qC qX cL) := hD
  refine lv_aload_n hx hb dX2_init_15 rfl (lv_at hl 0 rfl) ?_
  refine lv_bipush (v := 16) hx hb dX2_init_16 (by decide) ?_
  refine va_newa (atype := .int) (N' := 16) (a0 := (16, .inl (fun _ => 0))) hx hb (hts (.arrayClass .int) (by decide +kernel)) (ty := .int) rfl hK hP hD hS hA (fun cA => vp_cell_i cA 16 (fun _ => 0)) (by decide) (by decide +kernel) (by decide +kernel) (by show _ ≤ (4 : Nat); omega) (by show _ ≤ (8216 : Nat); omega) dX2_init_18 (fun qR cI H hK hP hD hS => ?_)
  have hK : va_K (dC, dI) vwCl [(cL, .long), (cI, .int)] s := hK
  have hP : va_P (dC, dI) vwCl ((q0, .inr (2, [.ref qM, .null, .int 0, .int 0])) :: (wX0 qM qC qX cL ++ [(qR, .inl (cI, 16, .inl (fun _ => 0)))])) H := hP
  have hD : va_D A ((q0, .inr (2, [.ref qM, .null, .int 0, .int 0])) :: (wX0 qM qC qX cL ++ [(qR, .inl (cI, 16, .inl (fun _ => 0)))])) := hD
  refine W.widen (k := 4) (n := 8216) (by omega) (by omega) ?_
  refine va_putF (D := (dC, dI)) (ci := 2) (v := .ref qR) (ty := .array .int) (C := RX2) (T := TX2) (N := 4) hx hb hts (fun _ h9 => List.mem_cons_of_mem _ (List.mem_append_left _ (List.mem_append_right _ h9))) tyX2 tyX2_ok nmX2 hown hK hP hD hS 0 rfl rfl 1 (by decide) (hts (.fieldLink RX2 16 "LowPowerCpu" "registers" "[I") (by decide +kernel)) (fun _ h9 => h9) rfl hin rfl (by decide +kernel) rfl rfl (Nat.le_of_ble_eq_true rfl) dX2_init_20 (fun H locs hP hD hS => ?_)
  have hP : va_P (dC, dI) vwCl (wsC (hC5 q0 qM qR qC qX) (kC2 cI cL) σ0) H := hP.sub [0, 1, 4, 2, 3] rfl
  have hD : va_D A (wsC (hC5 q0 qM qR qC qX) (kC2 cI cL) σ0) := hD.sub [0, 1, 4, 2, 3] (by decide) rfl
  have hK : va_K (dC, dI) vwCl [(kC2 cI cL 0, .int), (kC2 cI cL 1, .long)] s := hK.sub [1, 0] rfl
  obtain ⟨h, h00, hPh, hDh⟩ : ∃ h : Nat → Nat, h 0 = q0 ∧ va_P (dC, dI) vwCl (wsC h (kC2 cI cL) σ0) H ∧ va_D A (wsC h (kC2 cI cL) σ0) := ⟨hC5 q0 qM qR qC qX, rfl, hP, hD⟩
  obtain ⟨k, hKk, hPk, hDk⟩ : ∃ k : Nat → ClassId, va_K (dC, dI) vwCl [(k 0, .int), (k 1, .long)] s ∧ va_P (dC, dI) vwCl (wsC h k σ0) H ∧ va_D A (wsC h k σ0) := ⟨kC2 cI cL, hK, hPh, hDh⟩
  subst h00
  have hAX : ∀ q, AX 5 h H.size q → A q := by
    intro q hq
    rcases hq with ⟨i, hi, rfl⟩ | hq
    · match i, hi with
      | 0, _ => exact hDk.2 0 _ rfl
      | 1, _ => exact hDk.2 1 _ rfl
      | 2, _ => exact hDk.2 2 _ rfl
      | 3, _ => exact hDk.2 3 _ rfl
      | 4, _ => exact hDk.2 4 _ rfl
    · exact hA q (Nat.le_trans hS.1 hq)
  refine lv_aload_n hx hb dX2_init_23 rfl (lv_at hl 0 rfl) ?_
  refine va_callv (va_runV (As := []) (rest := []) ⟨hx, hb, hml, hown, hts⟩ (c_X2_init_ l dC dI h k g H.size σ0) (cwV 0 hts gX2_init_X2_init_ rfl rfl rfl (by decide +kernel) ⟨Nat.le_of_ble_eq_true rfl, Nat.le_of_ble_eq_true rfl⟩) ⟨blindC, va_recv hKk hPk (ci := 2) (q0 := 0) rfl rfl, fun U hU hW => ⟨rfl, by rw [hU], by rw [hU]; exact hPk, ⟨va_K.moved hW.alike hKk, fun w hw => nest_moved (nestC_ok w hw) hW (hN w hw), fun i hi => by rw [hU]; exact (((hZ i hi).kept hS.2.1).narrow hAX).moved hW.alike, fun i hi => by rw [hU]; exact (((hT i hi).kept hS.2.1).narrow hAX).moved hW.alike⟩, ⟨hDk.1, fun i q hq => ownC i q hq⟩⟩⟩ rfl rfl hl.1 rfl (lv_room (Nat.le_of_ble_eq_true rfl)) dX2_init_24 ⟨by show _ ≤ (4 : Nat); omega, by show _ ≤ (8216 : Nat); omega⟩) hS (fun q _ z => hAX q z) hAX (fun u t H1 locs ht hvm hw hB hz1 hk1 hS => ?_)
  subst hw
  obtain ⟨hP1, hD1⟩ := hB
  rw [ht] at hP1
  exact W.vret hx hb hr (fun t ht hW => ⟨⟨(h, k), rfl, rfl, by rw [ht]; exact hP1, va_K.moved hW.alike hKk, hD1.weaken (fun _ q _ z => hAX q.1 z)⟩, hS.F ht⟩) hS.2.2 dX2_init_27
