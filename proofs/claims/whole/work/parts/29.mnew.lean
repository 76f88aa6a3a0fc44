def kC2 (a b : ClassId) : Nat → ClassId := fun i => match i with | 0 => a | _ => b
abbrev zX3 : va_E := .inr (3, [.null, .null, .null, .int 0, .int 0, .int 0, .int 0, .int 0, .int 0])
def τ0 : StR := (fun _ => 0, fun _ => 0, fun _ => 0, 0, 0, 0, 0, 0, 0)
def hR4 (a b c d : Nat) : Nat → Nat := fun i => match i with | 0 => a | 1 => b | 2 => c | _ => d
set_option maxHeartbeats 4000000 in
set_option maxRecDepth 100000 in
/-- LowPowerCpuModel(): all is 0, then init() -/
theorem c_X3_init (l : Launch) (dC : Nat → ClassId) (dI : Nat → Nat → Nat) (q0 : Nat) (sz : Nat) : Met l yX3_init wsX3_init ({ frames := 4, cells := 3, slots := 32789, locals := 130 }) (va_Pc [.ref q0] (fun U => U.heap.size = sz ∧ va_P (dC, dI) vwCl [(q0, zX3)] U.heap ∧ va_K (dC, dI) vwCl [] U ∧ va_D (fun _ => True) [(q0, zX3)])) (va_Qv (fun u : (Nat → Nat) × (Nat → ClassId) => u.1 0 = q0) (fun u t => va_P (dC, dI) vwCl (wsR u.1 u.2 (f_X3_init_ τ0)) t.heap ∧ va_K (dC, dI) vwCl [(u.2 0, .int), (u.2 1, .short)] t ∧ va_D (va_A [(q0, zX3)] sz) (wsR u.1 u.2 (f_X3_init_ τ0))) (va_A [(q0, zX3)] sz)) 3 32789 (va_A [(q0, zX3)] sz) := by
  refine Met.ofW (cc := cX3_init) (maxL := 1) (ret := none) (by decide) rfl ?_
  intro p e s m args below meth c s₁ B hml hv
  obtain ⟨rfl, rfl, hP, hK, hD0⟩ := hv
  have hx := B.exec
  have hb := B.bytes
  have hr := B.returns
  have hts := atoms_spec (ws := wsX3_init) B.pre
  have hown : s.vm.findClass RX3 = some m.cls := findClass_of_methodNamed B.named
  have hlocks := B.notSynchronized
  have hin : meth.name = "<init>" := (name_of_methodNamed B.named B.method).1
  have hD := hD0.self (sz := s.heap.size)
  generalize hAe : va_A [(q0, zX3)] s.heap.size = A at hD ⊢
  have hA : ∀ q : Nat, s.heap.size ≤ q → A q := fun q h => by rw [← hAe]; exact Or.inr h
  have hS : va_S A s.heap s.heap [] := va_S.rf
  have hl := lv_entry ([.ref q0]) (n := 1) (Nat.le_of_ble_eq_true rfl)
  rw [lg_entry_eq]
  generalize (lg_sl ([.ref q0]) ++ List.replicate (1 - (lg_sl ([.ref q0])).length) Slot.unset).toArray = ls at hl ⊢
  have hl : lv_has ls 1 [(0, .ref q0)] := hl
  refine lv_aload_n hx hb dX3_init_0 rfl (lv_at hl 0 rfl) ?_
  refine W.objInit hx hb hown (hts (.methodLink RX3 1 objectInit) (by decide +kernel)) (hts (.instanceMethod objectInit) (by decide +kernel)) (hts _ (List.mem_cons_of_mem _ (List.mem_append_left _ (List.mem_append_left _ (List.mem_of_getElem? (i := 2) rfl))))) rfl (by rw [hml]; exact hl.1) rfl dX3_init_1 (Nat.le_of_ble_eq_true rfl) (Nat.le_of_ble_eq_true rfl) ?_
  refine W.eq (g2 := F0 m 4 ls []) rfl ?_
  refine lv_aload_n hx hb dX3_init_4 rfl (lv_at hl 0 rfl) ?_
  refine lv_ldc (v := 32768) hx hb hown (hts (.constant RX3 7 32768) (by decide +kernel)) dX3_init_5 ?_
  refine va_newa (atype := .short) (N' := 32768) (a0 := (32768, .inl (fun _ => 0))) hx hb (hts (.arrayClass .short) (by decide +kernel)) (ty := .short) rfl hK hP hD hS hA (fun cA => vp_cell_i cA 32768 (fun _ => 0)) (by decide) (by decide +kernel) (by decide +kernel) (by show _ ≤ (3 : Nat); omega) (by show _ ≤ (32789 : Nat); omega) dX3_init_7 (fun qW cS H hK hP hD hS => ?_)
  have hK : va_K (dC, dI) vwCl [(cS, .short)] s := hK
  have hP : va_P (dC, dI) vwCl [(q0, zX3), (qW, .inl (cS, 32768, .inl (fun _ => 0)))] H := hP
  have hD : va_D A [(q0, zX3), (qW, .inl (cS, 32768, .inl (fun _ => 0)))] := hD
  refine va_putF (D := (dC, dI)) (ci := 3) (v := .ref qW) (ty := .array .short) (C := RX3) (T := TX3) (N := 9) hx hb hts (fun _ h9 => List.mem_cons_of_mem _ (List.mem_append_right _ h9)) tyX3 tyX3_ok nmX3 hown hK hP hD hS 0 rfl rfl 0 (by decide) (hts (.fieldLink RX3 8 "LowPowerCpuModel" "words" "[S") (by decide +kernel)) (fun _ h9 => h9) rfl hin rfl (by decide +kernel) rfl rfl (Nat.le_of_ble_eq_true rfl) dX3_init_9 (fun H locs hP hD hS => ?_)
  have hP : va_P (dC, dI) vwCl [(q0, .inr (3, [.ref qW, .null, .null, .int 0, .int 0, .int 0, .int 0, .int 0, .int 0])), (qW, .inl (cS, 32768, .inl (fun _ => 0)))] H := hP
  have hD : va_D A [(q0, .inr (3, [.ref qW, .null, .null, .int 0, .int 0, .int 0, .int 0, .int 0, .int 0])), (qW, .inl (cS, 32768, .inl (fun _ => 0)))] := hD
  refine lv_aload_n hx hb dX3_init_12 rfl (lv_at hl 0 rfl) ?_
  refine lv_bipush (v := 16) hx hb dX3_init_13 (by decide) ?_
  refine va_newa (atype := .int) (N' := 16) (a0 := (16, .inl (fun _ => 0))) hx hb (hts (.arrayClass .int) (by decide +kernel)) (ty := .int) rfl hK hP hD hS hA (fun cA => vp_cell_i cA 16 (fun _ => 0)) (by decide) (by decide +kernel) (by decide +kernel) (by show _ ≤ (3 : Nat); omega) (by show _ ≤ (32789 : Nat); omega) dX3_init_15 (fun qR cI H hK hP hD hS => ?_)
  have hK : va_K (dC, dI) vwCl [(cS, .short), (cI, .int)] s := hK
  have hP : va_P (dC, dI) vwCl [(q0, .inr (3, [.ref qW, .null, .null, .int 0, .int 0, .int 0, .int 0, .int 0, .int 0])), (qW, .inl (cS, 32768, .inl (fun _ => 0))), (qR, .inl (cI, 16, .inl (fun _ => 0)))] H := hP
  have hD : va_D A [(q0, .inr (3, [.ref qW, .null, .null, .int 0, .int 0, .int 0, .int 0, .int 0, .int 0])), (qW, .inl (cS, 32768, .inl (fun _ => 0))), (qR, .inl (cI, 16, .inl (fun _ => 0)))] := hD
  refine va_putF (D := (dC, dI)) (ci := 3) (v := .ref qR) (ty := .array .int) (C := RX3) (T := TX3) (N := 9) hx hb hts (fun _ h9 => List.mem_cons_of_mem _ (List.mem_append_right _ h9)) tyX3 tyX3_ok nmX3 hown hK hP hD hS 0 rfl rfl 1 (by decide) (hts (.fieldLink RX3 14 "LowPowerCpuModel" "\x72" "[I") (by decide +kernel)) (fun _ h9 => h9) rfl hin rfl (by decide +kernel) rfl rfl (Nat.le_of_ble_eq_true rfl) dX3_init_17 (fun H locs hP hD hS => ?_)
  have hP : va_P (dC, dI) vwCl [(q0, .inr (3, [.ref qW, .ref qR, .null, .int 0, .int 0, .int 0, .int 0, .int 0, .int 0])), (qW, .inl (cS, 32768, .inl (fun _ => 0))), (qR, .inl (cI, 16, .inl (fun _ => 0)))] H := hP
  have hD : va_D A [(q0, .inr (3, [.ref qW, .ref qR, .null, .int 0, .int 0, .int 0, .int 0, .int 0, .int 0])), (qW, .inl (cS, 32768, .inl (fun _ => 0))), (qR, .inl (cI, 16, .inl (fun _ => 0)))] := hD
  refine lv_aload_n hx hb dX3_init_20 rfl (lv_at hl 0 rfl) ?_
  refine lv_iconst (v := 5) hx hb dX3_init_21 (by decide) ?_
  refine va_newa (atype := .int) (N' := 5) (a0 := (5, .inl (fun _ => 0))) hx hb (hts (.arrayClass .int) (by decide +kernel)) (ty := .int) rfl hK hP hD hS hA (fun cA => vp_cell_i cA 5 (fun _ => 0)) (by decide) (by decide +kernel) (by decide +kernel) (by show _ ≤ (3 : Nat); omega) (by show _ ≤ (32789 : Nat); omega) dX3_init_22 (fun qB cJ H hK hP hD hS => ?_)
  have hJ : cJ = cI := by
    have e1 := (hK.2 1 _ rfl).2
    have e2 := (hK.2 2 _ rfl).2
    exact Option.some.inj (e2.symm.trans e1)
  subst hJ
  have hK : va_K (dC, dI) vwCl [(cS, .short), (cJ, .int), (cJ, .int)] s := hK
  refine va_putF (D := (dC, dI)) (ci := 3) (v := .ref qB) (ty := .array .int) (C := RX3) (T := TX3) (N := 9) hx hb hts (fun _ h9 => List.mem_cons_of_mem _ (List.mem_append_right _ h9)) tyX3 tyX3_ok nmX3 hown hK hP hD hS 0 rfl rfl 2 (by decide) (hts (.fieldLink RX3 18 "LowPowerCpuModel" "by" "[I") (by decide +kernel)) (fun _ h9 => h9) rfl hin rfl (by decide +kernel) rfl rfl (Nat.le_of_ble_eq_true rfl) dX3_init_24 (fun H locs hP hD hS => ?_)
  have hP : va_P (dC, dI) vwCl (wsR (hR4 q0 qW qR qB) (kC2 cJ cS) τ0) H := hP
  have hD : va_D A (wsR (hR4 q0 qW qR qB) (kC2 cJ cS) τ0) := hD
  have hK : va_K (dC, dI) vwCl [(kC2 cJ cS 0, .int), (kC2 cJ cS 1, .short)] s := hK.sub [1, 0] rfl
  refine W.widen (k := 3) (n := 32789) (by omega) (by omega) ?_
  obtain ⟨h, h00, hPh, hDh⟩ : ∃ h : Nat → Nat, h 0 = q0 ∧ va_P (dC, dI) vwCl (wsR h (kC2 cJ cS) τ0) H ∧ va_D A (wsR h (kC2 cJ cS) τ0) := ⟨hR4 q0 qW qR qB, rfl, hP, hD⟩
  obtain ⟨k, hKk, hPk, hDk⟩ : ∃ k : Nat → ClassId, va_K (dC, dI) vwCl [(k 0, .int), (k 1, .short)] s ∧ va_P (dC, dI) vwCl (wsR h k τ0) H ∧ va_D A (wsR h k τ0) := ⟨kC2 cJ cS, hK, hPh, hDh⟩
  subst h00
  have hAX : ∀ q, AX 4 h H.size q → A q := by
    intro q hq
    rcases hq with ⟨i, hi, rfl⟩ | hq
    · match i, hi with
      | 0, _ => exact hDk.2 0 _ rfl
      | 1, _ => exact hDk.2 1 _ rfl
      | 2, _ => exact hDk.2 2 _ rfl
      | 3, _ => exact hDk.2 3 _ rfl
    · exact hA q (Nat.le_trans hS.1 hq)
  refine lv_aload_n hx hb dX3_init_27 rfl (lv_at hl 0 rfl) ?_
  refine va_callv (va_runV (As := []) (rest := []) ⟨hx, hb, hml, hown, hts⟩ (c_X3_init_ l dC dI h k H.size τ0) (cwV 0 hts gX3_init_X3_init_ rfl rfl rfl (by decide +kernel) ⟨Nat.le_of_ble_eq_true rfl, Nat.le_of_ble_eq_true rfl⟩) ⟨blindR, va_recv hKk hPk (ci := 3) (q0 := 0) rfl rfl, fun U hU hW => ⟨rfl, by rw [hU], by rw [hU]; exact hPk, ⟨va_K.moved hW.alike hKk, trivial⟩, ⟨hDk.1, fun i q hq => ownR i q hq⟩⟩⟩ rfl rfl hl.1 rfl (lv_room (Nat.le_of_ble_eq_true rfl)) dX3_init_28 ⟨by show _ ≤ (3 : Nat); omega, by show _ ≤ (32789 : Nat); omega⟩) hS (fun q _ z => hAX q z) hAX (fun u t H1 locs ht hvm hw hB hz1 hk1 hS => ?_)
  subst hw
  obtain ⟨hP1, hD1⟩ := hB
  rw [ht] at hP1
  exact W.vret hx hb hr (fun t ht hW => ⟨⟨(h, k), rfl, rfl, by rw [ht]; exact hP1, va_K.moved hW.alike hKk, hD1.weaken (fun _ q _ z => hAX q.1 z)⟩, hS.F ht⟩) hS.2.2 dX3_init_31
