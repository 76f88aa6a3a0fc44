set_option maxHeartbeats 4000000 in
set_option maxRecDepth 100000 in
/-- run(n): steps as long as they tell 0, at most n -/
theorem c_X2_run (l : Launch) (dC : Nat → ClassId) (dI : Nat → Nat → Nat) (h : Nat → Nat) (k : Nat → ClassId) (g : Nat → Nat) (sz : Nat) (σ : StC) (a1 : Int32) : Met l yX2_run wsX2_run ({ frames := 7, cells := 0, slots := 0, locals := 163 }) (PcC (dC, dI) h k g [.ref (h 0), .int a1] sz σ) (va_Qi (fun r u => (r, u) = (f_X2_run σ a1)) (BC (dC, dI) h k (AX 5 h sz)) (AX 5 h sz)) 0 0 (AX 5 h sz) := by
  refine Met.ofW (cc := cX2_run) (maxL := 4) (ret := (some .int)) (by decide) rfl ?_
  intro p e s m args below meth c s₁ B hml hv
  obtain ⟨rfl, rfl, hP, hct, hD⟩ := hv
  have hx := B.exec
  have hb := B.bytes
  have hr := B.returns
  have hts := atoms_spec (ws := wsX2_run) B.pre
  have hown : s.vm.findClass RX2 = some m.cls := findClass_of_methodNamed B.named
  have hlocks := B.notSynchronized
  have hK := hct.1
  have hS : va_S (AX 5 h s.heap.size) s.heap s.heap [] := va_S.rf
  have hl := lv_entry ([.ref (h 0), .int a1]) (n := 4) (Nat.le_of_ble_eq_true rfl)
  rw [lg_entry_eq]
  generalize (lg_sl ([.ref (h 0), .int a1]) ++ List.replicate (4 - (lg_sl ([.ref (h 0), .int a1])).length) Slot.unset).toArray = ls at hl ⊢
  have hl : lv_has ls 4 [(0, .ref (h 0)), (1, .int a1)] := hl
  refine lv_iload_n hx hb dX2_run_0 rfl (lv_at hl 1 rfl) ?_
  refine lv_if_lt (tgt := 11) hx hb dX2_run_1 (by decide) (fun c1 => ?_) (fun c1 => ?_)
  · refine lv_iconst (v := (-1)) hx hb dX2_run_11 (by decide) ?_
    exact retC_i hx hb hr hlocks (if_pos c1) hP hD hS dX2_run_12
  refine lv_iload_n hx hb dX2_run_4 rfl (lv_at hl 1 rfl) ?_
  refine lv_sipush (v := 2000) hx hb dX2_run_5 (by decide) ?_
  refine lv_icmp_le (tgt := 13) hx hb dX2_run_8 (by decide) (fun c2 => ?_) (fun c2 => ?_)
  · refine lv_iconst (v := 0) hx hb dX2_run_13 (by decide) ?_
    refine lv_istore_n (lv' := [(2, .int 0), (0, .ref (h 0)), (1, .int a1)]) hx hb dX2_run_14 rfl hl (by decide) rfl (fun ls hl => ?_)
    refine lv_iconst (v := 0) hx hb dX2_run_15 (by decide) ?_
    refine lv_istore_n (lv' := [(3, .int 0), (2, .int 0), (0, .ref (h 0)), (1, .int a1)]) hx hb dX2_run_16 rfl hl (by decide) rfl (fun ls hl => ?_)
    obtain ⟨N, hN1, hN2⟩ := nI_of2 (n := 2000) (by decide) c1 c2
    have hF : f_X2_run σ a1 = f_X2_loop N σ 0 := by
      unfold f_X2_run
      rw [if_neg c1, if_pos c2, hN2, nI_clamp (by omega)]
    generalize f_X2_run σ a1 = FF at hF ⊢
    refine wl (α := StC × Int32 × Int32) (D := (dC, dI)) (cl := vwCl) (A := AX 5 h s.heap.size) (H0 := s.heap) (fun v => wsC h k v.1) (fun v => [(3, .int v.2.2), (2, .int v.2.1), (0, .ref (h 0)), (1, .int a1)]) 4 (fun v ls => F0 m 17 ls []) (fun q v => q ≤ N ∧ v.2.2 = nI (N - q) ∧ FF = f_X2_loop q v.1 v.2.1) ?_ ?_ ?_
    · intro v ls H locs hI hl hP hD hS
      obtain ⟨u, told, x3⟩ := v
      obtain ⟨_, h3, hF⟩ := hI
      dsimp only at hl hP hD h3 hF ⊢
      refine lv_iload_n hx hb dX2_run_17 rfl (lv_at hl 0 rfl) ?_
      refine lv_iload_n hx hb dX2_run_18 rfl (lv_at hl 3 rfl) ?_
      refine lv_icmp_ge (tgt := 37) hx hb dX2_run_19 (by decide) (fun _ => ?_) (fun c3 => absurd (by rw [h3, hN2]; exact nI_le (by omega) (by omega)) c3)
      refine lv_iload_n hx hb dX2_run_37 rfl (lv_at hl 1 rfl) ?_
      exact retC_i hx hb hr hlocks hF hP hD hS dX2_run_38
    · intro q ih v ls H locs hI hl hP hD hS
      obtain ⟨u, told, x3⟩ := v
      obtain ⟨hq, h3, hF⟩ := hI
      dsimp only at hl hP hD h3 hF ⊢
      refine lv_iload_n hx hb dX2_run_17 rfl (lv_at hl 0 rfl) ?_
      refine lv_iload_n hx hb dX2_run_18 rfl (lv_at hl 3 rfl) ?_
      refine lv_icmp_ge (tgt := 37) hx hb dX2_run_19 (by decide) (fun c3 => absurd c3 (by rw [h3, hN2]; exact nI_ge (by omega) (by omega))) (fun _ => ?_)
      refine lv_iload_n hx hb dX2_run_22 rfl (lv_at hl 1 rfl) ?_
      refine lv_if_ne (tgt := 37) hx hb dX2_run_23 (by decide) (fun c4 => ?_) (fun c4 => ?_)
      · refine lv_iload_n hx hb dX2_run_37 rfl (lv_at hl 1 rfl) ?_
        exact retC_i hx hb hr hlocks (hF.trans (if_neg c4)) hP hD hS dX2_run_38
      · refine lv_aload_n hx hb dX2_run_26 rfl (lv_at hl 2 rfl) ?_
        refine callC_i (va_runV (As := []) (rest := []) ⟨hx, hb, hml, hown, hts⟩ (c_X2_step l dC dI h k g H.size u) (cwV 0 hts gX2_run_X2_step rfl rfl rfl (by decide +kernel) ⟨Nat.le_of_ble_eq_true rfl, Nat.le_of_ble_eq_true rfl⟩) (preC_V (ci := 2) (q0 := 0) hct hP hD hS rfl rfl) rfl rfl hl.1 rfl (lv_room (Nat.le_of_ble_eq_true rfl)) dX2_run_27 ⟨Nat.le_of_ble_eq_true rfl, Nat.le_of_ble_eq_true rfl⟩) hS (fun x u2 H locs ex eu hP hD hS => ?_)
        refine lv_istore_n (lv' := [(2, .int x), (3, .int x3), (0, .ref (h 0)), (1, .int a1)]) hx hb dX2_run_30 rfl hl (by decide) rfl (fun ls hl => ?_)
        obtain ⟨x4, ex4⟩ : ∃ y : Int32, y = x3 + 1 := ⟨_, rfl⟩
        refine lv_iinc (v := x4) (lv' := [(3, .int x4), (2, .int x), (0, .ref (h 0)), (1, .int a1)]) hx hb dX2_run_31 hl (k := 1) rfl (by rw [ex4]; rfl) (by decide) rfl (fun ls hl => ?_)
        refine lv_goto (tgt := 17) hx hb dX2_run_34 (by decide) ?_
        exact ih (u2, x, x4) ls H locs ⟨by omega, by dsimp only; rw [ex4, h3, nI_1, show N - (q + 1) + 1 = N - q by omega], by dsimp only; rw [hF, ex, eu]; exact if_pos c4⟩ hl hP hD hS
    · intro J
      exact J N (σ, 0, 0) ls s.heap _ ⟨Nat.le_refl _, by rw [Nat.sub_self]; exact nI_0.symm, hF⟩ hl hP hD hS
  · refine lv_iconst (v := (-1)) hx hb dX2_run_11 (by decide) ?_
    exact retC_i hx hb hr hlocks ((if_neg c1).trans (if_neg c2)) hP hD hS dX2_run_12
