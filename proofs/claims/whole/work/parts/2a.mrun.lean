section WL
variable {p : Program} {l : Launch} {e : Env} {R : Room} {s : State} {m : MethodId} {args : Array Value} {below : List Frame} {meth : Method} {c : Code} {H : Heap} {locs : List Loc} {cells slots : Nat} {Q : State → Prop}
/-- a loop whose rounds left are counted down -/
theorem wl {α : Type} {D : va_G} {cl : List vw_C} {A : Nat → Prop} {H0 : Heap} {g : JFrame} (ws : α → va_W) (L : α → List (Nat × Value)) (nL : Nat) (F : α → Array Slot → JFrame) (I : Nat → α → Prop)
    (base : ∀ (v : α) (ls : Array Slot) (H : Heap) (locs : List Loc), I 0 v → lv_has ls nL (L v) → va_P D cl (ws v) H → va_D A (ws v) → va_S A H0 H locs → W p l e R s m args below meth c H locs cells slots Q (F v ls))
    (step : ∀ q, (∀ (v : α) (ls : Array Slot) (H : Heap) (locs : List Loc), I q v → lv_has ls nL (L v) → va_P D cl (ws v) H → va_D A (ws v) → va_S A H0 H locs → W p l e R s m args below meth c H locs cells slots Q (F v ls)) → ∀ (v : α) (ls : Array Slot) (H : Heap) (locs : List Loc), I (q + 1) v → lv_has ls nL (L v) → va_P D cl (ws v) H → va_D A (ws v) → va_S A H0 H locs → W p l e R s m args below meth c H locs cells slots Q (F v ls))
    (use : (∀ q (v : α) (ls : Array Slot) (H : Heap) (locs : List Loc), I q v → lv_has ls nL (L v) → va_P D cl (ws v) H → va_D A (ws v) → va_S A H0 H locs → W p l e R s m args below meth c H locs cells slots Q (F v ls)) → W p l e R s m args below meth c H locs cells slots Q g) : W p l e R s m args below meth c H locs cells slots Q g := by
  refine use fun q => ?_
  induction q with
  | zero => exact base
  | succ q ih => exact step q ih
end WL
set_option maxHeartbeats 4000000 in
set_option maxRecDepth 100000 in
/-- run(n): steps as long as they don't tell 2, at most n -/
theorem c_X3_run (l : Launch) (dC : Nat → ClassId) (dI : Nat → Nat → Nat) (h : Nat → Nat) (k : Nat → ClassId) (sz : Nat) (σ : StR) (a1 : Int32) (hI0 : okR σ) : Met l yX3_run wsX3_run ({ frames := 9, cells := 0, slots := 0, locals := 197 }) (PcR (dC, dI) h k [.ref (h 0), .int a1] sz σ) (va_Qi (fun r u => (r, u) = (f_X3_run σ a1)) (BR (dC, dI) h k (AX 4 h sz)) (AX 4 h sz)) 0 0 (AX 4 h sz) := by
  refine Met.ofW (cc := cX3_run) (maxL := 4) (ret := (some .int)) (by decide) rfl ?_
  intro p e s m args below meth c s₁ B hml hv
  obtain ⟨rfl, rfl, hP, hct, hD⟩ := hv
  have hx := B.exec
  have hb := B.bytes
  have hr := B.returns
  have hts := atoms_spec (ws := wsX3_run) B.pre
  have hown : s.vm.findClass RX3 = some m.cls := findClass_of_methodNamed B.named
  have hlocks := B.notSynchronized
  have hK := hct.1
  have hS : va_S (AX 4 h s.heap.size) s.heap s.heap [] := va_S.rf
  have hl := lv_entry ([.ref (h 0), .int a1]) (n := 4) (Nat.le_of_ble_eq_true rfl)
  rw [lg_entry_eq]
  generalize (lg_sl ([.ref (h 0), .int a1]) ++ List.replicate (4 - (lg_sl ([.ref (h 0), .int a1])).length) Slot.unset).toArray = ls at hl ⊢
  have hl : lv_has ls 4 [(0, .ref (h 0)), (1, .int a1)] := hl
  refine lv_iload_n hx hb dX3_run_0 rfl (lv_at hl 1 rfl) ?_
  refine lv_if_lt (tgt := 11) hx hb dX3_run_1 (by decide) (fun c1 => ?_) (fun c1 => ?_)
  · refine lv_iconst (v := (-1)) hx hb dX3_run_11 (by decide) ?_
    exact retR_i hx hb hr hlocks (if_pos c1) hP hD hS dX3_run_12
  refine lv_iload_n hx hb dX3_run_4 rfl (lv_at hl 1 rfl) ?_
  refine lv_sipush (v := 2000) hx hb dX3_run_5 (by decide) ?_
  refine lv_icmp_le (tgt := 13) hx hb dX3_run_8 (by decide) (fun c2 => ?_) (fun c2 => ?_)
  · refine lv_iconst (v := 0) hx hb dX3_run_13 (by decide) ?_
    refine lv_istore_n (lv' := [(2, .int 0), (0, .ref (h 0)), (1, .int a1)]) hx hb dX3_run_14 rfl hl (by decide) rfl (fun ls hl => ?_)
    refine lv_iconst (v := 0) hx hb dX3_run_15 (by decide) ?_
    refine lv_istore_n (lv' := [(3, .int 0), (2, .int 0), (0, .ref (h 0)), (1, .int a1)]) hx hb dX3_run_16 rfl hl (by decide) rfl (fun ls hl => ?_)
    obtain ⟨N, hN1, hN2⟩ := nI_of2 (n := 2000) (by decide) c1 c2
    have hF : f_X3_run σ a1 = f_X3_loop N σ 0 := by
      unfold f_X3_run
      rw [if_neg c1, if_pos c2, hN2, nI_clamp (by omega)]
    generalize f_X3_run σ a1 = FF at hF ⊢
    refine wl (α := StR × Int32 × Int32) (D := (dC, dI)) (cl := vwCl) (A := AX 4 h s.heap.size) (H0 := s.heap) (fun v => wsR h k v.1) (fun v => [(3, .int v.2.2), (2, .int v.2.1), (0, .ref (h 0)), (1, .int a1)]) 4 (fun v ls => F0 m 17 ls []) (fun q v => q ≤ N ∧ v.2.2 = nI (N - q) ∧ FF = f_X3_loop q v.1 v.2.1 ∧ okR v.1) ?_ ?_ ?_
    · intro v ls H locs hI hl hP hD hS
      obtain ⟨u, told, x3⟩ := v
      obtain ⟨_, h3, hF, hI⟩ := hI
      dsimp only at hl hP hD h3 hF hI ⊢
      refine lv_iload_n hx hb dX3_run_17 rfl (lv_at hl 0 rfl) ?_
      refine lv_iload_n hx hb dX3_run_18 rfl (lv_at hl 3 rfl) ?_
      refine lv_icmp_ge (tgt := 38) hx hb dX3_run_19 (by decide) (fun _ => ?_) (fun c3 => absurd (by rw [h3, hN2]; exact nI_le (by omega) (by omega)) c3)
      refine lv_iload_n hx hb dX3_run_38 rfl (lv_at hl 1 rfl) ?_
      exact retR_i hx hb hr hlocks hF hP hD hS dX3_run_39
    · intro q ih v ls H locs hI hl hP hD hS
      obtain ⟨u, told, x3⟩ := v
      obtain ⟨hq, h3, hF, hI⟩ := hI
      dsimp only at hl hP hD h3 hF hI ⊢
      refine lv_iload_n hx hb dX3_run_17 rfl (lv_at hl 0 rfl) ?_
      refine lv_iload_n hx hb dX3_run_18 rfl (lv_at hl 3 rfl) ?_
      refine lv_icmp_ge (tgt := 38) hx hb dX3_run_19 (by decide) (fun c3 => absurd c3 (by rw [h3, hN2]; exact nI_ge (by omega) (by omega))) (fun _ => ?_)
      refine lv_iload_n hx hb dX3_run_22 rfl (lv_at hl 1 rfl) ?_
      refine lv_iconst (v := 2) hx hb dX3_run_23 (by decide) ?_
      refine lv_icmp_eq (tgt := 38) hx hb dX3_run_24 (by decide) (fun c4 => ?_) (fun c4 => ?_)
      · refine lv_iload_n hx hb dX3_run_38 rfl (lv_at hl 1 rfl) ?_
        exact retR_i hx hb hr hlocks (hF.trans (if_pos c4)) hP hD hS dX3_run_39
      · refine lv_aload_n hx hb dX3_run_27 rfl (lv_at hl 2 rfl) ?_
        refine callR_i (va_runV (As := []) (rest := []) ⟨hx, hb, hml, hown, hts⟩ (c_X3_step l dC dI h k H.size u hI) (cwV 0 hts gX3_run_X3_step rfl rfl rfl (by decide +kernel) ⟨Nat.le_of_ble_eq_true rfl, Nat.le_of_ble_eq_true rfl⟩) (preR_V (ci := 3) (q0 := 0) hct hP hD hS rfl rfl) rfl rfl hl.1 rfl (lv_room (Nat.le_of_ble_eq_true rfl)) dX3_run_28 ⟨Nat.le_of_ble_eq_true rfl, Nat.le_of_ble_eq_true rfl⟩) hS (fun x u2 H locs ex eu hP hD hS => ?_)
        refine lv_istore_n (lv' := [(2, .int x), (3, .int x3), (0, .ref (h 0)), (1, .int a1)]) hx hb dX3_run_31 rfl hl (by decide) rfl (fun ls hl => ?_)
        obtain ⟨x4, ex4⟩ : ∃ y : Int32, y = x3 + 1 := ⟨_, rfl⟩
        refine lv_iinc (v := x4) (lv' := [(3, .int x4), (2, .int x), (0, .ref (h 0)), (1, .int a1)]) hx hb dX3_run_32 hl (k := 1) rfl (by rw [ex4]; rfl) (by decide) rfl (fun ls hl => ?_)
        refine lv_goto (tgt := 17) hx hb dX3_run_35 (by decide) ?_
        exact ih (u2, x, x4) ls H locs ⟨by omega, by dsimp only; rw [ex4, h3, nI_1, show N - (q + 1) + 1 = N - q by omega], by dsimp only; rw [hF, ex, eu]; exact if_neg c4, by dsimp only; rw [eu]; exact ok_X3_step hI⟩ hl hP hD hS
    · intro J
      exact J N (σ, 0, 0) ls s.heap _ ⟨Nat.le_refl _, by rw [Nat.sub_self]; exact nI_0.symm, hF, hI0⟩ hl hP hD hS
  · refine lv_iconst (v := (-1)) hx hb dX3_run_11 (by decide) ?_
    exact retR_i hx hb hr hlocks ((if_neg c1).trans (if_neg c2)) hP hD hS dX3_run_12
