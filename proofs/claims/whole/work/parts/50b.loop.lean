set_option maxHeartbeats 4000000 in
set_option maxRecDepth 100000 in
/-- the law's loop: at its head, with i ints read, class and reference are tied -/
theorem law_loop {p : Program} {l : Launch} {e : Env} {s : State} {m : MethodId} {below : List Frame} {meth : Method} {c : Code} {dC : Nat → ClassId} {dI : Nat → Nat → Nat} {b L : Nat} {xs : Nat → Int32} (hL : L ≤ 1536) (C0 : lw_At p s m meth c b L xs) {h h' : Nat → Nat} {k k' : Nat → ClassId} {g : Nat → Nat} (hct : ctC (dC, dI) k g (AL s.heap.size) s) (hcr : ctR (dC, dI) k' (AL s.heap.size) s) :
    ∀ (n i : Nat) (σ : StC) (τ : StR), i ≤ L + 2 → L + 3 ≤ i + n → Rel σ τ → ∀ (H : Heap) (locs : List Loc) (ls : Array Slot), va_P (dC, dI) vwCl (wsC h k σ ++ wsR h' k' τ) H → va_D (AL s.heap.size) (wsC h k σ ++ wsR h' k' τ) → va_S (AL s.heap.size) s.heap H locs → lv_has ls 4 [(0, .ref b), (1, .ref (h 0)), (2, .ref (h' 0)), (3, .int (nI i))] → W p l e room_1 s m #[Value.ref b] below meth c H locs 600000 7302250 (lw_Z below #[Value.ref b] s) (F0 m 18 ls []) := by
  obtain ⟨hx, hb, hr, hml, hown, hts, hX, hbl, hlocks, hgv⟩ := C0
  have hts := fun w h => hts w (wsL_law_in w h)
  have hown : s.vm.findClass RL = some m.cls := hown
  have hb : c.code = cL_law := hb
  have hbA : ¬ AL s.heap.size b := Nat.not_le.mpr hbl
  intro n
  induction n with
  | zero =>
    intro i σ τ h1 h2
    exact absurd h2 (by omega)
  | succ n ih =>
    intro i σ τ hi hin hR H locs ls hP hD hS hl
    refine lv_iload_n hx hb dL_law_18 rfl (lv_at hl 3 rfl) ?_
    refine lv_aload_n hx hb dL_law_19 rfl (lv_at hl 0 rfl) ?_
    refine va_slen hx hb hX hbl hbA hS dL_law_20 ?_
    refine lv_iconst (v := 3) hx hb dL_law_21 (by decide) ?_
    refine lv_isub hx hb dL_law_22 ?_
    have e3 : (Int32.ofNat L - 3).toInt = (L : Int) - 3 := by
      have e1 : (Int32.ofNat L).toInt = (L : Int) := nI_toInt (by omega)
      rw [Int32.toInt_sub, e1, show (3 : Int32).toInt = 3 from rfl]
      exact Int.bmod_eq_of_le (by omega) (by omega)
    have ei : (nI i).toInt = (i : Int) := nI_toInt (by omega)
    refine lv_icmp_gt (tgt := 282) hx hb dL_law_23 (by decide) (fun c0 => ?_) (fun c0 => ?_)
    · refine lv_iconst (v := 1) hx hb dL_law_282 (by decide) ?_
      refine va_forget (fun q hq => hS.2.2 q hq) ?_
      exact lw_ret hx hb hr hlocks dL_law_283
    rw [Int32.lt_iff_toInt_lt, e3, ei] at c0
    have hiL : i + 3 ≤ L := by omega
    have next : ∀ (σ : StC) (τ : StR), Rel σ τ → ∀ (H : Heap) (locs : List Loc) (ls : Array Slot), va_P (dC, dI) vwCl (wsC h k σ ++ wsR h' k' τ) H → va_D (AL s.heap.size) (wsC h k σ ++ wsR h' k' τ) → va_S (AL s.heap.size) s.heap H locs → lv_has ls 4 [(0, .ref b), (1, .ref (h 0)), (2, .ref (h' 0)), (3, .int (nI i))] → W p l e room_1 s m #[Value.ref b] below meth c H locs 600000 7302250 (lw_Z below #[Value.ref b] s) (F0 m 276 ls []) := by
      intro σ τ hR H locs ls hP hD hS hl
      refine lv_iinc (v := nI (i + 3)) (lv' := [(3, .int (nI (i + 3))), (0, .ref b), (1, .ref (h 0)), (2, .ref (h' 0))]) hx hb dL_law_276 hl (k := 3) rfl (by rw [show Int32.ofInt 3 = nI 3 by decide]; exact nI_add i 3) (by decide) rfl (fun ls hl => ?_)
      refine lv_goto (tgt := 18) hx hb dL_law_279 (by decide) ?_
      exact ih (i + 3) σ τ (by omega) (by omega) hR H locs ls hP hD hS (lv_sub hl [1, 2, 3, 0] rfl)
    clear ih
    have i0 : vp_in (nI i) L := vp_in_nI (by omega) (by omega)
    have i1 : vp_in (nI i + 1) L := by rw [nI_1]; exact vp_in_nI (by omega) (by omega)
    have i2 : vp_in (nI i + 2) L := by rw [show nI i + 2 = nI (i + 2) from nI_add i 2]; exact vp_in_nI (by omega) (by omega)
    refine lv_aload_n hx hb dL_law_26 rfl (lv_at hl 0 rfl) ?_
    refine lv_iload_n hx hb dL_law_27 rfl (lv_at hl 3 rfl) ?_
    refine va_sld hx hb hX hbl hbA hS i0 dL_law_28 ?_
    refine lv_bipush (v := 15) hx hb dL_law_29 (by decide) ?_
    refine lv_iand hx hb dL_law_31 ?_
    refine lv_topi (fun x ex => ?_)
    clear ex
    obtain ⟨v1, ev1⟩ : ∃ y : Int32, xs (nI i + 1).toNatClampNeg = y := ⟨_, rfl⟩
    obtain ⟨v2, ev2⟩ : ∃ y : Int32, xs (nI i + 2).toNatClampNeg = y := ⟨_, rfl⟩
    rcases Classical.em (x = 0) with c1 | c1
    · refine lv_tableIn (tgt := 88) hx hb dL_law_32 (by rw [c1]; decide) (by rw [c1]; decide) (by rw [c1]; rfl) (by decide) ?_
      refine lv_aload_n hx hb dL_law_88 rfl (lv_at hl 1 rfl) ?_
      refine lawC_v (va_runV (As := []) (rest := []) ⟨hx, hb, hml, hown, hts⟩ (c_X2_init_ l dC dI h k g H.size σ) (cwV 0 hts gL_law_X2_init_ rfl rfl rfl (by decide +kernel) ⟨Nat.le_of_ble_eq_true rfl, Nat.le_of_ble_eq_true rfl⟩) (lawC_p hct hP hD hS) rfl rfl hl.1 rfl (lv_room (Nat.le_of_ble_eq_true rfl)) dL_law_89 ⟨Nat.le_of_ble_eq_true rfl, Nat.le_of_ble_eq_true rfl⟩) hP hD hS (fun σ2 H locs eu hP hD hS => ?_)
      refine lv_aload_n hx hb dL_law_92 rfl (lv_at hl 2 rfl) ?_
      refine lawR_v (va_runV (As := []) (rest := []) ⟨hx, hb, hml, hown, hts⟩ (c_X3_init_ l dC dI h' k' H.size τ) (cwV 0 hts gL_law_X3_init_ rfl rfl rfl (by decide +kernel) ⟨Nat.le_of_ble_eq_true rfl, Nat.le_of_ble_eq_true rfl⟩) (lawR_p hcr hP hD hS) rfl rfl hl.1 rfl (lv_room (Nat.le_of_ble_eq_true rfl)) dL_law_93 ⟨Nat.le_of_ble_eq_true rfl, Nat.le_of_ble_eq_true rfl⟩) hP hD hS (fun τ2 H locs eu2 hP hD hS => ?_)
      refine lv_goto (tgt := 276) hx hb dL_law_96 (by decide) ?_
      exact next σ2 τ2 (by rw [eu, eu2]; exact R_init hR) H locs ls hP hD hS hl
    · skip
      rcases Classical.em (x = 1) with c2 | c2
      · refine lv_tableIn (tgt := 99) hx hb dL_law_32 (by rw [c2]; decide) (by rw [c2]; decide) (by rw [c2]; rfl) (by decide) ?_
        refine lv_aload_n hx hb dL_law_99 rfl (lv_at hl 1 rfl) ?_
        refine lv_aload_n hx hb dL_law_100 rfl (lv_at hl 0 rfl) ?_
        refine lv_iload_n hx hb dL_law_101 rfl (lv_at hl 3 rfl) ?_
        refine lv_iconst (v := 1) hx hb dL_law_102 (by decide) ?_
        refine lv_iadd hx hb dL_law_103 ?_
        refine va_sld hx hb hX hbl hbA hS i1 dL_law_104 ?_
        rw [ev1]
        refine lv_aload_n hx hb dL_law_105 rfl (lv_at hl 0 rfl) ?_
        refine lv_iload_n hx hb dL_law_106 rfl (lv_at hl 3 rfl) ?_
        refine lv_iconst (v := 2) hx hb dL_law_107 (by decide) ?_
        refine lv_iadd hx hb dL_law_108 ?_
        refine va_sld hx hb hX hbl hbA hS i2 dL_law_109 ?_
        rw [ev2]
        refine lawC_i (va_runV (As := [.int v1, .int v2]) (rest := []) ⟨hx, hb, hml, hown, hts⟩ (c_X2_poke l dC dI h k g H.size σ v1 v2) (cwV 2 hts gL_law_X2_poke rfl rfl rfl (by decide +kernel) ⟨Nat.le_of_ble_eq_true rfl, Nat.le_of_ble_eq_true rfl⟩) (lawC_p hct hP hD hS) rfl rfl hl.1 rfl (lv_room (Nat.le_of_ble_eq_true rfl)) dL_law_110 ⟨Nat.le_of_ble_eq_true rfl, Nat.le_of_ble_eq_true rfl⟩) hP hD hS (fun r1 σ2 H locs er eu hP hD hS => ?_)
        refine lv_aload_n hx hb dL_law_113 rfl (lv_at hl 2 rfl) ?_
        refine lv_aload_n hx hb dL_law_114 rfl (lv_at hl 0 rfl) ?_
        refine lv_iload_n hx hb dL_law_115 rfl (lv_at hl 3 rfl) ?_
        refine lv_iconst (v := 1) hx hb dL_law_116 (by decide) ?_
        refine lv_iadd hx hb dL_law_117 ?_
        refine va_sld hx hb hX hbl hbA hS i1 dL_law_118 ?_
        rw [ev1]
        refine lv_aload_n hx hb dL_law_119 rfl (lv_at hl 0 rfl) ?_
        refine lv_iload_n hx hb dL_law_120 rfl (lv_at hl 3 rfl) ?_
        refine lv_iconst (v := 2) hx hb dL_law_121 (by decide) ?_
        refine lv_iadd hx hb dL_law_122 ?_
        refine va_sld hx hb hX hbl hbA hS i2 dL_law_123 ?_
        rw [ev2]
        refine lawR_i (va_runV (As := [.int v1, .int v2]) (rest := [.int r1]) ⟨hx, hb, hml, hown, hts⟩ (c_X3_poke l dC dI h' k' H.size τ v1 v2) (cwV 2 hts gL_law_X3_poke rfl rfl rfl (by decide +kernel) ⟨Nat.le_of_ble_eq_true rfl, Nat.le_of_ble_eq_true rfl⟩) (lawR_p hcr hP hD hS) rfl rfl hl.1 rfl (lv_room (Nat.le_of_ble_eq_true rfl)) dL_law_124 ⟨Nat.le_of_ble_eq_true rfl, Nat.le_of_ble_eq_true rfl⟩) hP hD hS (fun r2 τ2 H locs er2 eu2 hP hD hS => ?_)
        obtain ⟨q1, q2⟩ := R_poke (a := v1) (v := v2) hR
        rw [← er, ← er2] at q1
        rw [← eu, ← eu2] at q2
        refine lv_icmp_eq (tgt := 276) hx hb dL_law_127 (by decide) (fun _ => ?_) (fun cc => absurd q1 cc)
        exact next σ2 τ2 q2 H locs ls hP hD hS hl
      · skip
        rcases Classical.em (x = 2) with c3 | c3
        · refine lv_tableIn (tgt := 132) hx hb dL_law_32 (by rw [c3]; decide) (by rw [c3]; decide) (by rw [c3]; rfl) (by decide) ?_
          refine lv_aload_n hx hb dL_law_132 rfl (lv_at hl 1 rfl) ?_
          refine lv_aload_n hx hb dL_law_133 rfl (lv_at hl 0 rfl) ?_
          refine lv_iload_n hx hb dL_law_134 rfl (lv_at hl 3 rfl) ?_
          refine lv_iconst (v := 1) hx hb dL_law_135 (by decide) ?_
          refine lv_iadd hx hb dL_law_136 ?_
          refine va_sld hx hb hX hbl hbA hS i1 dL_law_137 ?_
          rw [ev1]
          refine lawC_i (va_runV (As := [.int v1]) (rest := []) ⟨hx, hb, hml, hown, hts⟩ (c_X2_peek l dC dI h k g H.size σ v1) (cwV 1 hts gL_law_X2_peek rfl rfl rfl (by decide +kernel) ⟨Nat.le_of_ble_eq_true rfl, Nat.le_of_ble_eq_true rfl⟩) (lawC_p hct hP hD hS) rfl rfl hl.1 rfl (lv_room (Nat.le_of_ble_eq_true rfl)) dL_law_138 ⟨Nat.le_of_ble_eq_true rfl, Nat.le_of_ble_eq_true rfl⟩) hP hD hS (fun r1 σ2 H locs er eu hP hD hS => ?_)
          refine lv_aload_n hx hb dL_law_141 rfl (lv_at hl 2 rfl) ?_
          refine lv_aload_n hx hb dL_law_142 rfl (lv_at hl 0 rfl) ?_
          refine lv_iload_n hx hb dL_law_143 rfl (lv_at hl 3 rfl) ?_
          refine lv_iconst (v := 1) hx hb dL_law_144 (by decide) ?_
          refine lv_iadd hx hb dL_law_145 ?_
          refine va_sld hx hb hX hbl hbA hS i1 dL_law_146 ?_
          rw [ev1]
          refine lawR_i (va_runV (As := [.int v1]) (rest := [.int r1]) ⟨hx, hb, hml, hown, hts⟩ (c_X3_peek l dC dI h' k' H.size τ v1) (cwV 1 hts gL_law_X3_peek rfl rfl rfl (by decide +kernel) ⟨Nat.le_of_ble_eq_true rfl, Nat.le_of_ble_eq_true rfl⟩) (lawR_p hcr hP hD hS) rfl rfl hl.1 rfl (lv_room (Nat.le_of_ble_eq_true rfl)) dL_law_147 ⟨Nat.le_of_ble_eq_true rfl, Nat.le_of_ble_eq_true rfl⟩) hP hD hS (fun r2 τ2 H locs er2 eu2 hP hD hS => ?_)
          have q1 := R_peek (a := v1) hR
          have q1 : r1 = r2 := er.trans (q1.trans er2.symm)
          have q2 : Rel σ2 τ2 := by rw [eu, eu2]; exact hR
          refine lv_icmp_eq (tgt := 276) hx hb dL_law_150 (by decide) (fun _ => ?_) (fun cc => absurd q1 cc)
          exact next σ2 τ2 q2 H locs ls hP hD hS hl
        · skip
          rcases Classical.em (x = 3) with c4 | c4
          · refine lv_tableIn (tgt := 155) hx hb dL_law_32 (by rw [c4]; decide) (by rw [c4]; decide) (by rw [c4]; rfl) (by decide) ?_
            refine lv_aload_n hx hb dL_law_155 rfl (lv_at hl 1 rfl) ?_
            refine lawC_i (va_runV (As := []) (rest := []) ⟨hx, hb, hml, hown, hts⟩ (c_X2_step l dC dI h k g H.size σ) (cwV 0 hts gL_law_X2_step rfl rfl rfl (by decide +kernel) ⟨Nat.le_of_ble_eq_true rfl, Nat.le_of_ble_eq_true rfl⟩) (lawC_p hct hP hD hS) rfl rfl hl.1 rfl (lv_room (Nat.le_of_ble_eq_true rfl)) dL_law_156 ⟨Nat.le_of_ble_eq_true rfl, Nat.le_of_ble_eq_true rfl⟩) hP hD hS (fun r1 σ2 H locs er eu hP hD hS => ?_)
            refine lv_aload_n hx hb dL_law_159 rfl (lv_at hl 2 rfl) ?_
            refine lawR_i (va_runV (As := []) (rest := [.int r1]) ⟨hx, hb, hml, hown, hts⟩ (c_X3_step l dC dI h' k' H.size τ (R_okR hR)) (cwV 0 hts gL_law_X3_step rfl rfl rfl (by decide +kernel) ⟨Nat.le_of_ble_eq_true rfl, Nat.le_of_ble_eq_true rfl⟩) (lawR_p hcr hP hD hS) rfl rfl hl.1 rfl (lv_room (Nat.le_of_ble_eq_true rfl)) dL_law_160 ⟨Nat.le_of_ble_eq_true rfl, Nat.le_of_ble_eq_true rfl⟩) hP hD hS (fun r2 τ2 H locs er2 eu2 hP hD hS => ?_)
            obtain ⟨q1, q2⟩ := R_step hR
            rw [← er, ← er2] at q1
            rw [← eu, ← eu2] at q2
            refine lv_icmp_eq (tgt := 276) hx hb dL_law_163 (by decide) (fun _ => ?_) (fun cc => absurd q1 cc)
            exact next σ2 τ2 q2 H locs ls hP hD hS hl
          · skip
            rcases Classical.em (x = 4) with c5 | c5
            · refine lv_tableIn (tgt := 168) hx hb dL_law_32 (by rw [c5]; decide) (by rw [c5]; decide) (by rw [c5]; rfl) (by decide) ?_
              refine lv_aload_n hx hb dL_law_168 rfl (lv_at hl 1 rfl) ?_
              refine lv_aload_n hx hb dL_law_169 rfl (lv_at hl 0 rfl) ?_
              refine lv_iload_n hx hb dL_law_170 rfl (lv_at hl 3 rfl) ?_
              refine lv_iconst (v := 1) hx hb dL_law_171 (by decide) ?_
              refine lv_iadd hx hb dL_law_172 ?_
              refine va_sld hx hb hX hbl hbA hS i1 dL_law_173 ?_
              rw [ev1]
              refine lawC_i (va_runV (As := [.int v1]) (rest := []) ⟨hx, hb, hml, hown, hts⟩ (c_X2_run l dC dI h k g H.size σ v1) (cwV 1 hts gL_law_X2_run rfl rfl rfl (by decide +kernel) ⟨Nat.le_of_ble_eq_true rfl, Nat.le_of_ble_eq_true rfl⟩) (lawC_p hct hP hD hS) rfl rfl hl.1 rfl (lv_room (Nat.le_of_ble_eq_true rfl)) dL_law_174 ⟨Nat.le_of_ble_eq_true rfl, Nat.le_of_ble_eq_true rfl⟩) hP hD hS (fun r1 σ2 H locs er eu hP hD hS => ?_)
              refine lv_aload_n hx hb dL_law_177 rfl (lv_at hl 2 rfl) ?_
              refine lv_aload_n hx hb dL_law_178 rfl (lv_at hl 0 rfl) ?_
              refine lv_iload_n hx hb dL_law_179 rfl (lv_at hl 3 rfl) ?_
              refine lv_iconst (v := 1) hx hb dL_law_180 (by decide) ?_
              refine lv_iadd hx hb dL_law_181 ?_
              refine va_sld hx hb hX hbl hbA hS i1 dL_law_182 ?_
              rw [ev1]
              refine lawR_i (va_runV (As := [.int v1]) (rest := [.int r1]) ⟨hx, hb, hml, hown, hts⟩ (c_X3_run l dC dI h' k' H.size τ v1 (R_okR hR)) (cwV 1 hts gL_law_X3_run rfl rfl rfl (by decide +kernel) ⟨Nat.le_of_ble_eq_true rfl, Nat.le_of_ble_eq_true rfl⟩) (lawR_p hcr hP hD hS) rfl rfl hl.1 rfl (lv_room (Nat.le_of_ble_eq_true rfl)) dL_law_183 ⟨Nat.le_of_ble_eq_true rfl, Nat.le_of_ble_eq_true rfl⟩) hP hD hS (fun r2 τ2 H locs er2 eu2 hP hD hS => ?_)
              obtain ⟨q1, q2⟩ := R_run (a := v1) hR
              rw [← er, ← er2] at q1
              rw [← eu, ← eu2] at q2
              refine lv_icmp_eq (tgt := 276) hx hb dL_law_186 (by decide) (fun _ => ?_) (fun cc => absurd q1 cc)
              exact next σ2 τ2 q2 H locs ls hP hD hS hl
            · skip
              rcases Classical.em (x = 5) with c6 | c6
              · refine lv_tableIn (tgt := 191) hx hb dL_law_32 (by rw [c6]; decide) (by rw [c6]; decide) (by rw [c6]; rfl) (by decide) ?_
                refine lv_aload_n hx hb dL_law_191 rfl (lv_at hl 1 rfl) ?_
                refine lv_aload_n hx hb dL_law_192 rfl (lv_at hl 0 rfl) ?_
                refine lv_iload_n hx hb dL_law_193 rfl (lv_at hl 3 rfl) ?_
                refine lv_iconst (v := 1) hx hb dL_law_194 (by decide) ?_
                refine lv_iadd hx hb dL_law_195 ?_
                refine va_sld hx hb hX hbl hbA hS i1 dL_law_196 ?_
                rw [ev1]
                refine lawC_i (va_runV (As := [.int v1]) (rest := []) ⟨hx, hb, hml, hown, hts⟩ (c_X2_reg l dC dI h k g H.size σ v1) (cwV 1 hts gL_law_X2_reg rfl rfl rfl (by decide +kernel) ⟨Nat.le_of_ble_eq_true rfl, Nat.le_of_ble_eq_true rfl⟩) (lawC_p hct hP hD hS) rfl rfl hl.1 rfl (lv_room (Nat.le_of_ble_eq_true rfl)) dL_law_197 ⟨Nat.le_of_ble_eq_true rfl, Nat.le_of_ble_eq_true rfl⟩) hP hD hS (fun r1 σ2 H locs er eu hP hD hS => ?_)
                refine lv_aload_n hx hb dL_law_200 rfl (lv_at hl 2 rfl) ?_
                refine lv_aload_n hx hb dL_law_201 rfl (lv_at hl 0 rfl) ?_
                refine lv_iload_n hx hb dL_law_202 rfl (lv_at hl 3 rfl) ?_
                refine lv_iconst (v := 1) hx hb dL_law_203 (by decide) ?_
                refine lv_iadd hx hb dL_law_204 ?_
                refine va_sld hx hb hX hbl hbA hS i1 dL_law_205 ?_
                rw [ev1]
                refine lawR_i (va_runV (As := [.int v1]) (rest := [.int r1]) ⟨hx, hb, hml, hown, hts⟩ (c_X3_reg l dC dI h' k' H.size τ v1) (cwV 1 hts gL_law_X3_reg rfl rfl rfl (by decide +kernel) ⟨Nat.le_of_ble_eq_true rfl, Nat.le_of_ble_eq_true rfl⟩) (lawR_p hcr hP hD hS) rfl rfl hl.1 rfl (lv_room (Nat.le_of_ble_eq_true rfl)) dL_law_206 ⟨Nat.le_of_ble_eq_true rfl, Nat.le_of_ble_eq_true rfl⟩) hP hD hS (fun r2 τ2 H locs er2 eu2 hP hD hS => ?_)
                have q1 := R_regAt (a := v1) hR
                have q1 : r1 = r2 := er.trans (q1.trans er2.symm)
                have q2 : Rel σ2 τ2 := by rw [eu, eu2]; exact hR
                refine lv_icmp_eq (tgt := 276) hx hb dL_law_209 (by decide) (fun _ => ?_) (fun cc => absurd q1 cc)
                exact next σ2 τ2 q2 H locs ls hP hD hS hl
              · skip
                rcases Classical.em (x = 6) with c7 | c7
                · refine lv_tableIn (tgt := 214) hx hb dL_law_32 (by rw [c7]; decide) (by rw [c7]; decide) (by rw [c7]; rfl) (by decide) ?_
                  refine lv_aload_n hx hb dL_law_214 rfl (lv_at hl 1 rfl) ?_
                  refine lv_aload_n hx hb dL_law_215 rfl (lv_at hl 0 rfl) ?_
                  refine lv_iload_n hx hb dL_law_216 rfl (lv_at hl 3 rfl) ?_
                  refine lv_iconst (v := 1) hx hb dL_law_217 (by decide) ?_
                  refine lv_iadd hx hb dL_law_218 ?_
                  refine va_sld hx hb hX hbl hbA hS i1 dL_law_219 ?_
                  rw [ev1]
                  refine lawC_i (va_runV (As := [.int v1]) (rest := []) ⟨hx, hb, hml, hown, hts⟩ (c_X2_raise l dC dI h k g H.size σ v1) (cwV 1 hts gL_law_X2_raise rfl rfl rfl (by decide +kernel) ⟨Nat.le_of_ble_eq_true rfl, Nat.le_of_ble_eq_true rfl⟩) (lawC_p hct hP hD hS) rfl rfl hl.1 rfl (lv_room (Nat.le_of_ble_eq_true rfl)) dL_law_220 ⟨Nat.le_of_ble_eq_true rfl, Nat.le_of_ble_eq_true rfl⟩) hP hD hS (fun r1 σ2 H locs er eu hP hD hS => ?_)
                  refine lv_aload_n hx hb dL_law_223 rfl (lv_at hl 2 rfl) ?_
                  refine lv_aload_n hx hb dL_law_224 rfl (lv_at hl 0 rfl) ?_
                  refine lv_iload_n hx hb dL_law_225 rfl (lv_at hl 3 rfl) ?_
                  refine lv_iconst (v := 1) hx hb dL_law_226 (by decide) ?_
                  refine lv_iadd hx hb dL_law_227 ?_
                  refine va_sld hx hb hX hbl hbA hS i1 dL_law_228 ?_
                  rw [ev1]
                  refine lawR_i (va_runV (As := [.int v1]) (rest := [.int r1]) ⟨hx, hb, hml, hown, hts⟩ (c_X3_raise l dC dI h' k' H.size τ v1) (cwV 1 hts gL_law_X3_raise rfl rfl rfl (by decide +kernel) ⟨Nat.le_of_ble_eq_true rfl, Nat.le_of_ble_eq_true rfl⟩) (lawR_p hcr hP hD hS) rfl rfl hl.1 rfl (lv_room (Nat.le_of_ble_eq_true rfl)) dL_law_229 ⟨Nat.le_of_ble_eq_true rfl, Nat.le_of_ble_eq_true rfl⟩) hP hD hS (fun r2 τ2 H locs er2 eu2 hP hD hS => ?_)
                  obtain ⟨q1, q2⟩ := R_raise (a := v1) hR
                  rw [← er, ← er2] at q1
                  rw [← eu, ← eu2] at q2
                  refine lv_icmp_eq (tgt := 276) hx hb dL_law_232 (by decide) (fun _ => ?_) (fun cc => absurd q1 cc)
                  exact next σ2 τ2 q2 H locs ls hP hD hS hl
                · skip
                  rcases Classical.em (x = 7) with c8 | c8
                  · refine lv_tableIn (tgt := 237) hx hb dL_law_32 (by rw [c8]; decide) (by rw [c8]; decide) (by rw [c8]; rfl) (by decide) ?_
                    refine lv_aload_n hx hb dL_law_237 rfl (lv_at hl 1 rfl) ?_
                    refine lawC_i (va_runV (As := []) (rest := []) ⟨hx, hb, hml, hown, hts⟩ (c_X2_cyclesOf l dC dI h k g H.size σ) (cwV 0 hts gL_law_X2_cyclesOf rfl rfl rfl (by decide +kernel) ⟨Nat.le_of_ble_eq_true rfl, Nat.le_of_ble_eq_true rfl⟩) (lawC_p hct hP hD hS) rfl rfl hl.1 rfl (lv_room (Nat.le_of_ble_eq_true rfl)) dL_law_238 ⟨Nat.le_of_ble_eq_true rfl, Nat.le_of_ble_eq_true rfl⟩) hP hD hS (fun r1 σ2 H locs er eu hP hD hS => ?_)
                    refine lv_aload_n hx hb dL_law_241 rfl (lv_at hl 2 rfl) ?_
                    refine lawR_i (va_runV (As := []) (rest := [.int r1]) ⟨hx, hb, hml, hown, hts⟩ (c_X3_cyclesOf l dC dI h' k' H.size τ) (cwV 0 hts gL_law_X3_cyclesOf rfl rfl rfl (by decide +kernel) ⟨Nat.le_of_ble_eq_true rfl, Nat.le_of_ble_eq_true rfl⟩) (lawR_p hcr hP hD hS) rfl rfl hl.1 rfl (lv_room (Nat.le_of_ble_eq_true rfl)) dL_law_242 ⟨Nat.le_of_ble_eq_true rfl, Nat.le_of_ble_eq_true rfl⟩) hP hD hS (fun r2 τ2 H locs er2 eu2 hP hD hS => ?_)
                    have q1 := R_cycles hR
                    have q1 : r1 = r2 := er.trans (q1.trans er2.symm)
                    have q2 : Rel σ2 τ2 := by rw [eu, eu2]; exact hR
                    refine lv_icmp_eq (tgt := 276) hx hb dL_law_245 (by decide) (fun _ => ?_) (fun cc => absurd q1 cc)
                    exact next σ2 τ2 q2 H locs ls hP hD hS hl
                  · skip
                    rcases Classical.em (x = 8) with c9 | c9
                    · refine lv_tableIn (tgt := 250) hx hb dL_law_32 (by rw [c9]; decide) (by rw [c9]; decide) (by rw [c9]; rfl) (by decide) ?_
                      refine lv_aload_n hx hb dL_law_250 rfl (lv_at hl 1 rfl) ?_
                      refine lawC_i (va_runV (As := []) (rest := []) ⟨hx, hb, hml, hown, hts⟩ (c_X2_pending l dC dI h k g H.size σ) (cwV 0 hts gL_law_X2_pending rfl rfl rfl (by decide +kernel) ⟨Nat.le_of_ble_eq_true rfl, Nat.le_of_ble_eq_true rfl⟩) (lawC_p hct hP hD hS) rfl rfl hl.1 rfl (lv_room (Nat.le_of_ble_eq_true rfl)) dL_law_251 ⟨Nat.le_of_ble_eq_true rfl, Nat.le_of_ble_eq_true rfl⟩) hP hD hS (fun r1 σ2 H locs er eu hP hD hS => ?_)
                      refine lv_aload_n hx hb dL_law_254 rfl (lv_at hl 2 rfl) ?_
                      refine lawR_i (va_runV (As := []) (rest := [.int r1]) ⟨hx, hb, hml, hown, hts⟩ (c_X3_pending l dC dI h' k' H.size τ) (cwV 0 hts gL_law_X3_pending rfl rfl rfl (by decide +kernel) ⟨Nat.le_of_ble_eq_true rfl, Nat.le_of_ble_eq_true rfl⟩) (lawR_p hcr hP hD hS) rfl rfl hl.1 rfl (lv_room (Nat.le_of_ble_eq_true rfl)) dL_law_255 ⟨Nat.le_of_ble_eq_true rfl, Nat.le_of_ble_eq_true rfl⟩) hP hD hS (fun r2 τ2 H locs er2 eu2 hP hD hS => ?_)
                      have q1 := R_pending hR
                      have q1 : r1 = r2 := er.trans (q1.trans er2.symm)
                      have q2 : Rel σ2 τ2 := by rw [eu, eu2]; exact hR
                      refine lv_icmp_eq (tgt := 276) hx hb dL_law_258 (by decide) (fun _ => ?_) (fun cc => absurd q1 cc)
                      exact next σ2 τ2 q2 H locs ls hP hD hS hl
                    · skip
                      rcases Classical.em (x = 9) with c10 | c10
                      · refine lv_tableIn (tgt := 263) hx hb dL_law_32 (by rw [c10]; decide) (by rw [c10]; decide) (by rw [c10]; rfl) (by decide) ?_
                        refine lv_aload_n hx hb dL_law_263 rfl (lv_at hl 1 rfl) ?_
                        refine lawC_i (va_runV (As := []) (rest := []) ⟨hx, hb, hml, hown, hts⟩ (c_X2_mode l dC dI h k g H.size σ) (cwV 0 hts gL_law_X2_mode rfl rfl rfl (by decide +kernel) ⟨Nat.le_of_ble_eq_true rfl, Nat.le_of_ble_eq_true rfl⟩) (lawC_p hct hP hD hS) rfl rfl hl.1 rfl (lv_room (Nat.le_of_ble_eq_true rfl)) dL_law_264 ⟨Nat.le_of_ble_eq_true rfl, Nat.le_of_ble_eq_true rfl⟩) hP hD hS (fun r1 σ2 H locs er eu hP hD hS => ?_)
                        refine lv_aload_n hx hb dL_law_267 rfl (lv_at hl 2 rfl) ?_
                        refine lawR_i (va_runV (As := []) (rest := [.int r1]) ⟨hx, hb, hml, hown, hts⟩ (c_X3_mode l dC dI h' k' H.size τ) (cwV 0 hts gL_law_X3_mode rfl rfl rfl (by decide +kernel) ⟨Nat.le_of_ble_eq_true rfl, Nat.le_of_ble_eq_true rfl⟩) (lawR_p hcr hP hD hS) rfl rfl hl.1 rfl (lv_room (Nat.le_of_ble_eq_true rfl)) dL_law_268 ⟨Nat.le_of_ble_eq_true rfl, Nat.le_of_ble_eq_true rfl⟩) hP hD hS (fun r2 τ2 H locs er2 eu2 hP hD hS => ?_)
                        have q1 := R_mode hR
                        have q1 : r1 = r2 := er.trans (q1.trans er2.symm)
                        have q2 : Rel σ2 τ2 := by rw [eu, eu2]; exact hR
                        refine lv_icmp_eq (tgt := 276) hx hb dL_law_271 (by decide) (fun _ => ?_) (fun cc => absurd q1 cc)
                        exact next σ2 τ2 q2 H locs ls hP hD hS hl
                      · skip
                        have nc1 := i32ne (n := 0) (by decide) c1
                        have nc2 := i32ne (n := 1) (by decide) c2
                        have nc3 := i32ne (n := 2) (by decide) c3
                        have nc4 := i32ne (n := 3) (by decide) c4
                        have nc5 := i32ne (n := 4) (by decide) c5
                        have nc6 := i32ne (n := 5) (by decide) c6
                        have nc7 := i32ne (n := 6) (by decide) c7
                        have nc8 := i32ne (n := 7) (by decide) c8
                        have nc9 := i32ne (n := 8) (by decide) c9
                        have nc10 := i32ne (n := 9) (by decide) c10
                        refine lv_tableOut (tgt := 276) hx hb dL_law_32 (by omega) (by decide) ?_
                        exact next σ τ hR H locs ls hP hD hS hl
