/-! sources and destinations -/
theorem S_register {σ : StC} {τ : StR} {k : Nat} {b : Int32} (hk : k < 16) (hb : b = 0 ↔ τ.2.2.2.2.2.2.2.2 = 0) (h : Rel σ τ) : SRC ((65536 : Int32) + nI k, σ) τ (f_X3_register τ (nI k)) b := by
  have e : (65536 : Int32) + nI k = nI (65536 + k) := by rw [show (65536 : Int32) = nI 65536 by decide, nI_add]
  have c1 : 65536 ≤ nI (65536 + k) := (nI_leI (a := 65536) (by decide) (by omega)).mpr (by omega)
  have c2 : ¬ 131072 ≤ nI (65536 + k) := fun q => by have := (nI_leI (a := 131072) (by decide) (by omega)).mp q; omega
  have e15 : nI (65536 + k) &&& (15 : Int32) = nI k := by rw [pk_andN (by omega) 4 (by decide), show (65536 + k) % 2 ^ 4 = k by omega]
  have hr := (R_okR h).1 k hk
  unfold f_X3_register
  dsimp only
  refine ⟨?_, rfl, Or.inr (Or.inl ⟨k, hk, e, ?_⟩), ?_, ?_⟩
  · refine R_scr ?_ h
    refine ite_p (fun z => vp_in z 131072) (in_c (by decide)) ?_
    exact vp_in_nI (by omega) (by decide)
  · by_cases h3 : k = 3
    · rw [if_pos h3, h3]; rfl
    · rw [if_neg h3, if_neg (show ¬ nI k = 3 from fun q => h3 ((nI_eq (b := 3) (by omega) (by decide)).mp q))]
  · unfold f_X2_valueAt
    dsimp only
    rw [e, if_pos c1, if_neg c2, e15, R_reg h]
    by_cases hq : b = 0
    · rw [if_pos hq, if_pos (hb.mp hq)]
    · rw [if_neg hq, if_neg (fun z => hq (hb.mpr z))]
  · by_cases hz : τ.2.2.2.2.2.2.2.2 = 0
    · rw [if_pos hz, show mkR τ = 65535 from if_pos hz, nI_clamp (by omega)]
      exact in16_iff.mp hr
    · rw [if_neg hz, show mkR τ = 255 from if_neg hz, Int32.and_assoc]
      rfl
theorem S_number {σ : StC} {τ : StR} {n : Nat} {b : Int32} (hn : n < 65536) (hb : b = 0 ↔ τ.2.2.2.2.2.2.2.2 = 0) (h : Rel σ τ) : SRC ((131072 : Int32) + nI n, σ) τ (f_X3_number τ (nI n)) b := by
  have e : (131072 : Int32) + nI n = nI (131072 + n) := by rw [show (131072 : Int32) = nI 131072 by decide, nI_add]
  have c1 : 65536 ≤ nI (131072 + n) := (nI_leI (a := 65536) (by decide) (by omega)).mpr (by omega)
  have c2 : 131072 ≤ nI (131072 + n) := (nI_leI (a := 131072) (by decide) (by omega)).mpr (by omega)
  have e2 : nI (131072 + n) - (131072 : Int32) = nI n := by rw [show (131072 : Int32) = nI 131072 by decide, pk_sub (by omega), Nat.add_sub_cancel_left]
  unfold f_X3_number
  dsimp only
  refine ⟨R_scr (in_c (by decide)) h, rfl, Or.inr (Or.inr ⟨n, hn, e, rfl⟩), ?_, ?_⟩
  · unfold f_X2_valueAt
    dsimp only
    rw [e, if_pos c1, if_pos c2, e2]
    by_cases hq : b = 0
    · rw [if_pos hq, if_pos (hb.mp hq)]
    · rw [if_neg hq, if_neg (fun z => hq (hb.mpr z))]
  · by_cases hz : τ.2.2.2.2.2.2.2.2 = 0
    · rw [if_pos hz, show mkR τ = 65535 from if_pos hz]
      exact nx_m16 hn
    · rw [if_neg hz, show mkR τ = 255 from if_neg hz, Int32.and_assoc]
      rfl
/-- register 3 as a source is the number 0 -/
theorem S_reg3 {σ : StC} {τ : StR} {b : Int32} (hb : b = 0 ↔ τ.2.2.2.2.2.2.2.2 = 0) (h : Rel σ τ) : SRC ((131072 : Int32) + nI 0, σ) τ (f_X3_register τ (nI 3)) b := by
  have hn := S_number (n := 0) (by decide) hb h
  have e : f_X3_register τ (nI 3) = f_X3_number τ (nI 0) := by
    unfold f_X3_register f_X3_number
    dsimp only
    rw [show τ.2.1 (nI 3).toNatClampNeg = nI 0 from R_r3 h, if_pos (by decide : nI 3 = 3)]
  rw [e]
  exact hn
theorem val_set (τ : StR) (k v a : Int32) : f_X3_valueAt (f_X3_setRegister τ k v) a = f_X3_valueAt τ a := by
  unfold f_X3_setRegister
  split
  · rfl
  · rfl
theorem S_mem {σ : StC} {τ : StR} {k : Nat} {b : Int32} (hk : k < 16) (hb : b = 0 ↔ τ.2.2.2.2.2.2.2.2 = 0) (h : Rel σ τ) : SRC (τ.2.1 (nI k).toNatClampNeg, σ) τ (f_X3_memory τ (τ.2.1 (nI k).toNatClampNeg)) b := by
  have ha : vp_in (τ.2.1 (nI k).toNatClampNeg) 65536 := by rw [nI_clamp (by omega)]; exact (R_okR h).1 k hk
  unfold f_X3_memory
  dsimp only
  rw [in16_iff.mp ha]
  obtain ⟨m1, m2⟩ := R_mval (b := b) ha hb h
  exact ⟨R_scr (at_in ha) h, rfl, Or.inl ⟨ha, rfl⟩, m1, m2⟩
theorem S_inc {σ : StC} {τ τ' : StR} {p b : Int32} {k : Nat} {d : Int32} (hk : k < 16) (hp : vp_in p 65536) (hb : b = 0 ↔ τ.2.2.2.2.2.2.2.2 = 0) (h : SRC (p, σ) τ τ' b) : SRC (p, f_X2_addToRegister σ (nI k) d) τ (f_X3_setRegister τ' (nI k) (τ'.2.1 (nI k).toNatClampNeg + d)) b := by
  obtain ⟨h1, h2, h3, h4, h5⟩ := h
  have hR := R_add (a := nI k) (v := d) (vp_in_nI hk (by decide)) h1
  have hbs : (f_X3_setRegister τ' (nI k) (τ'.2.1 (nI k).toNatClampNeg + d)).2.2 = τ'.2.2 := bs_set _ _ _
  have hb' : b = 0 ↔ τ'.2.2.2.2.2.2.2.2 = 0 := by rw [h2]; exact hb
  refine ⟨hR, by rw [hbs]; exact h2, by rw [hbs]; exact h3, ?_, by rw [hbs]; exact h5⟩
  rw [hbs, ← h4]
  rw [(R_mval (b := b) hp (by rw [hbs]; exact hb') hR).1, (R_mval (b := b) hp hb' h1).1, val_set]
theorem R_source {σ : StC} {τ : StR} {w s b : Int32} (hs : vp_in s 16) (hb : b = 0 ↔ τ.2.2.2.2.2.2.2.2 = 0) (hwb : (w &&& (64 : Int32)) = 0 ↔ τ.2.2.2.2.2.2.2.2 = 0) (h : Rel σ τ) : SRC (f_X2_sourcePlace σ w s) τ (f_X3_source τ ((w >>> ((4 : Int32) &&& 31)) &&& (3 : Int32)) s) b ∧ f_X2_kindOfSource (f_X2_sourcePlace σ w s).1 w = f_X3_sort ((w >>> ((4 : Int32) &&& 31)) &&& (3 : Int32)) s := by
  obtain ⟨y, hy, ey⟩ := pk_andE (w >>> ((4 : Int32) &&& 31)) (m := 3) 2 (by decide)
  obtain ⟨k, hk, rfl⟩ := vp_in_of hs (by decide)
  have kbig : ∀ n : Nat, n < 65536 → ¬ (131072 : Int32) + nI n < 65536 := fun n hn q => by
    rw [show (131072 : Int32) = nI 131072 by decide, nI_add] at q
    have := (nI_ltI (b := 65536) (by omega) (by decide)).mp q
    omega
  have kreg : ∀ n : Nat, n < 16 → ¬ (65536 : Int32) + nI n < 65536 := fun n hn q => by
    rw [show (65536 : Int32) = nI 65536 by decide, nI_add] at q
    have := (nI_ltI (b := 65536) (by omega) (by decide)).mp q
    omega
  have kmem : ∀ p : Int32, vp_in p 65536 → p < 65536 := fun p hp => by
    obtain ⟨j, hj, rfl⟩ := vp_in_of hp (by decide)
    exact (nI_ltI (b := 65536) (by omega) (by decide)).mpr hj
  have hidx : vp_in (f_X2_indexedPlace σ (nI k)).1 65536 := and35_in _
  unfold f_X2_sourcePlace f_X3_source f_X2_kindOfSource f_X3_sort
  dsimp only
  rw [ey]
  by_cases h3 : k = 3
  · subst h3
    rw [if_pos (by decide : nI 3 = 3)]
    rcases (show y = 0 ∨ y = 1 ∨ y = 2 ∨ y = 3 by omega) with rfl | rfl | rfl | rfl
    · rw [if_neg (by decide : ¬ nI 0 = 3), if_pos (by decide : nI 0 = 0), if_neg (by decide : ¬ nI 0 = 3)]
      dsimp only
      rw [if_neg (kbig 0 (by decide)), if_pos (by decide)]
      exact ⟨S_reg3 hb h, rfl⟩
    · rw [if_neg (by decide : ¬ nI 1 = 3), if_neg (by decide : ¬ nI 1 = 0), if_pos (by decide : nI 1 = 1), if_pos (by decide : nI 3 = 3), if_neg (by decide : ¬ nI 1 = 3)]
      dsimp only
      rw [if_neg (kbig 1 (by decide)), if_neg (by decide : ¬ nI 1 = 0), if_pos (by decide : nI 3 = 3)]
      exact ⟨S_number (n := 1) (by decide) hb h, rfl⟩
    · rw [if_neg (by decide : ¬ nI 2 = 3), if_neg (by decide : ¬ nI 2 = 0), if_neg (by decide : ¬ nI 2 = 1), if_neg (by decide : ¬ nI 3 = 2), if_pos (by decide : nI 3 = 3), if_pos (by decide : nI 2 = 2), if_neg (by decide : ¬ nI 2 = 3)]
      dsimp only
      rw [if_neg (kbig 2 (by decide)), if_neg (by decide : ¬ nI 2 = 0), if_pos (by decide : nI 3 = 3)]
      exact ⟨S_number (n := 2) (by decide) hb h, rfl⟩
    · rw [if_pos (by decide : nI 3 = 3), if_neg (by decide : ¬ nI 3 = 0), if_neg (by decide : ¬ nI 3 = 1), if_neg (by decide : ¬ nI 3 = 2), if_pos (by decide : nI 3 = 3), if_neg (by decide : ¬ nI 3 = 2), if_pos (by decide : nI 3 = 3), if_neg (by decide : ¬ nI 3 = 2), if_pos (by decide : nI 3 = 3)]
      dsimp only
      rw [show (65535 : Int32) = nI 65535 by decide, if_neg (kbig 65535 (by decide)), if_neg (by decide : ¬ nI 3 = 0), if_pos (by decide : nI 3 = 3)]
      exact ⟨S_number (n := 65535) (by decide) hb h, rfl⟩
  · have c3 : ¬ nI k = 3 := fun q => h3 ((nI_eq (b := 3) (by omega) (by decide)).mp q)
    rw [if_neg c3]
    rcases (show y = 0 ∨ y = 1 ∨ y = 2 ∨ y = 3 by omega) with rfl | rfl | rfl | rfl
    · have a0 : nI 0 = 0 := by decide
      rw [if_pos a0, if_pos a0, if_neg (by decide : ¬ nI 0 = 3)]
      dsimp only
      rw [if_neg (kreg k hk), if_pos a0]
      exact ⟨S_register hk hb h, rfl⟩
    · have a0 : ¬ nI 1 = 0 := by decide
      have a1 : nI 1 = 1 := by decide
      rw [if_neg a0, if_pos a1, if_neg a0, if_pos a1, if_neg c3, if_neg (by decide : ¬ nI 1 = 3)]
      dsimp only
      rw [if_pos (kmem _ hidx), if_neg a0, if_neg c3]
      refine ⟨R_indexed hs hb h, ?_⟩
      by_cases h2 : nI k = 2
      · rw [if_pos h2, if_pos (by decide : nI 1 ≤ 1), if_pos a1]; rfl
      · rw [if_neg h2, if_pos a1]; rfl
    · have a0 : ¬ nI 2 = 0 := by decide
      have a1 : ¬ nI 2 = 1 := by decide
      have a2 : nI 2 = 2 := by decide
      have a3 : ¬ nI 2 = 3 := by decide
      by_cases h2 : nI k = 2
      · rw [if_neg a0, if_neg a1, if_pos h2, if_pos a2, if_neg a0, if_neg a1, if_pos h2, if_neg a3]
        dsimp only
        rw [show (4 : Int32) = nI 4 by decide, if_neg (kbig 4 (by decide)), if_neg a0, if_neg c3, if_pos h2, if_neg (by decide : ¬ nI 2 ≤ 1)]
        exact ⟨S_number (n := 4) (by decide) hb h, by first | rfl | rw [if_neg c3, if_pos h2]⟩
      · rw [if_neg a0, if_neg a1, if_neg h2, if_neg a3, if_neg a0, if_neg a1, if_neg h2, if_neg c3, if_neg a3]
        dsimp only
        have ha : vp_in (τ.2.1 (nI k).toNatClampNeg) 65536 := by rw [nI_clamp (by omega)]; exact (R_okR h).1 k hk
        rw [R_reg h, if_pos (kmem _ ha), if_neg a0, if_neg c3, if_neg h2, if_neg a1]
        exact ⟨S_mem hk hb h, by first | decide | (rw [if_neg c3, if_neg h2]; decide)⟩
    · have a0 : ¬ nI 3 = 0 := by decide
      have a1 : ¬ nI 3 = 1 := by decide
      have a2 : ¬ nI 3 = 2 := by decide
      have a3 : nI 3 = 3 := by decide
      by_cases h2 : nI k = 2
      · rw [if_neg a0, if_neg a1, if_pos h2, if_neg a2, if_neg a0, if_neg a1, if_pos h2, if_pos a3, if_pos h2]
        dsimp only
        rw [show (8 : Int32) = nI 8 by decide, if_neg (kbig 8 (by decide)), if_neg a0, if_neg c3, if_pos h2, if_neg (by decide : ¬ nI 3 ≤ 1)]
        exact ⟨S_number (n := 8) (by decide) hb h, by first | rfl | rw [if_neg c3, if_pos h2]⟩
      · have ha : vp_in (τ.2.1 (nI k).toNatClampNeg) 65536 := by rw [nI_clamp (by omega)]; exact (R_okR h).1 k hk
        have hd : (if (if (w &&& (64 : Int32)) = 0 then (0 : Int32) else if nI k = 0 then 0 else if nI k = 1 then 0 else 1) = 0 then (2 : Int32) else 1) = (if (f_X3_memory τ (τ.2.1 (nI k).toNatClampNeg)).2.2.2.2.2.2.2.2 = 0 then 2 else if nI k ≤ 1 then 2 else 1) := by
          rw [show (f_X3_memory τ (τ.2.1 (nI k).toNatClampNeg)).2.2.2.2.2.2.2.2 = τ.2.2.2.2.2.2.2.2 from rfl]
          by_cases hz : τ.2.2.2.2.2.2.2.2 = 0
          · rw [if_pos (hwb.mpr hz), if_pos rfl, if_pos hz]
          · rw [if_neg (fun q => hz (hwb.mp q)), if_neg hz]
            rcases (show k = 0 ∨ k = 1 ∨ 1 < k by omega) with rfl | rfl | hk1
            · decide
            · decide
            · have d0 : ¬ nI k = 0 := fun q => by have := (nI_eq (b := 0) (by omega) (by decide)).mp q; omega
              have d1 : ¬ nI k = 1 := fun q => by have := (nI_eq (b := 1) (by omega) (by decide)).mp q; omega
              have d2 : ¬ nI k ≤ 1 := fun q => by have := (nI_leI (b := 1) (by omega) (by decide)).mp q; omega
              rw [if_neg d0, if_neg d1, if_neg (by decide), if_neg d2]
        rw [if_neg a0, if_neg a1, if_neg h2, if_pos a3, if_neg a0, if_neg a1, if_neg h2, if_neg c3, if_pos a3, if_neg h2, if_neg c3, ← hd]
        dsimp only
        rw [R_reg h, if_pos (kmem _ ha), if_neg a0, if_neg c3, if_neg h2, if_neg a1]
        exact ⟨S_inc hk ha hb (S_mem hk hb h), by first | decide | (rw [if_neg c3, if_neg h2]; decide)⟩
theorem R_dest {σ : StC} {τ : StR} {w b : Int32} (hb : b = 0 ↔ τ.2.2.2.2.2.2.2.2 = 0) (h : Rel σ τ) : SRC (f_X2_destinationPlace σ w) τ (if (w &&& (128 : Int32)) = 0 then f_X3_register τ (w &&& (15 : Int32)) else f_X3_indexed τ (w &&& (15 : Int32))) b ∧ tabC (f_X2_twoPartsCycles (f_X2_destinationPlace σ w).1) = tabC (if (w &&& (128 : Int32)) = 0 then (if (w &&& (15 : Int32)) = 0 then 2 else 1) else 3) := by
  obtain ⟨k, hk, ek⟩ := vp_in_of (in15 w) (by decide)
  unfold f_X2_destinationPlace
  dsimp only
  rw [ek]
  by_cases hq : (w &&& (128 : Int32)) = 0
  · rw [if_pos hq, if_pos hq, if_pos hq]
    refine ⟨S_register hk hb h, ?_⟩
    unfold f_X2_twoPartsCycles
    have e : (65536 : Int32) + nI k = nI (65536 + k) := by rw [show (65536 : Int32) = nI 65536 by decide, nI_add]
    have c1 : 65536 ≤ nI (65536 + k) := (nI_leI (a := 65536) (by decide) (by omega)).mpr (by omega)
    dsimp only
    rw [e, if_pos c1]
    by_cases h0 : k = 0
    · subst h0
      rw [if_pos (by decide), if_pos (by decide)]
    · have d1 : ¬ nI (65536 + k) = 65536 := fun q => by have := (nI_eq (b := 65536) (by omega) (by decide)).mp q; omega
      have d0 : ¬ nI k = 0 := fun q => by have := (nI_eq (b := 0) (by omega) (by decide)).mp q; omega
      rw [if_neg d1, if_neg d0]
  · rw [if_neg hq, if_neg hq, if_neg hq]
    refine ⟨R_indexed (vp_in_nI hk (by decide)) hb h, ?_⟩
    have ha : vp_in (f_X2_indexedPlace σ (nI k)).1 65536 := and35_in _
    obtain ⟨j, hj, ej⟩ := vp_in_of ha (by decide)
    unfold f_X2_twoPartsCycles
    rw [ej, if_neg (fun q => by have := (nI_leI (a := 65536) (by decide) (by omega)).mp q; omega)]
