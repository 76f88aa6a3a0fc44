/-! writes, pushes, places: class and reference stay tied -/
/-- a word written to the multiplier -/
theorem t_mulWrite {τ : StR} {ce : Nat → Int64} {s : Nat} {v : Int32} (hs : s < 8) (hv : vp_in v 65536) (hi : invR τ) : f_X1_write (toC τ ce) (nI s) v = toC (f_X3_multiply τ (nI s) v) ce := by
  obtain ⟨wd, r, bb, how, ln, cy, pt, wh, bs⟩ := τ
  unfold f_X1_write f_X3_multiply f_X1_placeWordAtSlot
  dsimp only
  rcases (show s = 0 ∨ s = 1 ∨ s = 2 ∨ s = 3 ∨ s = 4 ∨ s = 5 ∨ s = 6 ∨ s = 7 by omega) with rfl | rfl | rfl | rfl | rfl | rfl | rfl | rfl
  · rw [if_neg (by decide), if_neg (by decide), if_neg (by decide), if_neg (by decide), if_neg (by decide), if_neg (by decide), if_neg (by decide)]; rfl
  · rw [if_neg (by decide), if_neg (by decide), if_neg (by decide), if_neg (by decide), if_neg (by decide), if_neg (by decide), if_neg (by decide)]; rfl
  · rw [if_neg (by decide), if_neg (by decide), if_neg (by decide), if_neg (by decide), if_neg (by decide), if_neg (by decide), if_neg (by decide)]; rfl
  · rw [if_neg (by decide), if_neg (by decide), if_neg (by decide), if_neg (by decide), if_neg (by decide), if_neg (by decide), if_neg (by decide)]; rfl
  · have hi2 : invR (wd, r, upd bb ((1 : Int32).toNatClampNeg) v, how, ln, cy, pt, wh, bs) := by
      refine ⟨hi.1, fun k hk => ?_, hi.2.2⟩
      show vp_in (upd bb ((1 : Int32).toNatClampNeg) v k) 65536
      unfold upd
      split
      · exact hv
      · exact hi.2.1 k hk
    have e := t_product (ce := ce) hi2
    rw [if_neg (by decide), if_pos (by decide), if_pos (by decide), if_pos (by decide), if_pos (by decide), if_pos (by decide)]
    exact e
  · rw [if_neg (by decide), if_pos (by decide), if_neg (by decide), if_neg (by decide), if_pos (by decide), if_pos (by decide), if_neg (by decide), if_neg (by decide)]; rfl
  · rw [if_neg (by decide), if_pos (by decide), if_neg (by decide), if_neg (by decide), if_neg (by decide), if_pos (by decide), if_pos (by decide), if_neg (by decide), if_neg (by decide)]; rfl
  · rw [if_pos (by decide), if_pos (by decide), if_neg (by decide), if_pos (by decide)]
theorem m65 (y : Int64) : vp_in (y &&& (65535 : Int64)).toInt32 65536 := by
  obtain ⟨n, hn, rfl⟩ := wb_of y
  rw [show (65535 : Int64) = lN (2 ^ 16 - 1) by decide, wb_mask hn (by decide), lN_i]
  exact vp_in_nI (Nat.mod_lt _ (by decide)) (by decide)
theorem bb_upd {bb : Nat → Int32} {i : Nat} {v : Int32} (h : ∀ k, k < 5 → vp_in (bb k) 65536) (hv : vp_in v 65536) : ∀ k, k < 5 → vp_in (upd bb i v k) 65536 := by
  intro k hk
  unfold upd
  split
  · exact hv
  · exact h k hk
theorem inv_product {τ : StR} (hi : invR τ) : invR (f_X3_product τ) := by
  obtain ⟨wd, r, bb, how, ln, cy, pt, wh, bs⟩ := τ
  obtain ⟨w, hw, ew⟩ := vp_in_of hi.2.2 (by decide)
  dsimp only at ew
  rcases (show w = 0 ∨ w = 1 ∨ w = 2 ∨ w = 3 by omega) with rfl | rfl | rfl | rfl
  · obtain rfl : how = 0 := ew
    rw [mulR0]
    exact ⟨hi.1, bb_upd (bb_upd (bb_upd hi.2.1 (m65 _)) (m65 _)) (in_c (by decide)), hi.2.2⟩
  · obtain rfl : how = 1 := ew
    rw [mulR1]
    exact ⟨hi.1, bb_upd (bb_upd (bb_upd hi.2.1 (m65 _)) (m65 _)) (ite_p (fun z => vp_in z 65536) (in_c (by decide)) (in_c (by decide))), hi.2.2⟩
  · obtain rfl : how = 2 := ew
    rw [mulR2]
    refine ⟨hi.1, bb_upd (bb_upd (bb_upd hi.2.1 (m65 _)) (m65 _)) ?_, hi.2.2⟩
    obtain ⟨lo, hlo, elo⟩ := vp_in_of (hi.2.1 2 (by decide)) (by decide)
    obtain ⟨hh, hhh, eh⟩ := vp_in_of (hi.2.1 3 (by decide)) (by decide)
    dsimp only at elo eh
    obtain ⟨n, hn, en⟩ := wb_of ((bb 0).toInt64 * (bb 1).toInt64)
    rw [en, eh, elo, had_n hhh hlo, show (4294967295 : Int64) = lN (2 ^ 32 - 1) by decide, wb_mask hn (by decide), lN_add, pf_shr (d := 32) (by decide) (by omega), lN_i]
    exact vp_in_nI (by omega) (by decide)
  · obtain rfl : how = 3 := ew
    rw [mulR3]
    exact ⟨hi.1, bb_upd (bb_upd (bb_upd hi.2.1 (m65 _)) (m65 _)) (ite_p (fun z => vp_in z 65536) (in_c (by decide)) (in_c (by decide))), hi.2.2⟩
theorem inv_multiply {τ : StR} {s : Nat} {v : Int32} (hs : s < 8) (hv : vp_in v 65536) (hi : invR τ) : invR (f_X3_multiply τ (nI s) v) := by
  unfold f_X3_multiply
  dsimp only
  by_cases h4 : 4 ≤ nI s
  · rw [if_pos h4]
    by_cases h44 : nI s = 4
    · rw [if_pos h44]
      exact inv_product ⟨hi.1, bb_upd hi.2.1 hv, hi.2.2⟩
    · rw [if_neg h44]
      by_cases h7 : 7 ≤ nI s
      · rw [if_pos h7]; exact hi
      · rw [if_neg h7]; exact ⟨hi.1, bb_upd hi.2.1 hv, hi.2.2⟩
  · rw [if_neg h4]
    refine ⟨hi.1, bb_upd hi.2.1 hv, ?_⟩
    have h5 : ¬ 4 ≤ s := fun q => h4 ((nI_leI (a := 4) (by decide) (by omega)).mpr q)
    exact vp_in_nI (by omega) (by decide)
theorem prod_words (τ : StR) : (f_X3_product τ).1 = τ.1 := by
  unfold f_X3_product
  dsimp only
  split <;> rfl
theorem mul_words (τ : StR) (p v : Int32) : (f_X3_multiply τ p v).1 = τ.1 := by
  unfold f_X3_multiply
  dsimp only
  split
  · split
    · rw [prod_words]
    · split <;> rfl
  · rfl
theorem R_writeWord {σ : StC} {τ : StR} {a v : Int32} (ha : vp_in a 65536) (hv : vp_in v 65536) (h : Rel σ τ) : Rel (f_X0_writeWord σ a v) (f_X3_setWord τ a v) := by
  obtain ⟨ce, rfl, hm, ho, hi⟩ := h
  unfold f_X0_writeWord f_X3_setWord
  dsimp only
  rw [isMul_eq ha]
  by_cases hz : f_X3_isMultiplier a = 0
  · rw [if_pos hz, if_pos hz]
    obtain ⟨ce', e1, e2⟩ := t_placeWord (ce := ce) ha hv
    exact ⟨ce', e1 τ, e2 _ hm, okR_of ho rfl rfl rfl, hi⟩
  · rw [if_neg hz, if_neg hz]
    obtain ⟨j, hj, rfl⟩ := vp_in_of ha (by decide)
    obtain ⟨h1, h2⟩ := isMul_j hj hz
    obtain ⟨e1, e2, -⟩ := slot_tab j h2 h1
    rw [e1, e2]
    exact ⟨ce, t_mulWrite (by omega) hv hi, by rw [mul_words]; exact hm, ok_X3_multiply ho, inv_multiply (by omega) hv hi⟩
theorem R_writeByte {σ : StC} {τ : StR} {a v : Int32} (ha : vp_in a 65536) (hv : vp_in v 256) (h : Rel σ τ) : Rel (f_X0_writeByte σ a v) (f_X3_setByte τ a v) := by
  obtain ⟨ce, rfl, hm, ho, hi⟩ := h
  unfold f_X0_writeByte f_X0_placeByte f_X3_setByte
  dsimp only
  rw [t_wordAt ha hm, isMul_eq ha]
  by_cases hz : f_X3_isMultiplier a = 0
  · rw [if_pos hz, if_pos hz, if_pos hz]
    have ew : f_X3_wordAt τ a = (τ.1 (a >>> ((1 : Int32) &&& 31)).toNatClampNeg) &&& (65535 : Int32) := by
      unfold f_X3_wordAt
      exact if_pos hz
    obtain ⟨ce', e1, e2⟩ := t_placeWord (ce := ce) (v := f_X3_withByte ((τ.1 (a >>> ((1 : Int32) &&& 31)).toNatClampNeg) &&& (65535 : Int32)) a v) ha (in_withByte (and35_in _) hv)
    rw [ew]
    exact ⟨ce', e1 τ, e2 _ hm, okR_of ho rfl rfl rfl, hi⟩
  · rw [if_neg hz, if_neg hz]
    by_cases hq : (a &&& (1 : Int32)) = 0
    · rw [if_pos hq, if_pos hq]
      obtain ⟨j, hj, rfl⟩ := vp_in_of ha (by decide)
      obtain ⟨h1, h2⟩ := isMul_j hj hz
      obtain ⟨e1, e2, -⟩ := slot_tab j h2 h1
      rw [e1, e2]
      exact ⟨ce, t_mulWrite (by omega) (in_8_16 hv) hi, by rw [mul_words]; exact hm, ok_X3_multiply ho, inv_multiply (by omega) (in_8_16 hv) hi⟩
    · rw [if_neg hq, if_neg hq]
      exact ⟨ce, rfl, hm, ho, hi⟩
