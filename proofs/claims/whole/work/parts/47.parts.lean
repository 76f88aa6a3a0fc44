/-! instructions -/
theorem or_m {a b m : Int32} (ha : a &&& m = a) (hb : b &&& m = b) : (a ||| b) &&& m = a ||| b := by
  rw [← ha, ← hb]
  apply i32_ext
  intro i
  simp only [Int32.toBitVec_and, Int32.toBitVec_or, BitVec.getLsbD_and, BitVec.getLsbD_or]
  generalize a.toBitVec.getLsbD i.val = x
  generalize b.toBitVec.getLsbD i.val = y
  generalize m.toBitVec.getLsbD i.val = z
  revert x y z
  decide
theorem xor_m {a b m : Int32} (ha : a &&& m = a) (hb : b &&& m = b) : (a ^^^ b) &&& m = a ^^^ b := by
  rw [← ha, ← hb]
  apply i32_ext
  intro i
  simp only [Int32.toBitVec_and, Int32.toBitVec_xor, BitVec.getLsbD_and, BitVec.getLsbD_xor]
  generalize a.toBitVec.getLsbD i.val = x
  generalize b.toBitVec.getLsbD i.val = y
  generalize m.toBitVec.getLsbD i.val = z
  revert x y z
  decide
theorem and_mr {a b m : Int32} (hb : b &&& m = b) : (a &&& b) &&& m = a &&& b := by rw [Int32.and_assoc, hb]
theorem and_ml {a b m : Int32} (ha : a &&& m = a) : (a &&& b) &&& m = a &&& b := by rw [Int32.and_comm a b, Int32.and_assoc, ha]
theorem nib (z s : Int32) (k n : Nat) (hs : (s.toBitVec.smod 32).toNat = k) (hk : k + 4 ≤ n) (hn : n ≤ 16) {m : Int32} (hm : m.toBitVec.toNat = 2 ^ n - 1) : ((z &&& (15 : Int32)) <<< s) &&& m = (z &&& (15 : Int32)) <<< s := by
  obtain ⟨j, hj, e⟩ := pk_andE z (m := 15) 4 (by decide)
  have h1 : j * 2 ^ k < 2 ^ n := by
    have a1 : j * 2 ^ k < 2 ^ 4 * 2 ^ k := Nat.mul_lt_mul_of_pos_right hj (Nat.two_pow_pos k)
    rw [← Nat.pow_add] at a1
    exact Nat.lt_of_lt_of_le a1 (Nat.pow_le_pow_right (by decide) (by omega))
  have h2 : (2 : Nat) ^ n ≤ 2 ^ 16 := Nat.pow_le_pow_right (by decide) hn
  rw [e, pk_shlN s k hs (by omega), pk_andN (by omega) n hm, Nat.mod_eq_of_lt h1]
theorem dec_m {τ : StR} {x y : Int32} : (f_X3_decimal τ x y).1 &&& mkR τ = (f_X3_decimal τ x y).1 := by
  unfold f_X3_decimal
  dsimp only
  by_cases hz : τ.2.2.2.2.2.2.2.2 = 0
  · rw [if_pos hz, show mkR τ = 65535 from if_pos hz]
    dsimp only
    exact or_m (or_m (or_m (or_m (by decide) (nib _ _ 0 16 (by decide) (by decide) (by decide) (by decide))) (nib _ _ 4 16 (by decide) (by decide) (by decide) (by decide))) (nib _ _ 8 16 (by decide) (by decide) (by decide) (by decide))) (nib _ _ 12 16 (by decide) (by decide) (by decide) (by decide))
  · rw [if_neg hz, show mkR τ = 255 from if_neg hz]
    dsimp only
    exact or_m (or_m (by decide) (nib _ _ 0 8 (by decide) (by decide) (by decide) (by decide))) (nib _ _ 4 8 (by decide) (by decide) (by decide) (by decide))
/-- the state behind flags -/
theorem R_fl {σ : StC} {τ : StR} {a b c : Int32} {ce : Nat → Int64} (hm : memR ce τ.1) (ho : okR τ) (hi : invR τ) (hσ : σ = toC (f_X3_flags τ a b c) ce) : Rel σ (f_X3_flags τ a b c) ∧ (f_X3_flags τ a b c).2.2 = τ.2.2 := by
  refine ⟨⟨ce, hσ, ?_, ok_X3_flags ho, ?_⟩, ?_⟩
  · rw [flags_eq]; exact hm
  · rw [flags_eq]
    refine ⟨?_, hi.2⟩
    dsimp only
    rw [pk_un (show 3 ≠ 2 by decide)]
    exact hi.1
  · rw [flags_eq]
theorem joined_st (τ : StR) (op x y : Int32) : (f_X3_joined τ op x y).2 = τ ∨ ∃ a b c, (f_X3_joined τ op x y).2 = f_X3_flags τ a b c := by
  unfold f_X3_joined
  dsimp only
  by_cases h4 : op = 4
  · rw [if_pos h4]; exact Or.inl rfl
  rw [if_neg h4]
  by_cases h5 : op = 5
  · rw [if_pos h5]; exact Or.inr ⟨_, _, _, rfl⟩
  rw [if_neg h5]
  by_cases h6 : op = 6
  · rw [if_pos h6]; exact Or.inr ⟨_, _, _, rfl⟩
  rw [if_neg h6]
  by_cases h7 : op = 7
  · rw [if_pos h7]; exact Or.inr ⟨_, _, _, rfl⟩
  rw [if_neg h7]
  by_cases h8 : op = 8
  · rw [if_pos h8]; exact Or.inr ⟨_, _, _, rfl⟩
  rw [if_neg h8]
  by_cases h9 : op = 9
  · rw [if_pos h9]; exact Or.inr ⟨_, _, _, rfl⟩
  rw [if_neg h9]
  by_cases h10 : op = 10
  · rw [if_pos h10]
    dsimp only
    unfold f_X3_decimal
    dsimp only
    by_cases hz : τ.2.2.2.2.2.2.2.2 = 0
    · rw [if_pos hz]; exact Or.inr ⟨_, _, _, rfl⟩
    · rw [if_neg hz]; exact Or.inr ⟨_, _, _, rfl⟩
  rw [if_neg h10]
  by_cases h11 : op = 11
  · rw [if_pos h11]; exact Or.inr ⟨_, _, _, rfl⟩
  rw [if_neg h11]
  by_cases h12 : op = 12
  · rw [if_pos h12]; exact Or.inl rfl
  rw [if_neg h12]
  by_cases h13 : op = 13
  · rw [if_pos h13]; exact Or.inl rfl
  rw [if_neg h13]
  by_cases h14 : op = 14
  · rw [if_pos h14]; exact Or.inr ⟨_, _, _, rfl⟩
  rw [if_neg h14]
  exact Or.inr ⟨_, _, _, rfl⟩
theorem sum_m {τ : StR} {x y c : Int32} : (f_X3_sum τ x y c).1 &&& mkR τ = (f_X3_sum τ x y c).1 := by
  unfold f_X3_sum
  dsimp only
  rw [all_mk, Int32.and_assoc, Int32.and_self]
theorem joined_m {τ : StR} {op x y : Int32} (hx : x &&& mkR τ = x) (hy : y &&& mkR τ = y) : (f_X3_joined τ op x y).1 &&& mkR τ = (f_X3_joined τ op x y).1 := by
  unfold f_X3_joined
  dsimp only
  by_cases h4 : op = 4
  · rw [if_pos h4]; exact hx
  rw [if_neg h4]
  by_cases h5 : op = 5
  · rw [if_pos h5]; exact sum_m
  rw [if_neg h5]
  by_cases h6 : op = 6
  · rw [if_pos h6]; exact sum_m
  rw [if_neg h6]
  by_cases h7 : op = 7
  · rw [if_pos h7]; exact sum_m
  rw [if_neg h7]
  by_cases h8 : op = 8
  · rw [if_pos h8]; exact sum_m
  rw [if_neg h8]
  by_cases h9 : op = 9
  · rw [if_pos h9]; exact sum_m
  rw [if_neg h9]
  by_cases h10 : op = 10
  · rw [if_pos h10]; exact dec_m
  rw [if_neg h10]
  by_cases h11 : op = 11
  · rw [if_pos h11]; exact and_mr hy
  rw [if_neg h11]
  by_cases h12 : op = 12
  · rw [if_pos h12]; exact and_ml hy
  rw [if_neg h12]
  by_cases h13 : op = 13
  · rw [if_pos h13]; exact or_m hy hx
  rw [if_neg h13]
  by_cases h14 : op = 14
  · rw [if_pos h14]; exact xor_m hx hy
  rw [if_neg h14]
  exact and_mr hy
theorem R_joined {σ : StC} {τ : StR} {op x y b : Int32} (hb : b = 0 ↔ τ.2.2.2.2.2.2.2.2 = 0) (hy : y &&& mkR τ = y) (h : Rel σ τ) : (f_X2_combine σ op x y b).1 = (f_X3_joined τ op x y).1 ∧ Rel (f_X2_combine σ op x y b).2 (f_X3_joined τ op x y).2 ∧ (f_X3_joined τ op x y).2.2.2 = τ.2.2 := by
  obtain ⟨ce, rfl, hm, ho, hi⟩ := h
  rw [t_joined ho hb hy]
  refine ⟨rfl, ?_⟩
  dsimp only
  rcases joined_st τ op x y with e | ⟨a, c, d, e⟩
  · rw [e]; exact ⟨⟨ce, rfl, hm, ho, hi⟩, rfl⟩
  · rw [e]; exact R_fl hm ho hi rfl
theorem sort_lt (y s : Int32) (hy : vp_in y 4) : ∃ j : Nat, j < 4 ∧ f_X3_sort y s = nI j := by
  obtain ⟨y, hy, rfl⟩ := vp_in_of hy (by decide)
  unfold f_X3_sort
  rcases (show y = 0 ∨ y = 1 ∨ y = 2 ∨ y = 3 by omega) with rfl | rfl | rfl | rfl
  · exact ⟨0, by decide, rfl⟩
  all_goals
    rw [if_neg (by decide)]
    by_cases h3 : s = 3
    · rw [if_pos h3]; exact ⟨0, by decide, rfl⟩
    rw [if_neg h3]
    by_cases h2 : s = 2
    · rw [if_pos h2]
      first | exact ⟨3, by decide, by decide⟩ | exact ⟨0, by decide, by decide⟩
    · rw [if_neg h2]
      first | exact ⟨3, by decide, by decide⟩ | exact ⟨1, by decide, by decide⟩ | exact ⟨2, by decide, by decide⟩
theorem cyc_tab : ∀ j, j < 4 → tabC 1 (nI j &&& (3 : Int32)).toNatClampNeg = f_X3_pick 12833 (nI j) ∧ tabC 2 (nI j &&& (3 : Int32)).toNatClampNeg = f_X3_pick 13090 (nI j) ∧ tabC 3 (nI j &&& (3 : Int32)).toNatClampNeg = f_X3_pick 25940 (nI j) ∧ tabC 4 (nI j &&& (3 : Int32)).toNatClampNeg = f_X3_pick 17201 (nI j) ∧ tabC 5 (nI j &&& (3 : Int32)).toNatClampNeg = f_X3_pick 21827 (nI j) ∧ tabC 6 (nI j &&& (3 : Int32)).toNatClampNeg = f_X3_pick 21828 (nI j) := by decide +kernel
theorem b01 {w : Int32} {τ : StR} (hwb : (w &&& (64 : Int32)) = 0 ↔ τ.2.2.2.2.2.2.2.2 = 0) : (if (w &&& (64 : Int32)) = 0 then (0 : Int32) else 1) = 0 ↔ τ.2.2.2.2.2.2.2.2 = 0 := by
  by_cases h : (w &&& (64 : Int32)) = 0
  · rw [if_pos h]; exact ⟨fun _ => hwb.mp h, fun _ => rfl⟩
  · rw [if_neg h]; exact ⟨fun q => absurd q (by decide), fun q => absurd (hwb.mpr q) h⟩
theorem R_twoParts {σ : StC} {τ : StR} {w : Int32} (hwb : (w &&& (64 : Int32)) = 0 ↔ τ.2.2.2.2.2.2.2.2 = 0) (h : Rel σ τ) : Rel (f_X2_doTwoParts σ w) (f_X3_twoParts τ w) := by
  have hb := b01 hwb
  unfold f_X2_doTwoParts f_X3_twoParts
  dsimp only
  generalize (if (w &&& (64 : Int32)) = 0 then (0 : Int32) else 1) = b at hb ⊢
  obtain ⟨⟨r1, s1, p1, v1, m1⟩, k1⟩ := R_source (s := (w >>> ((8 : Int32) &&& 31)) &&& (15 : Int32)) (in15 _) hb hwb h
  generalize f_X3_source τ ((w >>> ((4 : Int32) &&& 31)) &&& (3 : Int32)) ((w >>> ((8 : Int32) &&& 31)) &&& (15 : Int32)) = τ1 at *
  generalize f_X2_sourcePlace σ w ((w >>> ((8 : Int32) &&& 31)) &&& (15 : Int32)) = q1 at *
  have hb1 : b = 0 ↔ τ1.2.2.2.2.2.2.2.2 = 0 := by rw [s1]; exact hb
  have hmk1 : mkR τ1 = mkR τ := by unfold mkR; rw [s1]
  obtain ⟨⟨r2, s2, p2, v2, m2⟩, k2⟩ := R_dest (w := w) hb1 r1
  have hif : (if (if (w &&& (128 : Int32)) = 0 then (0 : Int32) else 1) = 0 then f_X3_register τ1 (w &&& (15 : Int32)) else f_X3_indexed τ1 (w &&& (15 : Int32))) = (if (w &&& (128 : Int32)) = 0 then f_X3_register τ1 (w &&& (15 : Int32)) else f_X3_indexed τ1 (w &&& (15 : Int32))) := by
    by_cases hq : (w &&& (128 : Int32)) = 0
    · rw [if_pos hq, if_pos hq, if_pos rfl]
    · rw [if_neg hq, if_neg hq, if_neg (by decide)]
  rw [hif]
  generalize (if (w &&& (128 : Int32)) = 0 then f_X3_register τ1 (w &&& (15 : Int32)) else f_X3_indexed τ1 (w &&& (15 : Int32))) = τ2 at *
  generalize f_X2_destinationPlace q1.2 w = q2 at *
  have hb2 : b = 0 ↔ τ2.2.2.2.2.2.2.2.2 = 0 := by rw [s2]; exact hb1
  have hmk2 : mkR τ2 = mkR τ1 := by unfold mkR; rw [s2]
  rw [v1, v2]
  obtain ⟨e3, r3, s3⟩ := R_joined (op := w >>> ((12 : Int32) &&& 31)) (x := τ1.2.2.2.2.2.2.1) (y := τ2.2.2.2.2.2.2.1) hb2 (by rw [hmk2]; exact m2) r2
  have hm3 := joined_m (τ := τ2) (op := w >>> ((12 : Int32) &&& 31)) (x := τ1.2.2.2.2.2.2.1) (y := τ2.2.2.2.2.2.2.1) (by rw [hmk2, hmk1]; exact m1) (by rw [hmk2]; exact m2)
  rw [e3]
  generalize f_X2_combine q2.2 (w >>> ((12 : Int32) &&& 31)) τ1.2.2.2.2.2.2.1 τ2.2.2.2.2.2.2.1 b = q3 at *
  generalize f_X3_joined τ2 (w >>> ((12 : Int32) &&& 31)) τ1.2.2.2.2.2.2.1 τ2.2.2.2.2.2.2.1 = t3 at *
  have hb3 : b = 0 ↔ t3.2.2.2.2.2.2.2.2.2 = 0 := by rw [s3]; exact hb2
  have hmk3 : mkR t3.2 = mkR τ2 := by unfold mkR; rw [s3]
  have hput := R_put (b := b) (v := t3.1) (p := q2.1) (wh := t3.2.2.2.2.2.2.2.2.1) (by rw [s3]; exact p2) hb3 (by rw [hmk3]; exact hm3) r3
  have hst : Rel (if w >>> ((12 : Int32) &&& 31) = 9 then q3.2 else if w >>> ((12 : Int32) &&& 31) = 11 then q3.2 else f_X2_put q3.2 q2.1 t3.1 b) (if w >>> ((12 : Int32) &&& 31) = 9 then t3.2 else if w >>> ((12 : Int32) &&& 31) = 11 then t3.2 else f_X3_write t3.2 t3.2.2.2.2.2.2.2.2.1 t3.1) := by
    by_cases h9 : w >>> ((12 : Int32) &&& 31) = 9
    · rw [if_pos h9, if_pos h9]; exact r3
    · rw [if_neg h9, if_neg h9]
      by_cases h11 : w >>> ((12 : Int32) &&& 31) = 11
      · rw [if_pos h11, if_pos h11]; exact r3
      · rw [if_neg h11, if_neg h11]; exact hput
  generalize (if w >>> ((12 : Int32) &&& 31) = 9 then q3.2 else if w >>> ((12 : Int32) &&& 31) = 11 then q3.2 else f_X2_put q3.2 q2.1 t3.1 b) = σ4 at hst ⊢
  generalize (if w >>> ((12 : Int32) &&& 31) = 9 then t3.2 else if w >>> ((12 : Int32) &&& 31) = 11 then t3.2 else f_X3_write t3.2 t3.2.2.2.2.2.2.2.2.1 t3.1) = τ4 at hst ⊢
  obtain ⟨j, hj, ej⟩ := sort_lt ((w >>> ((4 : Int32) &&& 31)) &&& (3 : Int32)) ((w >>> ((8 : Int32) &&& 31)) &&& (15 : Int32)) (pk_andIn _ 2 (by decide) (by decide))
  obtain ⟨t1, t2, t3', -⟩ := cyc_tab j hj
  have hcy : tabC (f_X2_twoPartsCycles q2.1) (f_X2_kindOfSource q1.1 w &&& (3 : Int32)).toNatClampNeg = f_X3_pick (if (if (w &&& (128 : Int32)) = 0 then (0 : Int32) else 1) = 0 then if (w &&& (15 : Int32)) = 0 then 13090 else 12833 else 25940) (f_X3_sort ((w >>> ((4 : Int32) &&& 31)) &&& (3 : Int32)) ((w >>> ((8 : Int32) &&& 31)) &&& (15 : Int32))) := by
    rw [k1, k2, ej]
    by_cases hq : (w &&& (128 : Int32)) = 0
    · rw [if_pos hq, if_pos hq, if_pos rfl]
      by_cases h0 : (w &&& (15 : Int32)) = 0
      · rw [if_pos h0, if_pos h0]; exact t2
      · rw [if_neg h0, if_neg h0]; exact t1
    · rw [if_neg hq, if_neg hq, if_neg (by decide)]; exact t3'
  unfold f_X2_spendByKind
  dsimp only
  rw [hcy]
  exact R_spend hst
