/-! the multiplier -/
theorem sar16 {m : Nat} (hm : m < 2 ^ 64) : (lN m >>> ((16 : Int32).toInt64 &&& 63)).toInt32 &&& 65535 = nI (m / 65536 % 65536) := by
  apply Int32.toBitVec_inj.mp
  apply BitVec.eq_of_getLsbD_eq
  intro i hi
  have hm2 : ∀ i < 32, (65535 : Int32).toBitVec.getLsbD i = decide (i < 16) := by decide
  have e : (lN m >>> ((16 : Int32).toInt64 &&& 63)).toBitVec = (BitVec.ofNat 64 m).sshiftRight 16 := rfl
  have e2 : (nI (m / 65536 % 65536)).toBitVec = BitVec.ofNat 32 (m / 65536 % 65536) := rfl
  rw [Int32.toBitVec_and, BitVec.getLsbD_and, hm2 i hi, Int64.toBitVec_toInt32, e, e2, BitVec.getLsbD_signExtend, BitVec.getLsbD_ofNat, show (65536 : Nat) = 2 ^ 16 from rfl, Nat.testBit_mod_two_pow, Nat.testBit_div_two_pow]
  by_cases h : i < 16
  · rw [BitVec.getLsbD_sshiftRight, BitVec.getLsbD_ofNat]
    have h1 : i < 64 := by omega
    have h2 : ¬ 64 ≤ i := by omega
    have h3 : 16 + i < 64 := by omega
    have h4 : i + 16 < 64 := by omega
    simp [h, hi, h1, h2, h3, h4, Nat.add_comm 16 i]
  · simp [h]
theorem mul_lo {d n : Nat} (hd : d < 2 ^ 32) (hn : n < 2 ^ 64) : (lN d + lN n).toInt32 &&& 65535 = ((lN d + (lN n &&& 4294967295)) &&& 65535).toInt32 := by
  rw [show (4294967295 : Int64) = lN (2 ^ 32 - 1) by decide, wb_mask hn (by decide), lN_add, lN_add, lN_i, nx_mod, show (65535 : Int64) = lN (2 ^ 16 - 1) by decide, wb_mask (by omega) (by decide), lN_i]
  congr 1
  omega
theorem mul_hi {d n : Nat} (hd : d < 2 ^ 32) (hn : n < 2 ^ 64) : ((lN d + lN n) >>> ((16 : Int32).toInt64 &&& 63)).toInt32 &&& 65535 = (((lN d + (lN n &&& 4294967295)) >>> ((16 : Int32).toInt64 &&& 63)) &&& 65535).toInt32 ∧ (((lN d + (lN n &&& 4294967295)) >>> ((16 : Int32).toInt64 &&& 63)) &&& 65535).toInt32 = nI ((d + n) / 65536 % 65536) := by
  have e1 : ((lN d + lN n) >>> ((16 : Int32).toInt64 &&& 63)).toInt32 &&& 65535 = nI ((d + n) / 65536 % 65536) := by
    rw [lN_add, wb_mod, sar16 (Nat.mod_lt _ (by decide))]
    congr 1
    omega
  have e2 : (((lN d + (lN n &&& 4294967295)) >>> ((16 : Int32).toInt64 &&& 63)) &&& 65535).toInt32 = nI ((d + n) / 65536 % 65536) := by
    rw [show (4294967295 : Int64) = lN (2 ^ 32 - 1) by decide, wb_mask hn (by decide), lN_add, pf_shr (d := 16) (by decide) (by omega), show (65535 : Int64) = lN (2 ^ 16 - 1) by decide, wb_mask (by omega) (by decide), lN_i]
    congr 1
    omega
  exact ⟨e1.trans e2.symm, e2⟩
theorem had_n {hi lo : Nat} (h1 : hi < 65536) (h2 : lo < 65536) : ((nI hi).toInt64 <<< ((16 : Int32).toInt64 &&& 63)) ||| (nI lo).toInt64 = lN (hi * 65536 + lo) := by
  rw [nI_l (by omega), nI_l (by omega), show (16 : Int32) = nI 16 by decide, wb_shl _ (by decide), wb_or (by omega) (by omega)]
  congr 1
  rw [← Nat.shiftLeft_eq, ← Nat.shiftLeft_add_eq_or_of_lt (by omega), Nat.shiftLeft_eq]
theorem cmp_le (x y : Int64) : lg_cmp x y ≤ 0 ↔ x.toInt ≤ y.toInt := by
  unfold lg_cmp
  by_cases h : x > y
  · rw [if_pos h]
    rw [gt_iff_lt, Int64.lt_iff_toInt_lt] at h
    constructor
    · intro q; exact absurd q (by decide)
    · intro q; omega
  · rw [if_neg h]
    rw [gt_iff_lt, Int64.lt_iff_toInt_lt] at h
    constructor
    · intro _; omega
    · intro _; split <;> decide
theorem cmp_ge (x y : Int64) : 0 ≤ lg_cmp x y ↔ y.toInt ≤ x.toInt := by
  unfold lg_cmp
  by_cases h : x > y
  · rw [if_pos h]
    rw [gt_iff_lt, Int64.lt_iff_toInt_lt] at h
    constructor
    · intro _; omega
    · intro _; decide
  · rw [if_neg h]
    rw [gt_iff_lt, Int64.lt_iff_toInt_lt] at h
    by_cases he : x = y
    · rw [if_pos he, he]
      constructor
      · intro _; omega
      · intro _; decide
    · rw [if_neg he]
      have hne : x.toInt ≠ y.toInt := fun q => he (Int64.toInt_inj.mp q)
      constructor
      · intro q; exact absurd q (by decide)
      · intro q; omega
theorem s16 (x : Int32) : (x.toInt16.toInt32.toInt64).toInt.natAbs ≤ 32768 := by
  rw [Int32.toInt_toInt64, Int16.toInt_toInt32]
  have h1 := Int16.toInt_lt x.toInt16
  have h2 := Int16.le_toInt x.toInt16
  omega
theorem s16_mul (x y : Int32) : (x.toInt16.toInt32.toInt64 * y.toInt16.toInt32.toInt64).toInt.natAbs ≤ 1073741824 := by
  have h1 := s16 x
  have h2 := s16 y
  rw [Int64.toInt_mul]
  generalize x.toInt16.toInt32.toInt64.toInt = a at h1 ⊢
  generalize y.toInt16.toInt32.toInt64.toInt = b at h2 ⊢
  have h3 : (a * b).natAbs ≤ 1073741824 := by
    rw [Int.natAbs_mul]
    exact Nat.mul_le_mul h1 h2
  generalize a * b = c at h3 ⊢
  have e : c.bmod (2 ^ 64) = c := Int.bmod_eq_of_le (by omega) (by omega)
  rw [e]
  exact h3
theorem bit15 {h : Nat} (hh : h < 65536) : nI h &&& 32768 = 0 ↔ h ≤ 32767 := by
  rw [show (32768 : Int32) = nI 32768 by decide, nx_and, show (32768 : Nat) = 1 * 2 ^ 15 from rfl, and_hi, show (1 : Nat) = 2 ^ 1 - 1 from rfl, Nat.and_two_pow_sub_one_eq_mod, ← nI_0, nI_eq (by omega) (by omega)]
  omega
theorem mulC0 (r : Nat → Int32) (ln cy : Int32) (ce : Nat → Int64) (A B lo hi ex : Int32) : f_X1_multiply (r, ln, cy, ce, A, B, lo, hi, ex, 0) = (r, ln, cy, ce, A, B, ((0 : Int64) + (A.toInt64 * B.toInt64)).toInt32 &&& (65535 : Int32), ((((0 : Int64) + (A.toInt64 * B.toInt64)) >>> ((16 : Int32).toInt64 &&& 63)).toInt32 &&& (65535 : Int32)), (if (lg_cmp ((0 : Int64) + (A.toInt64 * B.toInt64)) 4294967295) ≤ 0 then 0 else 1), 0) := by
  unfold f_X1_multiply
  dsimp only
  rw [if_pos (show ((0 : Int32) &&& (1 : Int32)) = 0 by decide), if_pos (show ((0 : Int32) &&& (2 : Int32)) = 0 by decide)]
  simp only [if_pos (show (0 : Int32) = 0 from rfl), if_neg (show ¬ (1 : Int32) = 0 by decide), if_true]
theorem mulC1 (r : Nat → Int32) (ln cy : Int32) (ce : Nat → Int64) (A B lo hi ex : Int32) : f_X1_multiply (r, ln, cy, ce, A, B, lo, hi, ex, 1) = (r, ln, cy, ce, A, B, ((0 : Int64) + (A.toInt16.toInt32.toInt64 * B.toInt16.toInt32.toInt64)).toInt32 &&& (65535 : Int32), ((((0 : Int64) + (A.toInt16.toInt32.toInt64 * B.toInt16.toInt32.toInt64)) >>> ((16 : Int32).toInt64 &&& 63)).toInt32 &&& (65535 : Int32)), (if (((((0 : Int64) + (A.toInt16.toInt32.toInt64 * B.toInt16.toInt32.toInt64)) >>> ((16 : Int32).toInt64 &&& 63)).toInt32 &&& (65535 : Int32)) &&& (32768 : Int32)) = 0 then 0 else 65535), 1) := by
  unfold f_X1_multiply
  dsimp only
  rw [if_neg (show ¬ ((1 : Int32) &&& (1 : Int32)) = 0 by decide), if_pos (show ((1 : Int32) &&& (2 : Int32)) = 0 by decide)]
  simp only [if_pos (show (0 : Int32) = 0 from rfl), if_neg (show ¬ (1 : Int32) = 0 by decide), if_true]
theorem mulC2 (r : Nat → Int32) (ln cy : Int32) (ce : Nat → Int64) (A B lo hi ex : Int32) : f_X1_multiply (r, ln, cy, ce, A, B, lo, hi, ex, 2) = (r, ln, cy, ce, A, B, (((hi.toInt64 <<< ((16 : Int32).toInt64 &&& 63)) ||| lo.toInt64) + (A.toInt64 * B.toInt64)).toInt32 &&& (65535 : Int32), (((((hi.toInt64 <<< ((16 : Int32).toInt64 &&& 63)) ||| lo.toInt64) + (A.toInt64 * B.toInt64)) >>> ((16 : Int32).toInt64 &&& 63)).toInt32 &&& (65535 : Int32)), (if (lg_cmp (((hi.toInt64 <<< ((16 : Int32).toInt64 &&& 63)) ||| lo.toInt64) + (A.toInt64 * B.toInt64)) 4294967295) ≤ 0 then 0 else 1), 2) := by
  unfold f_X1_multiply
  dsimp only
  rw [if_pos (show ((2 : Int32) &&& (1 : Int32)) = 0 by decide), if_neg (show ¬ ((2 : Int32) &&& (2 : Int32)) = 0 by decide)]
  simp only [if_pos (show (0 : Int32) = 0 from rfl), if_neg (show ¬ (1 : Int32) = 0 by decide), if_true]
theorem mulC3 (r : Nat → Int32) (ln cy : Int32) (ce : Nat → Int64) (A B lo hi ex : Int32) : f_X1_multiply (r, ln, cy, ce, A, B, lo, hi, ex, 3) = (r, ln, cy, ce, A, B, (((hi.toInt64 <<< ((16 : Int32).toInt64 &&& 63)) ||| lo.toInt64) + (A.toInt16.toInt32.toInt64 * B.toInt16.toInt32.toInt64)).toInt32 &&& (65535 : Int32), (((((hi.toInt64 <<< ((16 : Int32).toInt64 &&& 63)) ||| lo.toInt64) + (A.toInt16.toInt32.toInt64 * B.toInt16.toInt32.toInt64)) >>> ((16 : Int32).toInt64 &&& 63)).toInt32 &&& (65535 : Int32)), (if ((((((hi.toInt64 <<< ((16 : Int32).toInt64 &&& 63)) ||| lo.toInt64) + (A.toInt16.toInt32.toInt64 * B.toInt16.toInt32.toInt64)) >>> ((16 : Int32).toInt64 &&& 63)).toInt32 &&& (65535 : Int32)) &&& (32768 : Int32)) = 0 then 0 else 65535), 3) := by
  unfold f_X1_multiply
  dsimp only
  rw [if_neg (show ¬ ((3 : Int32) &&& (1 : Int32)) = 0 by decide), if_neg (show ¬ ((3 : Int32) &&& (2 : Int32)) = 0 by decide)]
  simp only [if_pos (show (0 : Int32) = 0 from rfl), if_neg (show ¬ (1 : Int32) = 0 by decide), if_true]
theorem mulR0 (wd r bb : Nat → Int32) (ln cy pt wh bs : Int32) : f_X3_product (wd, r, bb, 0, ln, cy, pt, wh, bs) = (wd, r, upd (upd (upd bb 2 (((0 : Int64) + (((bb 0).toInt64 * (bb 1).toInt64) &&& (4294967295 : Int64))) &&& (65535 : Int64)).toInt32) 3 ((((0 : Int64) + (((bb 0).toInt64 * (bb 1).toInt64) &&& (4294967295 : Int64))) >>> ((16 : Int32).toInt64 &&& 63)) &&& (65535 : Int64)).toInt32) 4 0, 0, ln, cy, pt, wh, bs) := by
  unfold f_X3_product
  dsimp only
  rw [if_pos (show ((0 : Int32) - (0 : Int32) / (2 : Int32) * (2 : Int32)) = 0 by decide), if_pos (show ((0 : Int32) - (0 : Int32) / (2 : Int32) * (2 : Int32)) = 0 by decide), if_neg (show ¬ 2 ≤ (0 : Int32) by decide), if_neg (show ¬ (0 : Int32) = 2 by decide), if_neg (show ¬ ((0 : Int32) - (0 : Int32) / (2 : Int32) * (2 : Int32)) = 1 by decide)]
  rfl
theorem mulR1 (wd r bb : Nat → Int32) (ln cy pt wh bs : Int32) : f_X3_product (wd, r, bb, 1, ln, cy, pt, wh, bs) = (wd, r, upd (upd (upd bb 2 (((0 : Int64) + (((bb 0).toInt16.toInt32.toInt64 * (bb 1).toInt16.toInt32.toInt64) &&& (4294967295 : Int64))) &&& (65535 : Int64)).toInt32) 3 ((((0 : Int64) + (((bb 0).toInt16.toInt32.toInt64 * (bb 1).toInt16.toInt32.toInt64) &&& (4294967295 : Int64))) >>> ((16 : Int32).toInt64 &&& 63)) &&& (65535 : Int64)).toInt32) 4 (if 0 ≤ (lg_cmp ((bb 0).toInt16.toInt32.toInt64 * (bb 1).toInt16.toInt32.toInt64) 0) then 0 else 65535), 1, ln, cy, pt, wh, bs) := by
  unfold f_X3_product
  dsimp only
  rw [if_neg (show ¬ ((1 : Int32) - (1 : Int32) / (2 : Int32) * (2 : Int32)) = 0 by decide), if_neg (show ¬ ((1 : Int32) - (1 : Int32) / (2 : Int32) * (2 : Int32)) = 0 by decide), if_neg (show ¬ 2 ≤ (1 : Int32) by decide), if_neg (show ¬ (1 : Int32) = 2 by decide), if_pos (show ((1 : Int32) - (1 : Int32) / (2 : Int32) * (2 : Int32)) = 1 by decide), if_pos (show (1 : Int32) = 1 by decide)]
  rfl
theorem mulR2 (wd r bb : Nat → Int32) (ln cy pt wh bs : Int32) : f_X3_product (wd, r, bb, 2, ln, cy, pt, wh, bs) = (wd, r, upd (upd (upd bb 2 (((((bb 3).toInt64 <<< ((16 : Int32).toInt64 &&& 63)) ||| (bb 2).toInt64) + (((bb 0).toInt64 * (bb 1).toInt64) &&& (4294967295 : Int64))) &&& (65535 : Int64)).toInt32) 3 ((((((bb 3).toInt64 <<< ((16 : Int32).toInt64 &&& 63)) ||| (bb 2).toInt64) + (((bb 0).toInt64 * (bb 1).toInt64) &&& (4294967295 : Int64))) >>> ((16 : Int32).toInt64 &&& 63)) &&& (65535 : Int64)).toInt32) 4 (((((bb 3).toInt64 <<< ((16 : Int32).toInt64 &&& 63)) ||| (bb 2).toInt64) + (((bb 0).toInt64 * (bb 1).toInt64) &&& (4294967295 : Int64))) >>> ((32 : Int32).toInt64 &&& 63)).toInt32, 2, ln, cy, pt, wh, bs) := by
  unfold f_X3_product
  dsimp only
  rw [if_pos (show ((2 : Int32) - (2 : Int32) / (2 : Int32) * (2 : Int32)) = 0 by decide), if_pos (show ((2 : Int32) - (2 : Int32) / (2 : Int32) * (2 : Int32)) = 0 by decide), if_pos (show 2 ≤ (2 : Int32) by decide), if_pos (show (2 : Int32) = 2 by decide)]
  rfl
theorem mulR3 (wd r bb : Nat → Int32) (ln cy pt wh bs : Int32) : f_X3_product (wd, r, bb, 3, ln, cy, pt, wh, bs) = (wd, r, upd (upd (upd bb 2 (((((bb 3).toInt64 <<< ((16 : Int32).toInt64 &&& 63)) ||| (bb 2).toInt64) + (((bb 0).toInt16.toInt32.toInt64 * (bb 1).toInt16.toInt32.toInt64) &&& (4294967295 : Int64))) &&& (65535 : Int64)).toInt32) 3 ((((((bb 3).toInt64 <<< ((16 : Int32).toInt64 &&& 63)) ||| (bb 2).toInt64) + (((bb 0).toInt16.toInt32.toInt64 * (bb 1).toInt16.toInt32.toInt64) &&& (4294967295 : Int64))) >>> ((16 : Int32).toInt64 &&& 63)) &&& (65535 : Int64)).toInt32) 4 (if ((((((bb 3).toInt64 <<< ((16 : Int32).toInt64 &&& 63)) ||| (bb 2).toInt64) + (((bb 0).toInt16.toInt32.toInt64 * (bb 1).toInt16.toInt32.toInt64) &&& (4294967295 : Int64))) >>> ((16 : Int32).toInt64 &&& 63)) &&& (65535 : Int64)).toInt32 ≤ 32767 then 0 else 65535), 3, ln, cy, pt, wh, bs) := by
  unfold f_X3_product
  dsimp only
  rw [if_neg (show ¬ ((3 : Int32) - (3 : Int32) / (2 : Int32) * (2 : Int32)) = 0 by decide), if_neg (show ¬ ((3 : Int32) - (3 : Int32) / (2 : Int32) * (2 : Int32)) = 0 by decide), if_pos (show 2 ≤ (3 : Int32) by decide), if_neg (show ¬ (3 : Int32) = 2 by decide), if_pos (show ((3 : Int32) - (3 : Int32) / (2 : Int32) * (2 : Int32)) = 1 by decide), if_neg (show ¬ (3 : Int32) = 1 by decide)]
  rfl
theorem t_product {τ : StR} {ce : Nat → Int64} (hi : invR τ) : f_X1_multiply (toC τ ce) = toC (f_X3_product τ) ce := by
  obtain ⟨wd, r, bb, how, ln, cy, pt, wh, bs⟩ := τ
  obtain ⟨w, hw, ew⟩ := vp_in_of hi.2.2 (by decide)
  obtain ⟨a, ha, ea⟩ := vp_in_of (hi.2.1 0 (by decide)) (by decide)
  obtain ⟨b, hb, eb⟩ := vp_in_of (hi.2.1 1 (by decide)) (by decide)
  obtain ⟨lo, hlo, elo⟩ := vp_in_of (hi.2.1 2 (by decide)) (by decide)
  obtain ⟨hh, hhh, eh⟩ := vp_in_of (hi.2.1 3 (by decide)) (by decide)
  dsimp only at ew ea eb elo eh
  have hab : a * b < 2 ^ 32 := by
    have : a * b ≤ 65535 * 65535 := Nat.mul_le_mul (by omega) (by omega)
    omega
  have eab : (bb 0).toInt64 * (bb 1).toInt64 = lN (a * b) := by rw [ea, eb, nI_l (by omega), nI_l (by omega), lN_mul]
  have ehd : ((bb 3).toInt64 <<< ((16 : Int32).toInt64 &&& 63)) ||| (bb 2).toInt64 = lN (hh * 65536 + lo) := by rw [eh, elo]; exact had_n hhh hlo
  have l0 : (0 : Int64) = lN 0 := by decide
  have key : ∀ (d n : Nat) (X Y : Int64) (ex1 ex2 : Int32), Y = lN d → d < 2 ^ 32 → X = lN n → n < 2 ^ 64 → ex1 = ex2 → (r, ln, cy, ce, bb 0, bb 1, (Y + X).toInt32 &&& (65535 : Int32), ((Y + X) >>> ((16 : Int32).toInt64 &&& 63)).toInt32 &&& (65535 : Int32), ex1, how) = toC (wd, r, upd (upd (upd bb 2 ((Y + (X &&& (4294967295 : Int64))) &&& (65535 : Int64)).toInt32) 3 (((Y + (X &&& (4294967295 : Int64))) >>> ((16 : Int32).toInt64 &&& 63)) &&& (65535 : Int64)).toInt32) 4 ex2, how, ln, cy, pt, wh, bs) ce := by
    intro d n X Y ex1 ex2 hY hd hX hn he
    subst hX
    subst hY
    rw [mul_lo hd hn, (mul_hi hd hn).1, he]
    rfl
  show f_X1_multiply (r, ln, cy, ce, bb 0, bb 1, bb 2, bb 3, bb 4, how) = _
  obtain ⟨n, hn, en⟩ := wb_of ((bb 0).toInt16.toInt32.toInt64 * (bb 1).toInt16.toInt32.toInt64)
  have hsm := s16_mul (bb 0) (bb 1)
  rw [en, lN_ti hn] at hsm
  rcases (show w = 0 ∨ w = 1 ∨ w = 2 ∨ w = 3 by omega) with rfl | rfl | rfl | rfl
  · obtain rfl : how = 0 := ew
    rw [mulC0, mulR0]
    refine key 0 (a * b) _ _ _ _ l0 (by decide) eab (by omega) ?_
    rw [eab, l0, lN_add, if_pos]
    rw [cmp_le, pf_lI (by omega)]
    show _ ≤ (4294967295 : Int)
    omega
  · obtain rfl : how = 1 := ew
    rw [mulC1, mulR1]
    refine key 0 n _ _ _ _ l0 (by decide) en hn ?_
    have hc : (((0 : Int64) + ((bb 0).toInt16.toInt32.toInt64 * (bb 1).toInt16.toInt32.toInt64)) >>> ((16 : Int32).toInt64 &&& 63)).toInt32 &&& (65535 : Int32) = nI (n / 65536 % 65536) := by
      rw [en, l0, (mul_hi (by decide) hn).1, (mul_hi (by decide) hn).2, Nat.zero_add]
    rw [hc]
    have hge : 0 ≤ lg_cmp ((bb 0).toInt16.toInt32.toInt64 * (bb 1).toInt16.toInt32.toInt64) 0 ↔ n < 2 ^ 63 := by
      rw [cmp_ge, en, lN_ti hn]
      show (0 : Int) ≤ _ ↔ _
      split <;> omega
    have hbt := bit15 (h := n / 65536 % 65536) (Nat.mod_lt _ (by decide))
    by_cases hneg : n < 2 ^ 63
    · rw [if_pos hneg] at hsm
      rw [if_pos (hge.mpr hneg), if_pos (hbt.mpr (by omega))]
    · rw [if_neg hneg] at hsm
      rw [if_neg (fun q => hneg (hge.mp q)), if_neg (fun q => by have := hbt.mp q; omega)]
  · obtain rfl : how = 2 := ew
    rw [mulC2, mulR2]
    refine key (hh * 65536 + lo) (a * b) _ _ _ _ ehd (by omega) eab (by omega) ?_
    rw [eab, ehd, show (4294967295 : Int64) = lN (2 ^ 32 - 1) by decide, wb_mask (by omega) (by decide), Nat.mod_eq_of_lt hab, lN_add, pf_shr (d := 32) (by decide) (by omega), lN_i]
    have hle : lg_cmp (lN (hh * 65536 + lo + a * b)) (lN (2 ^ 32 - 1)) ≤ 0 ↔ hh * 65536 + lo + a * b ≤ 2 ^ 32 - 1 := by
      rw [cmp_le, pf_lI (by omega), pf_lI (by decide)]
      omega
    by_cases hq : hh * 65536 + lo + a * b ≤ 2 ^ 32 - 1
    · rw [if_pos (hle.mpr hq), Nat.div_eq_of_lt (by omega)]
      rfl
    · rw [if_neg (fun z => hq (hle.mp z)), show (hh * 65536 + lo + a * b) / 2 ^ 32 = 1 by omega]
      rfl
  · obtain rfl : how = 3 := ew
    rw [mulC3, mulR3]
    refine key (hh * 65536 + lo) n _ _ _ _ ehd (by omega) en hn ?_
    rw [en, ehd, (mul_hi (by omega) hn).1, (mul_hi (by omega) hn).2]
    have hbt := bit15 (h := (hh * 65536 + lo + n) / 65536 % 65536) (Nat.mod_lt _ (by decide))
    have hle : nI ((hh * 65536 + lo + n) / 65536 % 65536) ≤ 32767 ↔ (hh * 65536 + lo + n) / 65536 % 65536 ≤ 32767 := nI_leI (b := 32767) (by omega) (by decide)
    by_cases hq : (hh * 65536 + lo + n) / 65536 % 65536 ≤ 32767
    · rw [if_pos (hbt.mpr hq), if_pos (hle.mpr hq)]
    · rw [if_neg (fun z => hq (hbt.mp z)), if_neg (fun z => hq (hle.mp z))]
