/-! the tie of the class to the reference: the class's state is read off the reference's, but for the memory -/
def toC (τ : StR) (ce : Nat → Int64) : StC := (τ.2.1, τ.2.2.2.2.1, τ.2.2.2.2.2.1, ce, τ.2.2.1 0, τ.2.2.1 1, τ.2.2.1 2, τ.2.2.1 3, τ.2.2.1 4, τ.2.2.2.1)
/-- the word at 2 j, out of the class's cells -/
def wordC (ce : Nat → Int64) (j : Nat) : Int32 := (((ce (j / 4)).toUInt64 >>> ((nI (j % 4 * 16)).toInt64.toUInt64 &&& Int64.toUInt64 63)).toInt64).toInt32 &&& 65535
def memR (ce : Nat → Int64) (wd : Nat → Int32) : Prop := ∀ j, j < 32768 → wordC ce j = wd j &&& 65535
/-- what holds of the reference between calls, beside okR -/
def invR (τ : StR) : Prop := τ.2.1 3 = 0 ∧ (∀ k, k < 5 → vp_in (τ.2.2.1 k) 65536) ∧ vp_in τ.2.2.2.1 4
def Rel (σ : StC) (τ : StR) : Prop := ∃ ce, σ = toC τ ce ∧ memR ce τ.1 ∧ okR τ ∧ invR τ
theorem and15 {a : Int32} (h : vp_in a 16) : a &&& 15 = a := by
  obtain ⟨j, hj, rfl⟩ := vp_in_of h (by decide)
  rw [pk_andN (by omega) 4 (by decide), Nat.mod_eq_of_lt (by omega)]
theorem and_hi (j m k : Nat) : j &&& (m * 2 ^ k) = (j / 2 ^ k &&& m) * 2 ^ k := by
  apply Nat.eq_of_testBit_eq
  intro i
  rw [Nat.testBit_and, Nat.testBit_mul_two_pow, Nat.testBit_mul_two_pow, Nat.testBit_and, Nat.testBit_div_two_pow]
  by_cases h : k ≤ i
  · simp [h, Nat.sub_add_cancel h]
  · simp [h]
theorem nI_and6 (j : Nat) : nI j &&& 6 = nI (j / 2 % 4 * 2) := by
  show nI j &&& nI 6 = _
  rw [nx_and, show (6 : Nat) = 3 * 2 ^ 1 from rfl, and_hi, show (3 : Nat) = 2 ^ 2 - 1 from rfl, Nat.and_two_pow_sub_one_eq_mod]
theorem nI_and65520 {j : Nat} (h : j < 65536) : nI j &&& 65520 = nI (j / 16 * 16) := by
  show nI j &&& nI 65520 = _
  rw [nx_and, show (65520 : Nat) = 4095 * 2 ^ 4 from rfl, and_hi, show (4095 : Nat) = 2 ^ 12 - 1 from rfl, Nat.and_two_pow_sub_one_eq_mod, Nat.mod_eq_of_lt (by omega)]
theorem isMul_eq {a : Int32} (h : vp_in a 65536) : f_X0_isMultiplier a = f_X3_isMultiplier a := by
  obtain ⟨j, hj, rfl⟩ := vp_in_of h (by decide)
  unfold f_X0_isMultiplier f_X3_isMultiplier
  rw [nI_and65520 hj]
  have e1 : (nI (j / 16 * 16) = 304) ↔ j / 16 * 16 = 304 := nI_eq (b := 304) (by omega) (by omega)
  have e2 : (nI j < 304) ↔ j < 304 := nI_ltI (b := 304) (by omega) (by omega)
  have e3 : (320 ≤ nI j) ↔ 320 ≤ j := nI_leI (a := 320) (by omega) (by omega)
  by_cases h1 : j < 304
  · rw [if_neg (by rw [e1]; omega), if_pos (e2.mpr h1)]
  · by_cases h2 : 320 ≤ j
    · rw [if_neg (by rw [e1]; omega), if_neg (by rw [e2]; exact h1), if_pos (e3.mpr h2)]
    · rw [if_pos (e1.mpr (by omega)), if_neg (by rw [e2]; exact h1), if_neg (by rw [e3]; exact h2)]
theorem isMul_j {j : Nat} (hj : j < 65536) (h : ¬ f_X3_isMultiplier (nI j) = 0) : 304 ≤ j ∧ j < 320 := by
  unfold f_X3_isMultiplier at h
  have e2 : (nI j < 304) ↔ j < 304 := nI_ltI (b := 304) (by omega) (by omega)
  have e3 : (320 ≤ nI j) ↔ 320 ≤ j := nI_leI (a := 320) (by omega) (by omega)
  split at h
  · exact absurd rfl h
  · rename_i c1
    split at h
    · exact absurd rfl h
    · rename_i c2
      rw [e2] at c1
      rw [e3] at c2
      omega
theorem slot_tab : ∀ j, j < 320 → 304 ≤ j → f_X0_slotOf (nI j) = nI ((j - 304) / 2) ∧ (nI j - 304) / 2 = nI ((j - 304) / 2) ∧ f_X3_which (nI j) = nI (if j < 312 then 0 else (j - 304) / 2 - 3) := by decide +kernel
theorem shr1 {j : Nat} (hj : j < 65536) : nI j >>> (1 &&& 31) = nI (j / 2) := by
  rw [pk_shrN (by omega) _ 1 (by decide)]
theorem cell_ix {j : Nat} (hj : j < 65536) : f_X0_cellOf (nI j) = nI (j / 2 / 4) := by
  unfold f_X0_cellOf
  rw [nx_m16 hj, pk_shrN (by omega) _ 3 (by decide), Nat.div_div_eq_div_mul]
theorem cell_sh (j : Nat) : (nI j &&& 6) * 8 = nI (j / 2 % 4 * 16) := by
  rw [nI_and6, show (8 : Int32) = nI 8 by decide, pk_mul, Nat.mul_assoc]
theorem t_wordAt {τ : StR} {ce : Nat → Int64} {a : Int32} (ha : vp_in a 65536) (hm : memR ce τ.1) : f_X0_wordAt (toC τ ce) a = f_X3_wordAt τ a := by
  unfold f_X0_wordAt f_X3_wordAt
  dsimp only
  rw [isMul_eq ha]
  obtain ⟨j, hj, rfl⟩ := vp_in_of ha (by decide)
  by_cases h : f_X3_isMultiplier (nI j) = 0
  · rw [if_pos h, if_pos h, cell_ix hj, cell_sh, nI_clamp (by omega), shr1 hj, nI_clamp (by omega)]
    exact hm (j / 2) (by omega)
  · rw [if_neg h, if_neg h]
    obtain ⟨h1, h2⟩ := isMul_j hj h
    obtain ⟨e1, -, e3⟩ := slot_tab j h2 h1
    rw [e1, e3]
    have hs : (j - 304) / 2 < 8 := by omega
    by_cases h312 : j < 312
    · rw [if_pos h312]
      have : (j - 304) / 2 = 0 ∨ (j - 304) / 2 = 1 ∨ (j - 304) / 2 = 2 ∨ (j - 304) / 2 = 3 := by omega
      rcases this with q | q | q | q <;> rw [q] <;> rfl
    · rw [if_neg h312]
      have : (j - 304) / 2 = 4 ∨ (j - 304) / 2 = 5 ∨ (j - 304) / 2 = 6 ∨ (j - 304) / 2 = 7 := by omega
      rcases this with q | q | q | q <;> rw [q] <;> rfl
/-- the word is of 16 bits -/
theorem in_wordAt {τ : StR} {a : Int32} (ha : vp_in a 65536) (hi : invR τ) : vp_in (f_X3_wordAt τ a) 65536 := by
  unfold f_X3_wordAt
  dsimp only
  split
  · exact and35_in _
  · rename_i h
    have h5 := which_in h
    obtain ⟨j, hj, e⟩ := vp_in_of h5 (by decide)
    rw [e, nI_clamp (by omega)]
    exact hi.2.1 j hj
theorem t_setRegister {τ : StR} {ce : Nat → Int64} {a v : Int32} (ha : vp_in a 16) : f_X2_setRegister (toC τ ce) a v = toC (f_X3_setRegister τ a v) ce := by
  unfold f_X2_setRegister f_X3_setRegister
  dsimp only
  rw [and15 ha]
  by_cases h3 : a = 3
  · rw [if_pos h3, if_pos h3]
  · rw [if_neg h3, if_neg h3]
    by_cases h0 : a = 0
    · rw [if_pos h0, if_pos h0]; rfl
    · rw [if_neg h0, if_neg h0]; rfl
theorem t_spend {τ : StR} {ce : Nat → Int64} {n : Int32} : f_X2_spend (toC τ ce) n = toC (f_X3_spend τ n) ce := rfl
/-! one word of a cell, the others stay -/
theorem cell_nat {n v s t : Nat} (hn : n < 2 ^ 64) (hv : v < 65536) (hs : s = 0 ∨ s = 16 ∨ s = 32 ∨ s = 48) (ht : t = 0 ∨ t = 16 ∨ t = 32 ∨ t = 48) : ((n &&& ((65535 * 2 ^ s) ^^^ (2 ^ 64 - 1))) ||| (v * 2 ^ s)) / 2 ^ t % 2 ^ 16 = if s = t then v else n / 2 ^ t % 2 ^ 16 := by
  have hv' : v < 2 ^ 16 := hv
  apply Nat.eq_of_testBit_eq
  intro i
  rw [Nat.testBit_mod_two_pow, Nat.testBit_div_two_pow, Nat.testBit_or, Nat.testBit_and, Nat.testBit_xor, Nat.testBit_mul_two_pow, Nat.testBit_mul_two_pow, Nat.testBit_two_pow_sub_one, show (65535 : Nat) = 2 ^ 16 - 1 from rfl, Nat.testBit_two_pow_sub_one]
  by_cases hi : i < 16
  · by_cases hst : s = t
    · subst hst
      rw [if_pos rfl]
      have h1 : s ≤ i + s := by omega
      have h2 : i + s - s < 16 := by omega
      have h3 : i + s < 64 := by omega
      simp [hi, h1, h2, h3]
    · rw [if_neg hst, Nat.testBit_mod_two_pow, Nat.testBit_div_two_pow]
      by_cases hle : s ≤ i + t
      · have h2 : ¬ i + t - s < 16 := by omega
        have h3 : i + t < 64 := by omega
        have h4 : v.testBit (i + t - s) = false := Nat.testBit_lt_two_pow (Nat.lt_of_lt_of_le hv' (Nat.pow_le_pow_right (by decide) (by omega)))
        simp [hi, hle, h2, h3, h4]
      · have h3 : i + t < 64 := by omega
        simp [hi, hle, h3]
  · split
    · have h4 : v.testBit i = false := Nat.testBit_lt_two_pow (Nat.lt_of_lt_of_le hv' (Nat.pow_le_pow_right (by decide) (by omega)))
      simp [hi, h4]
    · rw [Nat.testBit_mod_two_pow]
      simp [hi]
theorem wordC_n {ce : Nat → Int64} {j n : Nat} (hn : n < 2 ^ 64) (h : ce (j / 4) = lN n) : wordC ce j = nI (n / 2 ^ (j % 4 * 16) % 2 ^ 16) := by
  unfold wordC
  rw [h, wb_shr hn (by omega), lN_i, nx_mod]
def putC (x : Int64) (s : Nat) (v : Int32) : Int64 := (x &&& (((65535 : Int64) <<< ((nI s).toInt64 &&& 63)) ^^^ (-1))) ||| (v.toInt64 <<< ((nI s).toInt64 &&& 63))
theorem putC_n {n v s : Nat} (hn : n < 2 ^ 64) (hv : v < 65536) (hs : s = 0 ∨ s = 16 ∨ s = 32 ∨ s = 48) : putC (lN n) s (nI v) = lN ((n &&& ((65535 * 2 ^ s) ^^^ (2 ^ 64 - 1))) ||| (v * 2 ^ s)) ∧ (n &&& ((65535 * 2 ^ s) ^^^ (2 ^ 64 - 1))) ||| (v * 2 ^ s) < 2 ^ 64 := by
  have hs2 : s < 64 := by omega
  have hp : 65535 * 2 ^ s < 2 ^ 64 := by rcases hs with rfl | rfl | rfl | rfl <;> decide
  have hp2 : v * 2 ^ s < 2 ^ 64 := by
    have : v * 2 ^ s ≤ 65535 * 2 ^ s := Nat.mul_le_mul_right _ (by omega)
    omega
  have hx : (65535 * 2 ^ s) ^^^ (2 ^ 64 - 1) < 2 ^ 64 := Nat.xor_lt_two_pow hp (by decide)
  have ha : n &&& ((65535 * 2 ^ s) ^^^ (2 ^ 64 - 1)) < 2 ^ 64 := Nat.and_lt_two_pow _ hx
  refine ⟨?_, Nat.or_lt_two_pow ha hp2⟩
  unfold putC
  rw [show (65535 : Int64) = lN 65535 by decide, show (-1 : Int64) = lN (2 ^ 64 - 1) by decide, wb_shl _ hs2, lN_xor, wb_and hn hx, nI_l (by omega), wb_shl _ hs2, wb_or ha hp2]
theorem wordC_put {ce : Nat → Int64} {i j v : Nat} (hv : v < 65536) : wordC (vp_updL ce (i / 4) (putC (ce (i / 4)) (i % 4 * 16) (nI v))) j = if j = i then nI v else wordC ce j := by
  obtain ⟨n, hn, e⟩ := wb_of (ce (i / 4))
  have hs : i % 4 * 16 = 0 ∨ i % 4 * 16 = 16 ∨ i % 4 * 16 = 32 ∨ i % 4 * 16 = 48 := by omega
  have ht : j % 4 * 16 = 0 ∨ j % 4 * 16 = 16 ∨ j % 4 * 16 = 32 ∨ j % 4 * 16 = 48 := by omega
  by_cases hc : j / 4 = i / 4
  · obtain ⟨p1, p2⟩ := putC_n hn hv hs
    rw [wordC_n p2 (by rw [hc, pk_uLs, e, p1]), cell_nat hn hv hs ht]
    by_cases hij : j = i
    · subst hij
      rw [if_pos rfl, if_pos rfl]
    · rw [if_neg hij, if_neg (by omega), wordC_n hn (by rw [hc]; exact e)]
  · rw [if_neg (by intro q; subst q; exact hc rfl)]
    unfold wordC
    rw [pk_uLn hc]
theorem bp_s (x : Int32) : x.toInt16.toInt32 &&& 65535 = x &&& 65535 := by
  apply Int32.toBitVec_inj.mp
  rw [Int32.toBitVec_and, Int32.toBitVec_and, Int16.toBitVec_toInt32, Int32.toBitVec_toInt16]
  apply BitVec.eq_of_getLsbD_eq
  intro i hi
  rw [BitVec.getLsbD_and, BitVec.getLsbD_and]
  have hm : ∀ i < 32, 16 ≤ i → (65535 : Int32).toBitVec.getLsbD i = false := by decide
  rcases Nat.lt_or_ge i 16 with z | z
  · rw [BitVec.getLsbD_signExtend, BitVec.getLsbD_signExtend, if_pos z, if_pos hi]
    simp only [z, hi, decide_true, Bool.true_and]
  · rw [hm i hi z]; simp
theorem short_and {v : Int32} (hv : vp_in v 65536) : vp_nar .short v.toInt16.toInt32 &&& 65535 = v := by
  rw [pk_vs, bp_s, in16_iff.mp hv]
theorem t_placeWord {ce : Nat → Int64} {a v : Int32} (ha : vp_in a 65536) (hv : vp_in v 65536) : ∃ ce', (∀ τ : StR, f_X0_placeWord (toC τ ce) a v = toC τ ce') ∧ ∀ wd, memR ce wd → memR ce' (upd wd (a >>> ((1 : Int32) &&& 31)).toNatClampNeg (vp_nar .short v.toInt16.toInt32)) := by
  obtain ⟨j, hj, rfl⟩ := vp_in_of ha (by decide)
  obtain ⟨w, hw, e⟩ := vp_in_of hv (by decide)
  refine ⟨vp_updL ce (j / 2 / 4) (putC (ce (j / 2 / 4)) (j / 2 % 4 * 16) v), fun τ => ?_, fun wd hm i hi => ?_⟩
  · unfold f_X0_placeWord
    dsimp only
    rw [cell_ix hj, cell_sh, nI_clamp (by omega)]
    rfl
  · rw [shr1 hj, nI_clamp (by omega)]
    by_cases hij : i = j / 2
    · subst hij
      rw [pk_us, short_and hv, e, wordC_put hw, if_pos rfl]
    · rw [pk_un hij, e, wordC_put hw, if_neg hij]
      exact hm i hi
theorem t_byteAt {τ : StR} {ce : Nat → Int64} {a : Int32} (ha : vp_in a 65536) (hm : memR ce τ.1) (hi : invR τ) : f_X0_byteAt (toC τ ce) a = f_X3_byteAt τ a := by
  unfold f_X0_byteAt f_X3_byteAt
  dsimp only
  rw [t_wordAt ha hm]
  obtain ⟨w, hw, e⟩ := vp_in_of (in_wordAt ha hi) (by decide)
  rw [e]
  obtain ⟨j, hj, rfl⟩ := vp_in_of ha (by decide)
  have e1 : nI j &&& 1 = nI (j % 2 ^ 1) := pk_andN (by omega) 1 (by decide)
  rw [e1]
  rcases (show j % 2 ^ 1 = 0 ∨ j % 2 ^ 1 = 1 by omega) with q | q
  · rw [q, if_pos nI_0, pk_shrN (by omega) _ 0 (by decide), Nat.pow_zero, Nat.div_one]
  · rw [q, if_neg (by decide), pk_shrN (by omega) _ 8 (by decide), pk_shrN (by omega) _ 8 (by decide), pk_andN (by omega) 8 (by decide), Nat.mod_eq_of_lt (by omega)]
theorem in_byteAt {τ : StR} {a : Int32} : vp_in (f_X3_byteAt τ a) 256 := by
  unfold f_X3_byteAt
  dsimp only
  exact pk_andIn _ 8 (by decide) (by decide)
/-! writes -/
theorem in_8_16 {x : Int32} (h : vp_in x 256) : vp_in x 65536 := by
  rw [vp_in_iff] at h ⊢
  omega
theorem in_withByte {w a b : Int32} (hw : vp_in w 65536) (hb : vp_in b 256) : vp_in (f_X3_withByte w a b) 65536 := by
  unfold f_X3_withByte
  split
  · exact or_in (and_in hw) (in_8_16 hb)
  · refine or_in (and_in hw) ?_
    obtain ⟨j, hj, rfl⟩ := vp_in_of hb (by decide)
    rw [pk_shlN _ 8 (by decide) (by omega)]
    exact vp_in_nI (by omega) (by decide)
theorem R_setRegister {σ : StC} {τ : StR} {a v : Int32} (ha : vp_in a 16) (h : Rel σ τ) : Rel (f_X2_setRegister σ a v) (f_X3_setRegister τ a v) := by
  obtain ⟨ce, rfl, hm, ho, hi⟩ := h
  refine ⟨ce, t_setRegister ha, ?_, ok_X3_setRegister ho, ?_⟩
  · unfold f_X3_setRegister
    split
    · exact hm
    · exact hm
  · unfold f_X3_setRegister
    split
    · exact hi
    · rename_i h3
      refine ⟨?_, hi.2⟩
      obtain ⟨j, hj, rfl⟩ := vp_in_of ha (by decide)
      have hne : 3 ≠ j := fun q => h3 (by rw [← q]; rfl)
      show upd τ.2.1 (nI j).toNatClampNeg _ 3 = 0
      rw [nI_clamp (by omega), pk_un hne]
      exact hi.1
theorem R_spend {σ : StC} {τ : StR} {n : Int32} (h : Rel σ τ) : Rel (f_X2_spend σ n) (f_X3_spend τ n) := by
  obtain ⟨ce, rfl, hm, ho, hi⟩ := h
  exact ⟨ce, t_spend, hm, ok_X3_spend ho, hi⟩
