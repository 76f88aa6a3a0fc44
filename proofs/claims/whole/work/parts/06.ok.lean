def bt (x : Int32) (i : Nat) : Bool := x.toBitVec.getLsbD i
theorem b_ext {x y : Int32} (h : ∀ i, i < 32 → bt x i = bt y i) : x = y := Int32.toBitVec_inj.mp (BitVec.eq_of_getLsbD_eq (fun i hi => h i hi))
theorem b_or (x y : Int32) (i : Nat) : bt (x ||| y) i = (bt x i || bt y i) := by unfold bt; rw [Int32.toBitVec_or, BitVec.getLsbD_or]
theorem b_and (x y : Int32) (i : Nat) : bt (x &&& y) i = (bt x i && bt y i) := by unfold bt; rw [Int32.toBitVec_and, BitVec.getLsbD_and]
theorem b_xor (x y : Int32) (i : Nat) : bt (x ^^^ y) i = (bt x i ^^ bt y i) := by unfold bt; rw [Int32.toBitVec_xor, BitVec.getLsbD_xor]
theorem b_big {x : Int32} {i : Nat} (h : 32 ≤ i) : bt x i = false := BitVec.getLsbD_of_ge _ _ h
theorem b_255 (i : Nat) : bt 255 i = decide (i < 8) := by
  rcases Nat.lt_or_ge i 32 with h | h
  · exact (by decide +kernel : ∀ i, i < 32 → bt 255 i = decide (i < 8)) i h
  · rw [b_big h, decide_eq_false (by omega)]
theorem b_65535 (i : Nat) : bt 65535 i = decide (i < 16) := by
  rcases Nat.lt_or_ge i 32 with h | h
  · exact (by decide +kernel : ∀ i, i < 32 → bt 65535 i = decide (i < 16)) i h
  · rw [b_big h, decide_eq_false (by omega)]
theorem b_m1 : ∀ i, i < 32 → bt (-1) i = true := by decide +kernel
theorem b_0 (i : Nat) : bt 0 i = false := BitVec.getLsbD_zero
theorem s_l : ∀ n, n < 32 → ((nI n &&& 31).toBitVec.smod 32).toNat = n := by decide +kernel
theorem s_u : ∀ n, n < 32 → (((nI n).toUInt32 &&& Int32.toUInt32 31).toBitVec % 32).toNat = n := by decide +kernel
theorem b_shl (n : Nat) (hn : n < 32) (x : Int32) {i : Nat} (hi : i < 32) : bt (x <<< (nI n &&& 31)) i = (decide (n ≤ i) && bt x (i - n)) := by
  unfold bt
  rw [Int32.toBitVec_shiftLeft]
  show (x.toBitVec <<< ((nI n &&& 31).toBitVec.smod 32).toNat).getLsbD i = _
  rw [s_l n hn, BitVec.getLsbD_shiftLeft]
  rcases Nat.lt_or_ge i n with h | h
  · simp [h, Nat.not_le.mpr h]
  · simp [hi, h, Nat.not_lt.mpr h]
theorem b_ushr (n : Nat) (hn : n < 32) (x : Int32) (i : Nat) : bt ((x.toUInt32 >>> ((nI n).toUInt32 &&& Int32.toUInt32 31)).toInt32) i = bt x (n + i) := by
  show (x.toUInt32 >>> ((nI n).toUInt32 &&& Int32.toUInt32 31)).toBitVec.getLsbD i = x.toUInt32.toBitVec.getLsbD (n + i)
  rw [UInt32.toBitVec_shiftRight]
  show (x.toUInt32.toBitVec >>> (((nI n).toUInt32 &&& Int32.toUInt32 31).toBitVec % 32).toNat).getLsbD i = _
  rw [s_u n hn, BitVec.getLsbD_ushiftRight]
theorem b_sshr (n : Nat) (hn : n < 32) (x : Int32) {i : Nat} (hi : i < 32) : bt (x >>> (nI n &&& 31)) i = if n + i < 32 then bt x (n + i) else bt x 31 := by
  unfold bt
  rw [Int32.toBitVec_shiftRight]
  show (x.toBitVec.sshiftRight ((nI n &&& 31).toBitVec.smod 32).toNat).getLsbD i = _
  rw [s_l n hn, BitVec.getLsbD_sshiftRight, BitVec.msb_eq_getLsbD_last]
  simp [hi]
theorem b_shl8 (x : Int32) {i : Nat} (hi : i < 32) : bt (x <<< ((8 : Int32) &&& 31)) i = (decide (8 ≤ i) && bt x (i - 8)) := b_shl 8 (by omega) x hi
theorem b_shl16 (x : Int32) {i : Nat} (hi : i < 32) : bt (x <<< ((16 : Int32) &&& 31)) i = (decide (16 ≤ i) && bt x (i - 16)) := b_shl 16 (by omega) x hi
theorem b_shl24 (x : Int32) {i : Nat} (hi : i < 32) : bt (x <<< ((24 : Int32) &&& 31)) i = (decide (24 ≤ i) && bt x (i - 24)) := b_shl 24 (by omega) x hi
theorem b_sshr8 (x : Int32) {i : Nat} (hi : i < 32) : bt (x >>> ((8 : Int32) &&& 31)) i = if 8 + i < 32 then bt x (8 + i) else bt x 31 := b_sshr 8 (by omega) x hi
/-! ===== nI under and, xor, >>>, one bit, 65535 ===== -/
theorem nx_and (a b : Nat) : nI a &&& nI b = nI (a &&& b) := by
  apply Int32.toBitVec_inj.1
  show BitVec.ofNat 32 a &&& BitVec.ofNat 32 b = BitVec.ofNat 32 (a &&& b)
  apply BitVec.eq_of_getLsbD_eq
  intro i hi
  simp [hi]
theorem nx_xor (a b : Nat) : nI a ^^^ nI b = nI (a ^^^ b) := by
  apply Int32.toBitVec_inj.1
  show BitVec.ofNat 32 a ^^^ BitVec.ofNat 32 b = BitVec.ofNat 32 (a ^^^ b)
  apply BitVec.eq_of_getLsbD_eq
  intro i hi
  simp [hi]
theorem nx_mod (k : Nat) : nI k &&& 65535 = nI (k % 65536) := by
  show nI k &&& nI 65535 = _
  rw [nx_and, show (65535 : Nat) = 2 ^ 16 - 1 from rfl, Nat.and_two_pow_sub_one_eq_mod]
theorem nx_m16 {k : Nat} (h : k < 65536) : nI k &&& 65535 = nI k := by rw [nx_mod, Nat.mod_eq_of_lt h]
theorem wb_tb (n : Nat) : (lN n).toBitVec = BitVec.ofNat 64 n := rfl
theorem wb_inj {a b : Int64} (h : a.toBitVec = b.toBitVec) : a = b := Int64.toBitVec_inj.mp h
theorem wb_tn {n : Nat} (h : n < 2 ^ 64) : (lN n).toBitVec.toNat = n := by rw [wb_tb, BitVec.toNat_ofNat, Nat.mod_eq_of_lt h]
theorem wb_of (x : Int64) : ∃ n, n < 2 ^ 64 ∧ x = lN n := ⟨x.toBitVec.toNat, x.toBitVec.isLt, wb_inj (by rw [wb_tb]; simp)⟩
theorem wb_of32 (x : Int32) : ∃ n, n < 2 ^ 32 ∧ x = nI n := ⟨x.toBitVec.toNat, x.toBitVec.isLt, Int32.toBitVec_inj.mp (by show _ = BitVec.ofNat 32 _; simp)⟩
theorem wb_c : ∀ k, k < 64 → ((nI k).toInt64 &&& 63) = lN k := by decide +kernel
theorem wb_cu : ∀ k, k < 64 → ((nI k).toInt64.toUInt64 &&& Int64.toUInt64 63) = UInt64.ofNat k := by decide +kernel
theorem wb_sm : ∀ k, k < 64 → (BitVec.ofNat 64 k).smod 64 = BitVec.ofNat 64 k := by decide +kernel
theorem wb_pw {a b : Nat} (h : a ≤ b) : 2 ^ b = 2 ^ a * 2 ^ (b - a) := by rw [← Nat.pow_add]; congr 1; omega
theorem wb_lt2 {a b : Nat} (h : a < b) : 2 ^ a < 2 ^ b := Nat.pow_lt_pow_right (by decide) h
theorem wb_mod (n : Nat) : lN n = lN (n % 2 ^ 64) := wb_inj (by rw [wb_tb, wb_tb]; apply BitVec.eq_of_toNat_eq; rw [BitVec.toNat_ofNat, BitVec.toNat_ofNat, Nat.mod_mod])
theorem wb_shr {n k : Nat} (hn : n < 2 ^ 64) (hk : k < 64) : ((lN n).toUInt64 >>> ((nI k).toInt64.toUInt64 &&& Int64.toUInt64 63)).toInt64 = lN (n / 2 ^ k) := by
  rw [wb_cu k hk]
  apply wb_inj
  apply BitVec.eq_of_toNat_eq
  show ((lN n).toUInt64 >>> UInt64.ofNat k).toNat = (BitVec.ofNat 64 _).toNat
  have h1 : (UInt64.ofNat k).toNat = k := by
    show (BitVec.ofNat 64 k).toNat = k
    rw [BitVec.toNat_ofNat, Nat.mod_eq_of_lt (by omega)]
  have h2 : (lN n).toUInt64.toNat = n := wb_tn hn
  rw [UInt64.toNat_shiftRight, h1, h2, Nat.mod_eq_of_lt hk, Nat.shiftRight_eq_div_pow, BitVec.toNat_ofNat, Nat.mod_eq_of_lt (Nat.lt_of_le_of_lt (Nat.div_le_self _ _) hn)]
theorem wb_shl (n : Nat) {k : Nat} (hk : k < 64) : lN n <<< ((nI k).toInt64 &&& 63) = lN (n * 2 ^ k) := by
  rw [wb_c k hk]
  apply wb_inj
  rw [Int64.toBitVec_shiftLeft, wb_tb, wb_tb, wb_tb, wb_sm k hk]
  apply BitVec.eq_of_toNat_eq
  rw [BitVec.shiftLeft_eq', BitVec.toNat_shiftLeft, BitVec.toNat_ofNat, BitVec.toNat_ofNat, BitVec.toNat_ofNat, Nat.mod_eq_of_lt (show k < 2 ^ 64 by omega), Nat.shiftLeft_eq, Nat.mul_mod, Nat.mod_mod, ← Nat.mul_mod]
theorem wb_and {a b : Nat} (ha : a < 2 ^ 64) (hb : b < 2 ^ 64) : lN a &&& lN b = lN (a &&& b) := by
  apply wb_inj
  rw [Int64.toBitVec_and, wb_tb, wb_tb, wb_tb]
  apply BitVec.eq_of_toNat_eq
  rw [BitVec.toNat_and, BitVec.toNat_ofNat, BitVec.toNat_ofNat, BitVec.toNat_ofNat, Nat.mod_eq_of_lt ha, Nat.mod_eq_of_lt hb, Nat.mod_eq_of_lt (Nat.and_lt_two_pow _ hb)]
theorem wb_or {a b : Nat} (ha : a < 2 ^ 64) (hb : b < 2 ^ 64) : lN a ||| lN b = lN (a ||| b) := by
  apply wb_inj
  rw [Int64.toBitVec_or, wb_tb, wb_tb, wb_tb]
  apply BitVec.eq_of_toNat_eq
  rw [BitVec.toNat_or, BitVec.toNat_ofNat, BitVec.toNat_ofNat, BitVec.toNat_ofNat, Nat.mod_eq_of_lt ha, Nat.mod_eq_of_lt hb, Nat.mod_eq_of_lt (Nat.or_lt_two_pow ha hb)]
theorem wb_mask {n k : Nat} (hn : n < 2 ^ 64) (hk : k < 64) : lN n &&& lN (2 ^ k - 1) = lN (n % 2 ^ k) := by
  rw [wb_and hn (by have := wb_lt2 hk; omega), Nat.and_two_pow_sub_one_eq_mod]
theorem wb_a1 {n : Nat} (hn : n < 2 ^ 64) : lN n &&& 1 = lN (n % 2) := wb_mask (k := 1) hn (by decide)
theorem wb_bit {n k : Nat} (hn : n < 2 ^ 64) (hk : k < 64) : ((lN n).toUInt64 >>> ((nI k).toInt64.toUInt64 &&& Int64.toUInt64 63)).toInt64 &&& 1 = lN (n / 2 ^ k % 2) := by
  rw [wb_shr hn hk, wb_a1 (Nat.lt_of_le_of_lt (Nat.div_le_self _ _) hn)]
theorem lN_bv (n : Nat) : (lN n).toBitVec = BitVec.ofNat 64 n := rfl
theorem lN_nat {n : Nat} (h : n < 2 ^ 64) : (lN n).toBitVec.toNat = n := by rw [lN_bv, BitVec.toNat_ofNat]; exact Nat.mod_eq_of_lt h
theorem lN_xor (a b : Nat) : lN a ^^^ lN b = lN (a ^^^ b) := by
  apply Int64.toBitVec_inj.mp; rw [Int64.toBitVec_xor, lN_bv, lN_bv, lN_bv]; apply BitVec.eq_of_getLsbD_eq; intro i hi; simp [BitVec.getLsbD_ofNat, Nat.testBit_xor, hi]
theorem pf_lI {a : Nat} (h : a < 2 ^ 63) : (lN a).toInt = (a : Int) := lg_ofNat_toInt h
theorem pf_shr {a d : Nat} {D : Int64} (hD : (D.toBitVec.smod 64).toNat = d) (h : a < 2 ^ 62) : lN a >>> D = lN (a / 2 ^ d) := by
  have hd : a / 2 ^ d ≤ a := Nat.div_le_self _ _
  apply Int64.toInt_inj.mp
  have e : (lN a >>> D).toInt = (lN a).toInt >>> d := by
    rw [← hD]
    exact BitVec.toInt_sshiftRight ..
  rw [e, Int.shiftRight_eq_div_pow, pf_lI (by omega), pf_lI (by omega)]
  rfl
theorem lN_ti {m : Nat} (h : m < 2 ^ 64) : (lN m).toInt = if m < 2 ^ 63 then (m : Int) else (m : Int) - 2 ^ 64 := by
  have c := BitVec.toInt_eq_toNat_cond (lN m).toBitVec
  rw [lN_nat h] at c
  show (lN m).toBitVec.toInt = _
  rw [c]
  split <;> split <;> omega
theorem cellOf_in (x : Int32) : vp_in (f_X0_cellOf x) 8192 := by
  unfold f_X0_cellOf
  obtain ⟨j, hj, e⟩ := pk_andE x (m := 65535) 16 (by decide)
  rw [e, pk_shrN (by omega) _ 3 (by decide)]
  exact vp_in_nI (by omega) (by omega)
theorem tpc_lt (x : Int32) : f_X2_twoPartsCycles x < 7 := by
  unfold f_X2_twoPartsCycles
  split
  · split <;> decide
  · decide
theorem rng_nI {x : Int32} {a b : Nat} (hb : b < 2 ^ 31) (h1 : (a : Int) ≤ x.toInt) (h2 : x.toInt < b) : ∃ j : Nat, a ≤ j ∧ j < b ∧ x = nI j := by
  obtain ⟨j, hj, e⟩ := vp_in_of (vp_in_iff.mpr ⟨by omega, h2⟩) hb
  refine ⟨j, ?_, hj, e⟩
  rw [e, nI_toInt (by omega)] at h1
  omega
theorem i_lt {x y : Int32} {b : Int} (hy : y.toInt = b) (h : x < y) : x.toInt < b := by
  rw [Int32.lt_iff_toInt_lt, hy] at h; exact h
theorem i_nlt {x y : Int32} {b : Int} (hy : y.toInt = b) (h : ¬ x < y) : b ≤ x.toInt := by
  rw [Int32.lt_iff_toInt_lt, hy] at h; omega
theorem i_ge {x y : Int32} {b : Int} (hy : y.toInt = b) (h : y ≤ x) : b ≤ x.toInt := by
  rw [Int32.le_iff_toInt_le, hy] at h; exact h
theorem i_nge {x y : Int32} {b : Int} (hy : y.toInt = b) (h : ¬ y ≤ x) : x.toInt < b := by
  rw [Int32.le_iff_toInt_le, hy] at h; omega
theorem which_in {x : Int32} (h : ¬ f_X3_isMultiplier x = 0) : vp_in (f_X3_which x) 5 := by
  have h0 : 304 ≤ x.toInt ∧ x.toInt < 320 := by
    unfold f_X3_isMultiplier at h
    split at h
    · exact absurd rfl h
    · rename_i c1
      split at h
      · exact absurd rfl h
      · rename_i c2
        exact ⟨i_nlt rfl c1, i_nge rfl c2⟩
  obtain ⟨j, hj1, hj2, rfl⟩ := rng_nI (a := 304) (b := 320) (by decide) h0.1 h0.2
  have key : ∀ j, j < 320 → 304 ≤ j → (decide (f_X3_which (nI j) < 0) || decide (5 ≤ (f_X3_which (nI j)).toNatClampNeg)) = false := by decide +kernel
  exact in_c (key j hj2 hj1)
theorem shr1_in {x : Int32} (h : vp_in x 65536) : vp_in (x >>> ((1 : Int32) &&& 31)) 32768 := by
  obtain ⟨j, hj, rfl⟩ := vp_in_of h (by decide)
  rw [pk_shrN (by omega) _ 1 (by decide)]
  exact vp_in_nI (by omega) (by decide)
theorem mul_in {x : Int32} (h1 : 4 ≤ x) (h2 : ¬ 7 ≤ x) : vp_in (x - 3) 5 := by
  obtain ⟨j, hj1, hj2, rfl⟩ := rng_nI (a := 4) (b := 7) (by decide) (i_ge rfl h1) (i_nge rfl h2)
  have key : ∀ j, j < 7 → 4 ≤ j → (decide (nI j - 3 < 0) || decide (5 ≤ (nI j - 3).toNatClampNeg)) = false := by decide +kernel
  exact in_c (key j hj2 hj1)
theorem wr_in1 {x : Int32} (h : vp_in x 131072) (h1 : ¬ 16 ≤ x) : vp_in x 16 := by
  rw [vp_in_iff] at h ⊢
  exact ⟨h.1, i_nge rfl h1⟩
theorem wr_in2 {x : Int32} (h : vp_in x 131072) (h1 : ¬ x < 65536) : vp_in (x - 65536) 65536 := by
  rw [vp_in_iff] at h
  obtain ⟨j, hj1, hj2, rfl⟩ := rng_nI (a := 65536) (b := 131072) (by decide) (i_nlt rfl h1) h.2
  rw [show (65536 : Int32) = nI 65536 by decide, pk_sub hj1]
  exact vp_in_nI (by omega) (by decide)
theorem isAddr_in {x : Int32} (h : ¬ f_X3_isAddress x = 0) : vp_in x 65536 := by
  unfold f_X3_isAddress at h
  split at h
  · exact absurd rfl h
  · rename_i c1
    split at h
    · exact absurd rfl h
    · rename_i c2
      exact vp_in_iff.mpr ⟨i_nlt rfl c1, i_nge rfl c2⟩
/-- two ints are one if their bits are; then a formula over bits is decided place by place -/
theorem i32_ext {x y : Int32} (h : ∀ i : Fin 32, x.toBitVec.getLsbD i.val = y.toBitVec.getLsbD i.val) : x = y :=
  Int32.toBitVec_inj.mp (BitVec.eq_of_getLsbD_eq fun i hi => h ⟨i, hi⟩)
theorem and34 (x : Int32) : x &&& 65534 = (x &&& 65534) &&& 65535 := by
  apply i32_ext
  intro i
  simp only [Int32.toBitVec_and, BitVec.getLsbD_and]
  generalize x.toBitVec.getLsbD i.val = b
  revert i b
  decide +kernel
theorem and34_in (x : Int32) : vp_in (x &&& 65534) 65536 := by rw [and34]; exact pk_andIn _ 16 (by decide) (by decide)
theorem and35_in (x : Int32) : vp_in (x &&& 65535) 65536 := pk_andIn _ 16 (by decide) (by decide)
theorem and64 (x : Int32) : x &&& 64 = (x &&& 64) &&& 65535 := by
  apply i32_ext
  intro i
  simp only [Int32.toBitVec_and, BitVec.getLsbD_and]
  generalize x.toBitVec.getLsbD i.val = b
  revert i b
  decide +kernel
theorem and64_in (x : Int32) : vp_in (x &&& 64) 65536 := by rw [and64]; exact pk_andIn _ 16 (by decide) (by decide)
/-- in range means: the mask leaves it -/
theorem in16_iff {x : Int32} : vp_in x 65536 ↔ x &&& 65535 = x := by
  constructor
  · intro h
    obtain ⟨j, hj, rfl⟩ := vp_in_of h (by decide)
    rw [pk_andN (by omega) 16 (by decide), Nat.mod_eq_of_lt (by omega)]
  · intro h
    rw [← h]; exact and35_in x
theorem at_in {x : Int32} (h : vp_in x 65536) : vp_in (65536 + x) 131072 := by
  obtain ⟨j, hj, rfl⟩ := vp_in_of h (by decide)
  rw [show (65536 : Int32) = nI 65536 by decide, nI_add]
  exact vp_in_nI (by omega) (by decide)
/-- what always holds of the reference: its registers are of 16 bits, 'where' is a place, the lines are 14 -/
def okR (σ : StR) : Prop := (∀ k, k < 16 → vp_in (σ.2.1 k) 65536) ∧ vp_in σ.2.2.2.2.2.2.2.1 131072 ∧ vp_in σ.2.2.2.2.1 16384
theorem okR_of {σ τ : StR} (h : okR σ) (h1 : τ.2.1 = σ.2.1) (h2 : τ.2.2.2.2.2.2.2.1 = σ.2.2.2.2.2.2.2.1) (h3 : τ.2.2.2.2.1 = σ.2.2.2.2.1) : okR τ := by
  unfold okR
  rw [h1, h2, h3]
  exact h
theorem rOK_upd {r : Nat → Int32} {i : Nat} {v : Int32} (h : ∀ k, k < 16 → vp_in (r k) 65536) (hv : vp_in v 65536) : ∀ k, k < 16 → vp_in (upd r i v k) 65536 := by
  intro k hk
  unfold upd
  split
  · exact hv
  · exact h k hk
theorem ok_X3_setRegister {σ : StR} {a b : Int32} (h : okR σ) : okR (f_X3_setRegister σ a b) := by
  unfold f_X3_setRegister
  split
  · exact h
  · dsimp only
    refine ⟨rOK_upd h.1 ?_, h.2⟩
    split
    · exact and34_in _
    · exact and35_in _
theorem ok_X3_spend {σ : StR} {a : Int32} (h : okR σ) : okR (f_X3_spend σ a) := okR_of h rfl rfl rfl
theorem ok_ite {c : Prop} [Decidable c] {a b : StR} (ha : okR a) (hb : okR b) : okR (if c then a else b) := by split <;> assumption
theorem ok_ite2 {c : Prop} [Decidable c] {a b : Int32 × StR} (ha : okR a.2) (hb : okR b.2) : okR (if c then a else b).2 := by split <;> assumption
theorem ok_X3_product {σ : StR} (h : okR σ) : okR (f_X3_product σ) := by
  unfold f_X3_product
  dsimp only
  apply ok_ite <;> exact okR_of h rfl rfl rfl
theorem ok_X3_multiply {σ : StR} {a b : Int32} (h : okR σ) : okR (f_X3_multiply σ a b) := by
  unfold f_X3_multiply
  dsimp only
  exact ok_ite (ok_ite (ok_X3_product (okR_of h rfl rfl rfl)) (ok_ite h (okR_of h rfl rfl rfl))) (okR_of h rfl rfl rfl)
theorem ok_X3_setByte {σ : StR} {a b : Int32} (h : okR σ) : okR (f_X3_setByte σ a b) := by
  unfold f_X3_setByte
  dsimp only
  exact ok_ite (okR_of h rfl rfl rfl) (ok_ite (ok_X3_multiply h) h)
theorem ok_X3_setWord {σ : StR} {a b : Int32} (h : okR σ) : okR (f_X3_setWord σ a b) := by
  unfold f_X3_setWord
  dsimp only
  exact ok_ite (okR_of h rfl rfl rfl) (ok_X3_multiply h)
theorem ok_X3_write {σ : StR} {a b : Int32} (h : okR σ) : okR (f_X3_write σ a b) := by
  unfold f_X3_write
  dsimp only
  exact ok_ite (ok_ite h (ok_ite (ok_X3_setWord h) (ok_X3_setByte h))) (ok_X3_setRegister h)
theorem or_in {x f : Int32} (h : vp_in x 65536) (hf : vp_in f 65536) : vp_in (x ||| f) 65536 := by
  rw [in16_iff] at h hf ⊢
  rw [← h, ← hf]
  apply i32_ext
  intro i
  simp only [Int32.toBitVec_and, Int32.toBitVec_or, BitVec.getLsbD_and, BitVec.getLsbD_or]
  generalize x.toBitVec.getLsbD i.val = b
  generalize f.toBitVec.getLsbD i.val = d
  revert i b d
  decide +kernel
theorem and_in {x f : Int32} (h : vp_in x 65536) : vp_in (x &&& f) 65536 := by
  rw [in16_iff] at h ⊢
  rw [← h]
  apply i32_ext
  intro i
  simp only [Int32.toBitVec_and, BitVec.getLsbD_and]
  generalize x.toBitVec.getLsbD i.val = b
  generalize f.toBitVec.getLsbD i.val = d
  revert i b d
  decide +kernel
theorem ok_X3_setFlag {σ : StR} {f b : Int32} (hf : vp_in f 65536) (h : okR σ) : okR (f_X3_setFlag σ f b) := by
  unfold f_X3_setFlag
  dsimp only
  refine ⟨rOK_upd h.1 ?_, h.2⟩
  split
  · exact and_in (h.1 _ (by decide))
  · exact or_in (h.1 _ (by decide)) hf
theorem ok_X3_flags {σ : StR} {a b d : Int32} (h : okR σ) : okR (f_X3_flags σ a b d) := by
  unfold f_X3_flags
  dsimp only
  exact ok_X3_setFlag (in_c (by decide)) (ok_X3_setFlag (in_c (by decide)) (ok_X3_setFlag (in_c (by decide)) (ok_X3_setFlag (in_c (by decide)) h)))
theorem ok_X3_sum {σ : StR} {a b d : Int32} (h : okR σ) : okR (f_X3_sum σ a b d).2 := by
  unfold f_X3_sum
  dsimp only
  exact ok_X3_flags h
theorem ok_X3_decimal {σ : StR} {a b : Int32} (h : okR σ) : okR (f_X3_decimal σ a b).2 := by
  unfold f_X3_decimal
  dsimp only
  exact ok_ite2 (ok_X3_flags h) (ok_X3_flags h)
theorem ok_X3_joined {σ : StR} {a b d : Int32} (h : okR σ) : okR (f_X3_joined σ a b d).2 := by
  unfold f_X3_joined
  dsimp only
  (repeat (first | with_reducible assumption | with_reducible apply ok_ite2 | with_reducible apply ok_X3_sum | with_reducible apply ok_X3_decimal | with_reducible apply ok_X3_flags))
theorem ok_X3_number {σ : StR} {a : Int32} (h : okR σ) : okR (f_X3_number σ a) := by
  unfold f_X3_number
  dsimp only
  exact ⟨h.1, in_c (i := 16) (by decide), h.2.2⟩
theorem ok_X3_register {σ : StR} {a : Int32} (ha : vp_in a 16) (h : okR σ) : okR (f_X3_register σ a) := by
  unfold f_X3_register
  dsimp only
  refine ⟨h.1, ?_, h.2.2⟩
  show vp_in (if a = 3 then 16 else a) 131072
  split
  · exact in_c (by decide)
  · rw [vp_in_iff] at ha ⊢
    omega
theorem ok_X3_memory {σ : StR} {a : Int32} (h : okR σ) : okR (f_X3_memory σ a) := by
  unfold f_X3_memory
  dsimp only
  exact ⟨h.1, at_in (and35_in _), h.2.2⟩
theorem ok_X3_taken {σ : StR} (h : okR σ) : okR (f_X3_taken σ).2 := by
  unfold f_X3_taken
  dsimp only
  exact ok_X3_setRegister h
theorem ok_X3_indexed {σ : StR} {a : Int32} (h : okR σ) : okR (f_X3_indexed σ a) := by
  unfold f_X3_indexed
  dsimp only
  exact ok_X3_memory (ok_X3_taken h)
theorem ok_X3_source {σ : StR} {a b : Int32} (hb : vp_in b 16) (h : okR σ) : okR (f_X3_source σ a b) := by
  unfold f_X3_source
  dsimp only
  (repeat (first | with_reducible assumption | with_reducible apply ok_ite | with_reducible apply ok_X3_setRegister | with_reducible apply ok_X3_number | with_reducible apply ok_X3_memory | with_reducible apply ok_X3_indexed | with_reducible apply ok_X3_register))
theorem ok_X3_push {σ : StR} {a : Int32} (h : okR σ) : okR (f_X3_push σ a) := by
  unfold f_X3_push
  dsimp only
  exact ok_X3_write (ok_X3_setRegister h)
theorem ok_X3_popped {σ : StR} (h : okR σ) : okR (f_X3_popped σ).2 := by
  unfold f_X3_popped
  dsimp only
  exact ok_X3_setRegister h
theorem ok_X3_shifted {σ : StR} {a : Int32} (h : okR σ) : okR (f_X3_shifted σ a) := by
  unfold f_X3_shifted
  dsimp only
  exact ok_ite (ok_X3_write h) (ok_X3_write (ok_X3_flags h))
theorem in15 (x : Int32) : vp_in (x &&& (15 : Int32)) 16 := pk_andIn _ 4 (by decide) (by decide)
theorem ok_X3_twoParts {σ : StR} {a : Int32} (h : okR σ) : okR (f_X3_twoParts σ a) := by
  unfold f_X3_twoParts
  dsimp only
  (repeat (first | with_reducible assumption | with_reducible apply ok_ite | with_reducible apply ok_X3_spend | with_reducible apply ok_X3_write | with_reducible apply ok_X3_joined | with_reducible apply ok_X3_indexed | with_reducible apply ok_X3_register | with_reducible apply ok_X3_source | with_reducible apply in15))
theorem ok_X3_onePart {σ : StR} {a : Int32} (h : okR σ) : okR (f_X3_onePart σ a) := by
  unfold f_X3_onePart
  dsimp only
  (repeat (first | with_reducible assumption | with_reducible apply ok_ite | with_reducible apply ok_X3_spend | with_reducible apply ok_X3_setRegister | with_reducible apply ok_X3_popped | with_reducible apply ok_X3_push | with_reducible apply ok_X3_shifted | with_reducible apply ok_X3_source | with_reducible apply in15))
theorem ok_X3_jump {σ : StR} {a : Int32} (h : okR σ) : okR (f_X3_jump σ a) := by
  unfold f_X3_jump
  dsimp only
  (repeat (first | with_reducible assumption | with_reducible apply ok_ite | with_reducible apply ok_X3_spend | with_reducible apply ok_X3_setRegister))
theorem bit0 {j : Nat} (hj : j < 2 ^ 31) {s : Int32} (k : Nat) (hs : (s.toBitVec.smod 32).toNat = k) (h : (nI j >>> s) &&& 1 = 0) : j / 2 ^ k % 2 = 0 := by
  have hle : j / 2 ^ k ≤ j := Nat.div_le_self _ _
  rw [pk_shrN hj s k hs, pk_andN (by omega) 1 (by decide)] at h
  have hlt : j / 2 ^ k % 2 ^ 1 < 2 := Nat.mod_lt _ (by decide)
  have h2 := (nI_eq (a := j / 2 ^ k % 2 ^ 1) (b := 0) (by omega) (by omega)).mp (h.trans nI_0.symm)
  exact h2
theorem half {j n : Nat} (h : j < 2 ^ (n + 1)) (b : j / 2 ^ n % 2 = 0) : j < 2 ^ n := by
  have hp : 0 < 2 ^ n := Nat.two_pow_pos n
  have h2 : j / 2 ^ n < 2 := by
    rw [Nat.div_lt_iff_lt_mul hp, Nat.mul_comm, ← Nat.pow_succ]
    exact h
  have h3 : j / 2 ^ n = 0 := by
    generalize j / 2 ^ n = q at h2 b ⊢
    omega
  rcases Nat.lt_or_ge j (2 ^ n) with q | q
  · exact q
  · have := Nat.div_pos q hp
    omega
theorem no_line {x : Int32} (hL : ¬ x = 0) (hI : vp_in x 16384) (h13 : (x >>> (13 &&& 31)) &&& 1 = 0) (h12 : (x >>> (12 &&& 31)) &&& 1 = 0) (h11 : (x >>> (11 &&& 31)) &&& 1 = 0) (h10 : (x >>> (10 &&& 31)) &&& 1 = 0) (h9 : (x >>> (9 &&& 31)) &&& 1 = 0) (h8 : (x >>> (8 &&& 31)) &&& 1 = 0) (h7 : (x >>> (7 &&& 31)) &&& 1 = 0) (h6 : (x >>> (6 &&& 31)) &&& 1 = 0) (h5 : (x >>> (5 &&& 31)) &&& 1 = 0) (h4 : (x >>> (4 &&& 31)) &&& 1 = 0) (h3 : (x >>> (3 &&& 31)) &&& 1 = 0) (h2 : (x >>> (2 &&& 31)) &&& 1 = 0) (h1 : (x >>> (1 &&& 31)) &&& 1 = 0) (h0 : (x >>> (0 &&& 31)) &&& 1 = 0) : False := by
  obtain ⟨j, hj, rfl⟩ := vp_in_of hI (by decide)
  have j13 : j < 2 ^ 13 := half (n := 13) hj (bit0 (by omega) 13 (by decide) h13)
  have j12 : j < 2 ^ 12 := half (n := 12) j13 (bit0 (by omega) 12 (by decide) h12)
  have j11 : j < 2 ^ 11 := half (n := 11) j12 (bit0 (by omega) 11 (by decide) h11)
  have j10 : j < 2 ^ 10 := half (n := 10) j11 (bit0 (by omega) 10 (by decide) h10)
  have j9 : j < 2 ^ 9 := half (n := 9) j10 (bit0 (by omega) 9 (by decide) h9)
  have j8 : j < 2 ^ 8 := half (n := 8) j9 (bit0 (by omega) 8 (by decide) h8)
  have j7 : j < 2 ^ 7 := half (n := 7) j8 (bit0 (by omega) 7 (by decide) h7)
  have j6 : j < 2 ^ 6 := half (n := 6) j7 (bit0 (by omega) 6 (by decide) h6)
  have j5 : j < 2 ^ 5 := half (n := 5) j6 (bit0 (by omega) 5 (by decide) h5)
  have j4 : j < 2 ^ 4 := half (n := 4) j5 (bit0 (by omega) 4 (by decide) h4)
  have j3 : j < 2 ^ 3 := half (n := 3) j4 (bit0 (by omega) 3 (by decide) h3)
  have j2 : j < 2 ^ 2 := half (n := 2) j3 (bit0 (by omega) 2 (by decide) h2)
  have j1 : j < 2 ^ 1 := half (n := 1) j2 (bit0 (by omega) 1 (by decide) h1)
  have j0 : j < 2 ^ 0 := half (n := 0) j1 (bit0 (by omega) 0 (by decide) h0)
  have : j = 0 := Nat.lt_one_iff.mp j0
  subst this
  exact hL nI_0
theorem ite_p {c : Prop} [Decidable c] {a b : Int32} (P : Int32 → Prop) (ha : P a) (hb : P b) : P (if c then a else b) := by split <;> assumption
theorem xor_in14 {x k : Int32} (hx : vp_in x 16384) (hk : vp_in k 14) : vp_in (x ^^^ ((1 : Int32) <<< (k &&& 31))) 16384 := by
  obtain ⟨a, ha, rfl⟩ := vp_in_of hx (by decide)
  obtain ⟨j, hj, rfl⟩ := vp_in_of hk (by decide)
  have hp : (2 : Nat) ^ j ≤ 2 ^ 13 := Nat.pow_le_pow_right (by decide) (by omega)
  rw [show (1 : Int32) = nI 1 by decide, pk_shlN (nI j &&& 31) j (s_l j (by omega)) (by omega), nx_xor, Nat.one_mul]
  exact vp_in_nI (Nat.xor_lt_two_pow (n := 14) ha (by omega)) (by decide)
theorem ok_X3_interrupt {σ : StR} (h : okR σ) : okR (f_X3_interrupt σ) := by
  unfold f_X3_interrupt
  dsimp only
  apply ok_X3_spend
  apply ok_X3_setRegister
  have h4 := fun a b : Int32 => ok_X3_push (a := b) (ok_X3_push (a := a) (okR_of (τ := (σ.1, σ.2.1, σ.2.2.1, σ.2.2.2.1, σ.2.2.2.2.1, σ.2.2.2.2.2.1, σ.2.2.2.2.2.2.1, σ.2.2.2.2.2.2.2.1, 0)) h rfl rfl rfl))
  refine ⟨rOK_upd (h4 _ _).1 (and64_in _), (h4 _ _).2.1, ?_⟩
  refine xor_in14 (h4 _ _).2.2 ?_
  repeat' (first | exact in_c (by decide) | refine ite_p (fun z : Int32 => vp_in z 14) ?_ ?_)
theorem ok_X3_step {σ : StR} (h : okR σ) : okR (f_X3_step σ).2 := by
  have hT : ∀ v : Int32, okR ((f_X3_taken σ).2.1, (f_X3_taken σ).2.2.1, (f_X3_taken σ).2.2.2.1, (f_X3_taken σ).2.2.2.2.1, (f_X3_taken σ).2.2.2.2.2.1, (f_X3_taken σ).2.2.2.2.2.2.1, (f_X3_taken σ).2.2.2.2.2.2.2.1, (f_X3_taken σ).2.2.2.2.2.2.2.2.1, v) := fun v => okR_of (ok_X3_taken h) rfl rfl rfl
  unfold f_X3_step
  dsimp only
  (repeat (first | with_reducible assumption | with_reducible apply ok_ite2 | with_reducible apply ok_ite | with_reducible apply ok_X3_interrupt | with_reducible apply ok_X3_twoParts | with_reducible apply ok_X3_onePart | with_reducible apply ok_X3_jump | with_reducible exact hT _))
