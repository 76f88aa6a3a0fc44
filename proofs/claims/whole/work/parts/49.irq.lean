/-! interrupts -/
theorem bitC {j k : Nat} (hj : j < 16384) (hk : k < 14) {m : Int32} (hm : m = nI (2 ^ k)) : nI j &&& m = 0 ↔ j / 2 ^ k % 2 = 0 := by
  have hp : (2 : Nat) ^ k ≤ 2 ^ 13 := Nat.pow_le_pow_right (by decide) (by omega)
  have h1 : j / 2 ^ k % 2 ≤ 1 := by
    generalize j / 2 ^ k = q
    omega
  have h2 : j / 2 ^ k % 2 * 2 ^ k ≤ 1 * 2 ^ k := Nat.mul_le_mul_right _ h1
  have e : j &&& 2 ^ k = j / 2 ^ k % 2 * 2 ^ k := by
    have e1 := and_hi j 1 k
    rw [Nat.one_mul] at e1
    rw [e1, show (1 : Nat) = 2 ^ 1 - 1 from rfl, Nat.and_two_pow_sub_one_eq_mod]
  rw [hm, nx_and, e, ← nI_0, nI_eq (by omega) (by omega)]
  constructor
  · intro q
    rcases Nat.mul_eq_zero.mp q with q | q
    · exact q
    · exact absurd q (Nat.ne_of_gt (Nat.two_pow_pos k))
  · intro q
    rw [q, Nat.zero_mul]
theorem bitR {j k : Nat} (hj : j < 16384) {s : Int32} (hs : (s.toBitVec.smod 32).toNat = k) : (nI j >>> s) &&& (1 : Int32) = 0 ↔ j / 2 ^ k % 2 = 0 := by
  have hle : j / 2 ^ k ≤ j := Nat.div_le_self _ _
  rw [pk_shrN (by omega) s k hs, pk_andN (by omega) 1 (by decide), ← nI_0]
  have hlt : j / 2 ^ k % 2 ^ 1 < 2 := Nat.mod_lt _ (by decide)
  rw [nI_eq (by omega) (by omega)]
theorem high_line {j : Nat} (hj : j < 16384) (h0 : j ≠ 0) : ∃ k : Nat, k < 14 ∧ j / 2 ^ k % 2 = 1 ∧ (if (nI j &&& (8192 : Int32)) = 0 then (if (nI j &&& (4096 : Int32)) = 0 then (if (nI j &&& (2048 : Int32)) = 0 then (if (nI j &&& (1024 : Int32)) = 0 then (if (nI j &&& (512 : Int32)) = 0 then (if (nI j &&& (256 : Int32)) = 0 then (if (nI j &&& (128 : Int32)) = 0 then (if (nI j &&& (64 : Int32)) = 0 then (if (nI j &&& (32 : Int32)) = 0 then (if (nI j &&& (16 : Int32)) = 0 then (if (nI j &&& (8 : Int32)) = 0 then (if (nI j &&& (4 : Int32)) = 0 then (if (nI j &&& (2 : Int32)) = 0 then 0 else 1) else 2) else 3) else 4) else 5) else 6) else 7) else 8) else 9) else 10) else 11) else 12) else 13) = nI k ∧ (if ((nI j >>> ((13 : Int32) &&& 31)) &&& (1 : Int32)) = 0 then (if ((nI j >>> ((12 : Int32) &&& 31)) &&& (1 : Int32)) = 0 then (if ((nI j >>> ((11 : Int32) &&& 31)) &&& (1 : Int32)) = 0 then (if ((nI j >>> ((10 : Int32) &&& 31)) &&& (1 : Int32)) = 0 then (if ((nI j >>> ((9 : Int32) &&& 31)) &&& (1 : Int32)) = 0 then (if ((nI j >>> ((8 : Int32) &&& 31)) &&& (1 : Int32)) = 0 then (if ((nI j >>> ((7 : Int32) &&& 31)) &&& (1 : Int32)) = 0 then (if ((nI j >>> ((6 : Int32) &&& 31)) &&& (1 : Int32)) = 0 then (if ((nI j >>> ((5 : Int32) &&& 31)) &&& (1 : Int32)) = 0 then (if ((nI j >>> ((4 : Int32) &&& 31)) &&& (1 : Int32)) = 0 then (if ((nI j >>> ((3 : Int32) &&& 31)) &&& (1 : Int32)) = 0 then (if ((nI j >>> ((2 : Int32) &&& 31)) &&& (1 : Int32)) = 0 then (if ((nI j >>> ((1 : Int32) &&& 31)) &&& (1 : Int32)) = 0 then 0 else 1) else 2) else 3) else 4) else 5) else 6) else 7) else 8) else 9) else 10) else 11) else 12) else 13) = nI k := by
  by_cases b13 : j / 2 ^ 13 % 2 = 0
  · rw [if_pos ((bitC hj (k := 13) (by decide) (m := 8192) (by decide)).mpr b13), if_pos ((bitR hj (k := 13) (by decide)).mpr b13)]
    by_cases b12 : j / 2 ^ 12 % 2 = 0
    · rw [if_pos ((bitC hj (k := 12) (by decide) (m := 4096) (by decide)).mpr b12), if_pos ((bitR hj (k := 12) (by decide)).mpr b12)]
      by_cases b11 : j / 2 ^ 11 % 2 = 0
      · rw [if_pos ((bitC hj (k := 11) (by decide) (m := 2048) (by decide)).mpr b11), if_pos ((bitR hj (k := 11) (by decide)).mpr b11)]
        by_cases b10 : j / 2 ^ 10 % 2 = 0
        · rw [if_pos ((bitC hj (k := 10) (by decide) (m := 1024) (by decide)).mpr b10), if_pos ((bitR hj (k := 10) (by decide)).mpr b10)]
          by_cases b9 : j / 2 ^ 9 % 2 = 0
          · rw [if_pos ((bitC hj (k := 9) (by decide) (m := 512) (by decide)).mpr b9), if_pos ((bitR hj (k := 9) (by decide)).mpr b9)]
            by_cases b8 : j / 2 ^ 8 % 2 = 0
            · rw [if_pos ((bitC hj (k := 8) (by decide) (m := 256) (by decide)).mpr b8), if_pos ((bitR hj (k := 8) (by decide)).mpr b8)]
              by_cases b7 : j / 2 ^ 7 % 2 = 0
              · rw [if_pos ((bitC hj (k := 7) (by decide) (m := 128) (by decide)).mpr b7), if_pos ((bitR hj (k := 7) (by decide)).mpr b7)]
                by_cases b6 : j / 2 ^ 6 % 2 = 0
                · rw [if_pos ((bitC hj (k := 6) (by decide) (m := 64) (by decide)).mpr b6), if_pos ((bitR hj (k := 6) (by decide)).mpr b6)]
                  by_cases b5 : j / 2 ^ 5 % 2 = 0
                  · rw [if_pos ((bitC hj (k := 5) (by decide) (m := 32) (by decide)).mpr b5), if_pos ((bitR hj (k := 5) (by decide)).mpr b5)]
                    by_cases b4 : j / 2 ^ 4 % 2 = 0
                    · rw [if_pos ((bitC hj (k := 4) (by decide) (m := 16) (by decide)).mpr b4), if_pos ((bitR hj (k := 4) (by decide)).mpr b4)]
                      by_cases b3 : j / 2 ^ 3 % 2 = 0
                      · rw [if_pos ((bitC hj (k := 3) (by decide) (m := 8) (by decide)).mpr b3), if_pos ((bitR hj (k := 3) (by decide)).mpr b3)]
                        by_cases b2 : j / 2 ^ 2 % 2 = 0
                        · rw [if_pos ((bitC hj (k := 2) (by decide) (m := 4) (by decide)).mpr b2), if_pos ((bitR hj (k := 2) (by decide)).mpr b2)]
                          by_cases b1 : j / 2 ^ 1 % 2 = 0
                          · rw [if_pos ((bitC hj (k := 1) (by decide) (m := 2) (by decide)).mpr b1), if_pos ((bitR hj (k := 1) (by decide)).mpr b1)]
                            refine ⟨0, by decide, ?_, rfl, rfl⟩
                            have j13 : j < 2 ^ 13 := half (n := 13) hj b13
                            have j12 : j < 2 ^ 12 := half (n := 12) j13 b12
                            have j11 : j < 2 ^ 11 := half (n := 11) j12 b11
                            have j10 : j < 2 ^ 10 := half (n := 10) j11 b10
                            have j9 : j < 2 ^ 9 := half (n := 9) j10 b9
                            have j8 : j < 2 ^ 8 := half (n := 8) j9 b8
                            have j7 : j < 2 ^ 7 := half (n := 7) j8 b7
                            have j6 : j < 2 ^ 6 := half (n := 6) j7 b6
                            have j5 : j < 2 ^ 5 := half (n := 5) j6 b5
                            have j4 : j < 2 ^ 4 := half (n := 4) j5 b4
                            have j3 : j < 2 ^ 3 := half (n := 3) j4 b3
                            have j2 : j < 2 ^ 2 := half (n := 2) j3 b2
                            have j1 : j < 2 ^ 1 := half (n := 1) j2 b1
                            have e0 : j = 1 := by omega
                            rw [e0]
                          · refine ⟨1, by decide, by omega, ?_, ?_⟩
                            · rw [if_neg (fun q => b1 ((bitC hj (k := 1) (by decide) (m := 2) (by decide)).mp q))]; rfl
                            · rw [if_neg (fun q => b1 ((bitR hj (k := 1) (by decide)).mp q))]; rfl
                        · refine ⟨2, by decide, by omega, ?_, ?_⟩
                          · rw [if_neg (fun q => b2 ((bitC hj (k := 2) (by decide) (m := 4) (by decide)).mp q))]; rfl
                          · rw [if_neg (fun q => b2 ((bitR hj (k := 2) (by decide)).mp q))]; rfl
                      · refine ⟨3, by decide, by omega, ?_, ?_⟩
                        · rw [if_neg (fun q => b3 ((bitC hj (k := 3) (by decide) (m := 8) (by decide)).mp q))]; rfl
                        · rw [if_neg (fun q => b3 ((bitR hj (k := 3) (by decide)).mp q))]; rfl
                    · refine ⟨4, by decide, by omega, ?_, ?_⟩
                      · rw [if_neg (fun q => b4 ((bitC hj (k := 4) (by decide) (m := 16) (by decide)).mp q))]; rfl
                      · rw [if_neg (fun q => b4 ((bitR hj (k := 4) (by decide)).mp q))]; rfl
                  · refine ⟨5, by decide, by omega, ?_, ?_⟩
                    · rw [if_neg (fun q => b5 ((bitC hj (k := 5) (by decide) (m := 32) (by decide)).mp q))]; rfl
                    · rw [if_neg (fun q => b5 ((bitR hj (k := 5) (by decide)).mp q))]; rfl
                · refine ⟨6, by decide, by omega, ?_, ?_⟩
                  · rw [if_neg (fun q => b6 ((bitC hj (k := 6) (by decide) (m := 64) (by decide)).mp q))]; rfl
                  · rw [if_neg (fun q => b6 ((bitR hj (k := 6) (by decide)).mp q))]; rfl
              · refine ⟨7, by decide, by omega, ?_, ?_⟩
                · rw [if_neg (fun q => b7 ((bitC hj (k := 7) (by decide) (m := 128) (by decide)).mp q))]; rfl
                · rw [if_neg (fun q => b7 ((bitR hj (k := 7) (by decide)).mp q))]; rfl
            · refine ⟨8, by decide, by omega, ?_, ?_⟩
              · rw [if_neg (fun q => b8 ((bitC hj (k := 8) (by decide) (m := 256) (by decide)).mp q))]; rfl
              · rw [if_neg (fun q => b8 ((bitR hj (k := 8) (by decide)).mp q))]; rfl
          · refine ⟨9, by decide, by omega, ?_, ?_⟩
            · rw [if_neg (fun q => b9 ((bitC hj (k := 9) (by decide) (m := 512) (by decide)).mp q))]; rfl
            · rw [if_neg (fun q => b9 ((bitR hj (k := 9) (by decide)).mp q))]; rfl
        · refine ⟨10, by decide, by omega, ?_, ?_⟩
          · rw [if_neg (fun q => b10 ((bitC hj (k := 10) (by decide) (m := 1024) (by decide)).mp q))]; rfl
          · rw [if_neg (fun q => b10 ((bitR hj (k := 10) (by decide)).mp q))]; rfl
      · refine ⟨11, by decide, by omega, ?_, ?_⟩
        · rw [if_neg (fun q => b11 ((bitC hj (k := 11) (by decide) (m := 2048) (by decide)).mp q))]; rfl
        · rw [if_neg (fun q => b11 ((bitR hj (k := 11) (by decide)).mp q))]; rfl
    · refine ⟨12, by decide, by omega, ?_, ?_⟩
      · rw [if_neg (fun q => b12 ((bitC hj (k := 12) (by decide) (m := 4096) (by decide)).mp q))]; rfl
      · rw [if_neg (fun q => b12 ((bitR hj (k := 12) (by decide)).mp q))]; rfl
  · refine ⟨13, by decide, by omega, ?_, ?_⟩
    · rw [if_neg (fun q => b13 ((bitC hj (k := 13) (by decide) (m := 8192) (by decide)).mp q))]; rfl
    · rw [if_neg (fun q => b13 ((bitR hj (k := 13) (by decide)).mp q))]; rfl
theorem one_bit : ∀ k : Fin 14, ∀ i : Fin 32, ((1 : Int32) <<< (nI k.val &&& 31)).toBitVec.getLsbD i.val = decide (i.val = k.val) := by decide +kernel
theorem clear_bit {j k : Nat} (hj : j < 16384) (hk : k < 14) (hb : j / 2 ^ k % 2 = 1) : nI j &&& (((1 : Int32) <<< (nI k &&& 31)) ^^^ (-1)) = nI j ^^^ ((1 : Int32) <<< (nI k &&& 31)) := by
  apply i32_ext
  intro i
  simp only [Int32.toBitVec_and, Int32.toBitVec_xor, BitVec.getLsbD_and, BitVec.getLsbD_xor]
  rw [one_bit ⟨k, hk⟩ i, m32 i]
  by_cases hik : i.val = k
  · have e : (nI j).toBitVec.getLsbD i.val = true := by
      show (BitVec.ofNat 32 j).getLsbD i.val = true
      rw [BitVec.getLsbD_ofNat, hik, Nat.testBit_eq_decide_div_mod_eq, decide_eq_true hb, decide_eq_true (show k < 32 by omega)]
      rfl
    rw [e, decide_eq_true hik]
    rfl
  · rw [decide_eq_false hik]
    generalize (nI j).toBitVec.getLsbD i.val = b
    cases b <;> rfl
theorem ln_mul (τ : StR) (p v : Int32) : (f_X3_multiply τ p v).2.2.2.2.1 = τ.2.2.2.2.1 := by
  have e : ∀ τ : StR, (f_X3_product τ).2.2.2.2.1 = τ.2.2.2.2.1 := by
    intro τ
    unfold f_X3_product
    dsimp only
    split <;> rfl
  unfold f_X3_multiply
  dsimp only
  split
  · split
    · rw [e]
    · split <;> rfl
  · rfl
theorem ln_setWord (τ : StR) (a v : Int32) : (f_X3_setWord τ a v).2.2.2.2.1 = τ.2.2.2.2.1 := by
  unfold f_X3_setWord
  dsimp only
  split
  · rfl
  · exact ln_mul _ _ _
theorem ln_setByte (τ : StR) (a v : Int32) : (f_X3_setByte τ a v).2.2.2.2.1 = τ.2.2.2.2.1 := by
  unfold f_X3_setByte
  dsimp only
  split
  · rfl
  · split
    · exact ln_mul _ _ _
    · rfl
theorem ln_push (τ : StR) (v : Int32) : (f_X3_push τ v).2.2.2.2.1 = τ.2.2.2.2.1 := by
  have e : ∀ a v : Int32, (f_X3_setRegister τ a v).2.2.2.2.1 = τ.2.2.2.2.1 := by
    intro a v
    rw [bs_set]
  unfold f_X3_push f_X3_write
  dsimp only
  split
  · split
    · exact e _ _
    · split
      · rw [ln_setWord]; exact e _ _
      · rw [ln_setByte]; exact e _ _
  · rw [bs_set]; exact e _ _
theorem bs_mul (τ : StR) (p v : Int32) : (f_X3_multiply τ p v).2.2.2.2.2 = τ.2.2.2.2.2 := by
  have e : ∀ τ : StR, (f_X3_product τ).2.2.2.2.2 = τ.2.2.2.2.2 := by
    intro τ
    unfold f_X3_product
    dsimp only
    split <;> rfl
  unfold f_X3_multiply
  dsimp only
  split
  · split
    · rw [e]
    · split <;> rfl
  · rfl
theorem bs_push (τ : StR) (v : Int32) : (f_X3_push τ v).2.2.2.2.2.2.2.2 = τ.2.2.2.2.2.2.2.2 := by
  have e : ∀ a v : Int32, (f_X3_setRegister τ a v).2.2.2.2.2 = τ.2.2.2.2.2 := by
    intro a v
    rw [bs_set]
  have e1 : ∀ (τ : StR) (a v : Int32), (f_X3_setWord τ a v).2.2.2.2.2 = τ.2.2.2.2.2 := by
    intro τ a v
    unfold f_X3_setWord
    dsimp only
    split
    · rfl
    · exact bs_mul _ _ _
  have e2 : ∀ (τ : StR) (a v : Int32), (f_X3_setByte τ a v).2.2.2.2.2 = τ.2.2.2.2.2 := by
    intro τ a v
    unfold f_X3_setByte
    dsimp only
    split
    · rfl
    · split
      · exact bs_mul _ _ _
      · rfl
  have e3 : (f_X3_push τ v).2.2.2.2.2 = τ.2.2.2.2.2 := by
    unfold f_X3_push f_X3_write
    dsimp only
    split
    · split
      · exact e _ _
      · split
        · rw [e1]; exact e _ _
        · rw [e2]; exact e _ _
    · rw [bs_set]; exact e _ _
  rw [e3]
theorem R_interrupt {σ : StC} {τ : StR} (hL : ¬ τ.2.2.2.2.1 = 0) (h : Rel σ τ) : Rel (f_X2_interrupt σ) (f_X3_interrupt τ) := by
  obtain ⟨j, hj, ej⟩ := vp_in_of (R_okR h).2.2 (by decide)
  obtain ⟨k, hk, hbit, e1, e2⟩ := high_line hj (fun q => hL (by rw [ej, q]; rfl))
  have hpd : σ.2.1 = τ.2.2.2.2.1 := by
    obtain ⟨ce, rfl, _⟩ := h
    rfl
  have hline : f_X2_highestPendingLine σ = nI k := by
    unfold f_X2_highestPendingLine
    rw [hpd, ej]
    exact e1
  obtain ⟨t0, ht0⟩ : ∃ t : StR, t = (τ.1, τ.2.1, τ.2.2.1, τ.2.2.2.1, τ.2.2.2.2.1, τ.2.2.2.2.2.1, τ.2.2.2.2.2.2.1, τ.2.2.2.2.2.2.2.1, 0) := ⟨_, rfl⟩
  have h0 : Rel σ t0 := by rw [ht0]; exact R_scr (R_okR h).2.1 h
  have z0 : t0.2.2.2.2.2.2.2.2 = 0 := by rw [ht0]
  have l0 : t0.2.2.2.2.1 = nI j := by rw [ht0]; exact ej
  have r0 : t0.2.1 = τ.2.1 := by rw [ht0]
  have mk0 : ∀ τ : StR, τ.2.2.2.2.2.2.2.2 = 0 → ∀ i, i < 16 → okR τ → τ.2.1 i &&& mkR τ = τ.2.1 i := by
    intro τ hz i hi ho
    rw [show mkR τ = 65535 from if_pos hz]
    exact in16_iff.mp (ho.1 i hi)
  have h1 := R_push (b := 0) (v := t0.2.1 0) ⟨fun _ => z0, fun _ => rfl⟩ (mk0 t0 z0 0 (by decide) (R_okR h0)) h0
  have l1 := (ln_push t0 (t0.2.1 0)).trans l0
  have z1 := (bs_push t0 (t0.2.1 0)).trans z0
  unfold f_X2_interrupt f_X3_interrupt
  dsimp only
  rw [hline, R_reg h, ← ht0, ← r0, ej, e2]
  rw [show (0 : Int32).toNatClampNeg = 0 from rfl, show (2 : Int32).toNatClampNeg = 2 from rfl]
  generalize f_X3_push t0 (t0.2.1 0) = t1 at h1 l1 z1 ⊢
  generalize f_X2_push σ (t0.2.1 0) 0 = σ1 at h1 ⊢
  have h2 := R_push (b := 0) (v := t1.2.1 2) ⟨fun _ => z1, fun _ => rfl⟩ (mk0 t1 z1 2 (by decide) (R_okR h1)) h1
  have l2 := (ln_push t1 (t1.2.1 2)).trans l1
  rw [R_reg h1]
  generalize f_X3_push t1 (t1.2.1 2) = t2 at h2 l2 ⊢
  generalize f_X2_push σ1 (t1.2.1 2) 0 = σ2 at h2 ⊢
  obtain ⟨x5, hx5⟩ : ∃ y : Int32, y = nI j ^^^ ((1 : Int32) <<< (nI k &&& 31)) := ⟨_, rfl⟩
  have hcl : σ2.2.1 &&& (((1 : Int32) <<< (nI k &&& 31)) ^^^ (-1)) = x5 := by
    rw [show σ2.2.1 = t2.2.2.2.2.1 by obtain ⟨ce, rfl, _⟩ := h2; rfl, l2, hx5]
    exact clear_bit hj hk hbit
  have hin5 : vp_in x5 16384 := by
    rw [hx5]
    exact xor_in14 (vp_in_nI hj (by decide)) (vp_in_nI hk (by decide))
  rw [l2, ← hx5, hcl]
  have h3 : Rel (σ2.1, x5, σ2.2.2.1, σ2.2.2.2.1, σ2.2.2.2.2.1, σ2.2.2.2.2.2.1, σ2.2.2.2.2.2.2.1, σ2.2.2.2.2.2.2.2.1, σ2.2.2.2.2.2.2.2.2.1, σ2.2.2.2.2.2.2.2.2.2) (t2.1, t2.2.1, t2.2.2.1, t2.2.2.2.1, x5, t2.2.2.2.2.2.1, t2.2.2.2.2.2.2.1, t2.2.2.2.2.2.2.2.1, t2.2.2.2.2.2.2.2.2) := by
    obtain ⟨ce, rfl, hm, ho, hi⟩ := h2
    exact ⟨ce, rfl, hm, ⟨ho.1, ho.2.1, hin5⟩, hi⟩
  have h4 := R_setRegister (a := 2) (v := (t2.2.1 2) &&& (64 : Int32)) (in_c (by decide)) h3
  have e4 : f_X3_setRegister (t2.1, t2.2.1, t2.2.2.1, t2.2.2.2.1, x5, t2.2.2.2.2.2.1, t2.2.2.2.2.2.2.1, t2.2.2.2.2.2.2.2.1, t2.2.2.2.2.2.2.2.2) 2 ((t2.2.1 2) &&& (64 : Int32)) = (t2.1, upd t2.2.1 2 ((t2.2.1 2) &&& (64 : Int32)), t2.2.2.1, t2.2.2.2.1, x5, t2.2.2.2.2.2.1, t2.2.2.2.2.2.2.1, t2.2.2.2.2.2.2.2.1, t2.2.2.2.2.2.2.2.2) := by
    unfold f_X3_setRegister
    rw [if_neg (by decide)]
    dsimp only
    rw [if_neg (by decide), ← and64]
    rfl
  rw [e4] at h4
  rw [R_reg h2]
  generalize (t2.1, upd t2.2.1 2 ((t2.2.1 2) &&& (64 : Int32)), t2.2.2.1, t2.2.2.2.1, x5, t2.2.2.2.2.2.1, t2.2.2.2.2.2.2.1, t2.2.2.2.2.2.2.2.1, t2.2.2.2.2.2.2.2.2) = t3 at h4 ⊢
  rw [R_reg h2] at h4
  generalize f_X2_setRegister (t2.2.1, x5, σ2.2.2.1, σ2.2.2.2.1, σ2.2.2.2.2.1, σ2.2.2.2.2.2.1, σ2.2.2.2.2.2.2.1, σ2.2.2.2.2.2.2.2.1, σ2.2.2.2.2.2.2.2.2.1, σ2.2.2.2.2.2.2.2.2.2) 2 ((t2.2.1 2) &&& (64 : Int32)) = σ3 at h4 ⊢
  have had : vp_in ((65504 : Int32) + ((2 : Int32) * nI k)) 65536 := by
    rw [show (65504 : Int32) = nI 65504 by decide, show (2 : Int32) = nI 2 by decide, pk_mul, nI_add]
    exact vp_in_nI (by omega) (by decide)
  rw [(R_word had h4).1]
  exact R_spend (R_setRegister (in_c (by decide)) h4)
