/-! one part, jumps, interrupts, a step -/
theorem flag_set {σ : StC} {τ : StR} {f : Int32} (h : Rel σ τ) : f_X2_isSet σ f = f_X3_flag τ f := by
  unfold f_X2_isSet f_X3_flag
  rw [R_reg h]
theorem hi_mul {τ : StR} : f_X3_flag τ 1 * f_X3_high τ = if f_X3_flag τ 1 = 0 then 0 else f_X3_high τ := by
  unfold f_X3_flag f_X3_high
  by_cases h : (τ.2.1 (2 : Int32).toNatClampNeg &&& 1) = 0
  · rw [if_pos h, if_pos rfl]; split <;> decide
  · rw [if_neg h, if_neg (by decide : ¬ (1 : Int32) = 0)]; split <;> decide
theorem shr_m {τ : StR} {x : Int32} (hx : x &&& mkR τ = x) : (x >>> ((1 : Int32) &&& 31)) &&& mkR τ = x >>> ((1 : Int32) &&& 31) := by
  unfold mkR at hx ⊢
  split
  · rename_i hz
    rw [if_pos hz] at hx
    obtain ⟨j, hj, rfl⟩ := vp_in_of (in16_iff.mpr hx) (by decide)
    rw [shr1 hj]
    exact nx_m16 (by omega)
  · rename_i hz
    rw [if_neg hz] at hx
    obtain ⟨j, hj, e⟩ := pk_andE x (m := 255) 8 (by decide)
    rw [hx] at e
    subst e
    rw [shr1 (by omega), pk_andN (by omega) 8 (by decide), Nat.mod_eq_of_lt (by omega)]
theorem hi_m {τ : StR} : f_X3_high τ &&& mkR τ = f_X3_high τ := by
  unfold f_X3_high mkR
  split <;> decide
theorem R_flags {σ : StC} {τ : StR} {a b c : Int32} (h : Rel σ τ) : Rel (f_X2_setFlags σ a b c (mkR τ)) (f_X3_flags τ a b c) ∧ (f_X3_flags τ a b c).2.2 = τ.2.2 := by
  obtain ⟨ce, rfl, hm, ho, hi⟩ := h
  exact R_fl hm ho hi (t_flags ho)
theorem or_and_m (a b m : Int32) : (a ||| b) &&& m = (a &&& m) ||| (b &&& m) := by
  apply i32_ext
  intro i
  simp only [Int32.toBitVec_and, Int32.toBitVec_or, BitVec.getLsbD_and, BitVec.getLsbD_or]
  generalize a.toBitVec.getLsbD i.val = x
  generalize b.toBitVec.getLsbD i.val = y
  generalize m.toBitVec.getLsbD i.val = z
  revert x y z
  decide
theorem swap_eq {x : Int32} (hx : vp_in x 65536) : ((x &&& (255 : Int32)) <<< ((8 : Int32) &&& 31)) ||| (x >>> ((8 : Int32) &&& 31)) = ((x <<< ((8 : Int32) &&& 31)) ||| (x >>> ((8 : Int32) &&& 31))) &&& (65535 : Int32) := by
  obtain ⟨j, hj, rfl⟩ := vp_in_of hx (by decide)
  rw [or_and_m, pk_andN (by omega) 8 (by decide), pk_shlN _ 8 (by decide) (by omega), pk_shlN _ 8 (by decide) (by omega), pk_shrN (by omega) _ 8 (by decide), nx_mod, nx_mod, show j * 2 ^ 8 % 65536 = j % 2 ^ 8 * 2 ^ 8 by omega, show j / 2 ^ 8 % 65536 = j / 2 ^ 8 by omega]
theorem sxt_tab : ∀ j, j < 256 → ((nI j ^^^ (128 : Int32)) - (128 : Int32)) &&& (65535 : Int32) = (nI j).toInt8.toInt32 &&& (65535 : Int32) := by decide +kernel
theorem toInt8_and (x : Int32) : (x &&& (255 : Int32)).toInt8 = x.toInt8 := by
  apply Int8.toBitVec_inj.mp
  rw [Int32.toBitVec_toInt8, Int32.toBitVec_toInt8]
  apply BitVec.eq_of_getLsbD_eq
  intro i hi
  have hm : ∀ i < 8, (255 : Int32).toBitVec.getLsbD i = true := by decide
  rw [BitVec.getLsbD_signExtend, BitVec.getLsbD_signExtend, if_pos (by omega), if_pos (by omega), Int32.toBitVec_and, BitVec.getLsbD_and, hm i hi, Bool.and_true]
theorem sxt_eq (x : Int32) : (((x &&& (255 : Int32)) ^^^ (128 : Int32)) - (128 : Int32)) &&& (65535 : Int32) = x.toInt8.toInt32 &&& (65535 : Int32) := by
  obtain ⟨j, hj, e⟩ := pk_andE x (m := 255) 8 (by decide)
  rw [← toInt8_and x, e]
  exact sxt_tab j hj
/-- the shifted one-part instructions: RRC, SWPB, RRA, SXT -/
theorem R_change {σ : StC} {τ : StR} {op p b : Int32} (hb : b = 0 ↔ τ.2.2.2.2.2.2.2.2 = 0) (hpl : PL p τ.2.2.2.2.2.2.2.1) (hx : τ.2.2.2.2.2.2.1 &&& mkR τ = τ.2.2.2.2.2.2.1) (hop : op = 0 ∨ op = 1 ∨ op = 2 ∨ op = 3) (hbw : (op = 1 ∨ op = 3) → τ.2.2.2.2.2.2.2.2 = 0) (h : Rel σ τ) : Rel (f_X2_put (f_X2_change σ op τ.2.2.2.2.2.2.1 b).2 p (f_X2_change σ op τ.2.2.2.2.2.2.1 b).1 b) (f_X3_shifted τ op) := by
  have hm : (if b = 0 then (65535 : Int32) else 255) = mkR τ := by
    unfold mkR
    by_cases h : b = 0
    · rw [if_pos h, if_pos (hb.mp h)]
    · rw [if_neg h, if_neg (fun q => h (hb.mpr q))]
  have fin : ∀ (res c : Int32), res &&& mkR τ = res → Rel (f_X2_put (f_X2_setFlags σ res c 0 (mkR τ)) p res b) (f_X3_write (f_X3_flags τ res c 0) τ.2.2.2.2.2.2.2.1 res) := by
    intro res c hres
    obtain ⟨r1, s1⟩ := R_flags (a := res) (b := c) (c := 0) h
    have hmk : mkR (f_X3_flags τ res c 0) = mkR τ := by unfold mkR; rw [s1]
    exact R_put hpl (by rw [s1]; exact hb) (by rw [hmk]; exact hres) r1
  unfold f_X2_change f_X3_shifted
  dsimp only
  rw [hm, mk_hi, flag_set h]
  rcases hop with rfl | rfl | rfl | rfl
  · rw [if_pos rfl, if_neg (by decide : ¬ (0 : Int32) = 1), if_pos rfl, hi_mul, if_neg (by decide : ¬ (0 : Int32) = 3), if_neg (by decide : ¬ (0 : Int32) = 3)]
    unfold f_X2_shifted
    dsimp only
    refine fin _ _ (or_m (shr_m hx) ?_)
    split
    · rw [Int32.zero_and]
    · exact hi_m
  · have hz := hbw (Or.inl rfl)
    have hx16 : vp_in τ.2.2.2.2.2.2.1 65536 := (mk_in hx).1 hz
    rw [if_neg (by decide), if_pos rfl, if_pos rfl]
    dsimp only
    rw [swap_eq hx16]
    refine R_put hpl hb ?_ h
    rw [show mkR τ = 65535 from if_pos hz, Int32.and_assoc]
    rfl
  · rw [if_neg (by decide), if_neg (by decide), if_pos rfl, if_neg (by decide), if_neg (by decide : ¬ (2 : Int32) = 0), if_neg (by decide : ¬ (2 : Int32) = 3), if_neg (by decide : ¬ (2 : Int32) = 3)]
    unfold f_X2_shifted
    dsimp only
    exact fin _ _ (or_m (shr_m hx) (and_ml hx))
  · have hz := hbw (Or.inr rfl)
    rw [if_neg (by decide), if_neg (by decide), if_neg (by decide), if_neg (by decide), if_pos rfl, if_pos rfl]
    unfold f_X2_logical
    dsimp only
    rw [sxt_eq]
    refine fin _ _ ?_
    rw [show mkR τ = 65535 from if_pos hz, Int32.and_assoc]
    rfl
theorem R_reti {σ : StC} {τ : StR} (h : Rel σ τ) : Rel (f_X2_returnFromInterrupt σ) (f_X3_spend (f_X3_setRegister (f_X3_popped (f_X3_setRegister (f_X3_popped τ).2 2 (f_X3_popped τ).1)).2 0 (f_X3_popped (f_X3_setRegister (f_X3_popped τ).2 2 (f_X3_popped τ).1)).1) 5) := by
  unfold f_X2_returnFromInterrupt
  dsimp only
  obtain ⟨e1, r1, -⟩ := R_pop h
  rw [e1]
  have r2 := R_setRegister (a := 2) (v := (f_X3_popped τ).1) (in_c (by decide)) r1
  obtain ⟨e3, r3, -⟩ := R_pop r2
  rw [e3]
  exact R_spend (R_setRegister (in_c (by decide)) r3)
theorem w_parts {n : Nat} (hn : n < 65536) : nI n &&& (63 : Int32) = nI (n % 64) ∧ (nI n >>> ((4 : Int32) &&& 31)) &&& (3 : Int32) = nI (n / 16 % 4) ∧ nI n &&& (15 : Int32) = nI (n % 16) ∧ (nI n >>> ((7 : Int32) &&& 31)) &&& (7 : Int32) = nI (n / 128 % 8) := by
  refine ⟨?_, ?_, ?_, ?_⟩
  · rw [pk_andN (by omega) 6 (by decide)]
  · rw [pk_shrN (by omega) _ 4 (by decide), pk_andN (by omega) 2 (by decide)]
  · rw [pk_andN (by omega) 4 (by decide)]
  · rw [pk_shrN (by omega) _ 7 (by decide), pk_andN (by omega) 3 (by decide)]
theorem R_onePart {σ : StC} {τ : StR} {n : Nat} (h1 : 4096 ≤ n) (h2 : n < 4864) (hbw : (n / 128 % 8 = 1 ∨ n / 128 % 8 = 3 ∨ n / 128 % 8 = 5) → τ.2.2.2.2.2.2.2.2 = 0) (hwb : (nI n &&& (64 : Int32)) = 0 ↔ τ.2.2.2.2.2.2.2.2 = 0) (h : Rel σ τ) : Rel (f_X2_doOnePart σ (nI n)) (f_X3_onePart τ (nI n)) := by
  have hb := b01 hwb
  obtain ⟨e63, e4, e15, e7⟩ := w_parts (n := n) (by omega)
  unfold f_X2_doOnePart f_X3_onePart
  dsimp only
  generalize (if (nI n &&& (64 : Int32)) = 0 then (0 : Int32) else 1) = b at hb ⊢
  obtain ⟨⟨r1, s1, p1, v1, m1⟩, k1⟩ := R_source (w := nI n) (s := nI n &&& (15 : Int32)) (in15 _) hb hwb h
  obtain ⟨j, hj, ej⟩ := sort_lt ((nI n >>> ((4 : Int32) &&& 31)) &&& (3 : Int32)) (nI n &&& (15 : Int32)) (pk_andIn _ 2 (by decide) (by decide))
  obtain ⟨-, -, -, t4, t5, t6⟩ := cyc_tab j hj
  generalize f_X3_source τ ((nI n >>> ((4 : Int32) &&& 31)) &&& (3 : Int32)) (nI n &&& (15 : Int32)) = τ1 at *
  generalize f_X2_sourcePlace σ (nI n) (nI n &&& (15 : Int32)) = q1 at *
  have hb1 : b = 0 ↔ τ1.2.2.2.2.2.2.2.2 = 0 := by rw [s1]; exact hb
  have hmk1 : mkR τ1 = mkR τ := by unfold mkR; rw [s1]
  have m1' : τ1.2.2.2.2.2.2.1 &&& mkR τ1 = τ1.2.2.2.2.2.2.1 := by rw [hmk1]; exact m1
  rw [v1, k1, ej, e63, e7]
  rw [e4, e15] at ej ⊢
  unfold f_X2_spendByKind
  dsimp only
  rw [t4, t5, t6]
  have ho : n / 128 % 8 = 0 ∨ n / 128 % 8 = 1 ∨ n / 128 % 8 = 2 ∨ n / 128 % 8 = 3 ∨ n / 128 % 8 = 4 ∨ n / 128 % 8 = 5 := by omega
  have small : ∀ c : Nat, (c = 0 ∨ c = 1 ∨ c = 2 ∨ c = 3) → ((c = 1 ∨ c = 3) → τ1.2.2.2.2.2.2.2.2 = 0) → Rel (f_X2_spend (f_X2_put (f_X2_change q1.2 (nI c) τ1.2.2.2.2.2.2.1 b).2 q1.1 (f_X2_change q1.2 (nI c) τ1.2.2.2.2.2.2.1 b).1 b) (f_X3_pick 17201 (nI j))) (f_X3_spend (f_X3_shifted τ1 (nI c)) (f_X3_pick 17201 (nI j))) := by
    intro c hc hcb
    refine R_spend (R_change hb1 p1 m1' ?_ ?_ r1)
    · rcases hc with rfl | rfl | rfl | rfl
      · exact Or.inl (by decide)
      · exact Or.inr (Or.inl (by decide))
      · exact Or.inr (Or.inr (Or.inl (by decide)))
      · exact Or.inr (Or.inr (Or.inr (by decide)))
    · intro q
      refine hcb ?_
      rcases q with q | q
      · exact Or.inl ((nI_eq (b := 1) (by omega) (by decide)).mp q)
      · exact Or.inr ((nI_eq (b := 3) (by omega) (by decide)).mp q)
  rcases ho with q | q | q | q | q | q <;> rw [q]
  · rw [if_neg (by decide : ¬ nI 0 = 4), if_neg (by decide : ¬ nI 0 = 5), if_neg (by decide : ¬ nI 0 = 6), if_neg (by decide : ¬ 4 ≤ nI 0)]
    exact small 0 (by decide) (fun z => by omega)
  · rw [if_neg (by decide : ¬ nI 1 = 4), if_neg (by decide : ¬ nI 1 = 5), if_neg (by decide : ¬ nI 1 = 6), if_neg (by decide : ¬ 4 ≤ nI 1)]
    exact small 1 (by decide) (fun _ => by rw [s1]; exact hbw (Or.inl q))
  · rw [if_neg (by decide : ¬ nI 2 = 4), if_neg (by decide : ¬ nI 2 = 5), if_neg (by decide : ¬ nI 2 = 6), if_neg (by decide : ¬ 4 ≤ nI 2)]
    exact small 2 (by decide) (fun z => by omega)
  · rw [if_neg (by decide : ¬ nI 3 = 4), if_neg (by decide : ¬ nI 3 = 5), if_neg (by decide : ¬ nI 3 = 6), if_neg (by decide : ¬ 4 ≤ nI 3)]
    exact small 3 (by decide) (fun _ => by rw [s1]; exact hbw (Or.inr (Or.inl q)))
  · rw [if_pos (by decide : nI 4 = 4), if_neg (by decide : ¬ nI 4 = 6), if_pos (by decide : 4 ≤ nI 4), if_pos (by decide : nI 4 = 4)]
    have hp := R_push hb1 m1' r1
    have c48 : nI (n % 64) = 48 ↔ n % 64 = 48 := nI_eq (b := 48) (by omega) (by decide)
    have c3 : nI (n / 16 % 4) = 3 ↔ n / 16 % 4 = 3 := nI_eq (b := 3) (by omega) (by decide)
    have c0 : nI (n % 16) = 0 ↔ n % 16 = 0 := nI_eq (b := 0) (by omega) (by decide)
    by_cases a3 : n / 16 % 4 = 3
    · rw [if_pos (c3.mpr a3)]
      by_cases a0 : n % 16 = 0
      · rw [if_pos (c0.mpr a0), if_pos (c48.mpr (by omega))]
        exact R_spend hp
      · rw [if_neg (fun z => a0 (c0.mp z)), if_neg (fun z => by have := c48.mp z; omega)]
        exact R_spend hp
    · rw [if_neg (fun z => a3 (c3.mp z)), if_neg (fun z => by have := c48.mp z; omega)]
      exact R_spend hp
  · have hz : τ1.2.2.2.2.2.2.2.2 = 0 := by rw [s1]; exact hbw (Or.inr (Or.inr q))
    rw [if_neg (by decide : ¬ nI 5 = 4), if_pos (by decide : nI 5 = 5), if_neg (by decide : ¬ nI 5 = 6), if_pos (by decide : 4 ≤ nI 5), if_neg (by decide : ¬ nI 5 = 4)]
    have hp := R_push (b := 0) (v := τ1.2.1 (0 : Int32).toNatClampNeg) ⟨fun _ => hz, fun _ => rfl⟩ (by rw [show mkR τ1 = 65535 from if_pos hz]; exact in16_iff.mp ((R_okR r1).1 0 (by decide))) r1
    rw [R_reg r1]
    exact R_spend (R_setRegister (in_c (by decide)) hp)
theorem fl01 (τ : StR) (f : Int32) : f_X3_flag τ f = 0 ∨ f_X3_flag τ f = 1 := by
  unfold f_X3_flag
  split
  · exact Or.inl rfl
  · exact Or.inr rfl
theorem jump_eq {σ : StC} {τ : StR} {c : Int32} (h : Rel σ τ) : f_X2_isJumpTaken σ c = f_X3_jumps τ c := by
  have one : ∀ x : Int32, (x = 0 ∨ x = 1) → x = if x = 1 then 1 else 0 := by
    intro x hx
    rcases hx with rfl | rfl <;> decide
  unfold f_X2_isJumpTaken f_X3_jumps
  dsimp only
  rw [flag_set h, flag_set h, flag_set h, flag_set h]
  by_cases h0 : c = 0
  · rw [if_pos h0, if_pos h0]
  rw [if_neg h0, if_neg h0]
  by_cases h1 : c = 1
  · rw [if_pos h1, if_pos h1]; exact one _ (fl01 τ 2)
  rw [if_neg h1, if_neg h1]
  by_cases h2 : c = 2
  · rw [if_pos h2, if_pos h2]
  rw [if_neg h2, if_neg h2]
  by_cases h3 : c = 3
  · rw [if_pos h3, if_pos h3]; exact one _ (fl01 τ 1)
  rw [if_neg h3, if_neg h3]
  by_cases h4 : c = 4
  · rw [if_pos h4, if_pos h4]; exact one _ (fl01 τ 4)
  rw [if_neg h4, if_neg h4]
  by_cases h5 : c = 5
  · rw [if_pos h5, if_pos h5]
  rw [if_neg h5, if_neg h5]
  by_cases h6 : c = 6
  · rw [if_pos h6, if_pos h6]
    by_cases he : f_X3_flag τ 4 = f_X3_flag τ 256
    · rw [if_pos he, if_neg (by decide), if_pos he]
    · rw [if_neg he, if_pos rfl, if_neg he]
  rw [if_neg h6, if_neg h6]
theorem off_tab : ∀ j, j < 1024 → (nI j ^^^ (512 : Int32)) - (512 : Int32) = nI j - ((2 : Int32) * (nI j &&& (512 : Int32))) := by decide +kernel
theorem off_eq (w : Int32) : ((w &&& (1023 : Int32)) ^^^ (512 : Int32)) - (512 : Int32) = (w &&& (1023 : Int32)) - ((2 : Int32) * (w &&& (512 : Int32))) := by
  obtain ⟨j, hj, e⟩ := pk_andE w (m := 1023) 10 (by decide)
  have e2 : w &&& (512 : Int32) = (w &&& (1023 : Int32)) &&& (512 : Int32) := by rw [Int32.and_assoc]; rfl
  rw [e2, e]
  exact off_tab j hj
theorem R_jump {σ : StC} {τ : StR} {w : Int32} (h : Rel σ τ) : Rel (f_X2_doJump σ w) (f_X3_jump τ w) := by
  unfold f_X2_doJump f_X3_jump
  dsimp only
  rw [jump_eq h, off_eq]
  by_cases hq : f_X3_jumps τ ((w >>> ((10 : Int32) &&& 31)) &&& (7 : Int32)) = 0
  · rw [if_pos hq, if_pos hq]; exact R_spend h
  · rw [if_neg hq, if_neg hq]
    exact R_spend (R_add (in_c (by decide)) h)
