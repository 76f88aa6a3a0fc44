/-! one part, jumps, interrupts, a step -/
theorem flag_set {σ : StC} {τ : StR} {f : Int32} (h : Rel σ τ) : f_X2_isSet σ f = f_X3_flag τ f := by
  unfold f_X2_isSet f_X3_flag
  rw [R_reg h]
theorem hi_mul {τ : StR} : f_X3_flag τ 1 * f_X3_high τ = if f_X3_flag τ 1 = 0 then 0 else f_X3_high τ := by
  unfold f_X3_flag f_X3_high
  by_cases h : (τ.2.1 (2 : Int32).toNatClampNeg &&& 1) = 0
  · rw [if_pos h, if_pos rfl]; split <;> decide
  · rw [if_neg h, if_neg (by decide)]; split <;> decide
theorem shr_m {τ : StR} {x : Int32} (hx : x &&& mkR τ = x) : (x >>> ((1 : Int32) &&& 31)) &&& mkR τ = x >>> ((1 : Int32) &&& 31) := by
  unfold mkR at hx ⊢
  split
  · rename_i hz
    rw [if_pos hz] at hx
    obtain ⟨j, hj, rfl⟩ := vp_in_of (in16_iff.mpr hx) (by decide)
    rw [shr1 hj]
    exact nx_m16 (by omega)
  · rename_i hz
    rw [if_neg hz] at hx
    obtain ⟨j, hj, e⟩ := pk_andE x (m := 255) 8 (by decide)
    rw [hx] at e
    subst e
    rw [shr1 (by omega), pk_andN (by omega) 8 (by decide), Nat.mod_eq_of_lt (by omega)]
theorem hi_m {τ : StR} : f_X3_high τ &&& mkR τ = f_X3_high τ := by
  unfold f_X3_high mkR
  split <;> decide
theorem R_flags {σ : StC} {τ : StR} {a b c : Int32} (h : Rel σ τ) : Rel (f_X2_setFlags σ a b c (mkR τ)) (f_X3_flags τ a b c) ∧ (f_X3_flags τ a b c).2.2 = τ.2.2 := by
  obtain ⟨ce, rfl, hm, ho, hi⟩ := h
  exact R_fl hm ho hi (t_flags ho)
theorem or_and_m (a b m : Int32) : (a ||| b) &&& m = (a &&& m) ||| (b &&& m) := by
  apply i32_ext
  intro i
  simp only [Int32.toBitVec_and, Int32.toBitVec_or, BitVec.getLsbD_and, BitVec.getLsbD_or]
  generalize a.toBitVec.getLsbD i.val = x
  generalize b.toBitVec.getLsbD i.val = y
  generalize m.toBitVec.getLsbD i.val = z
  revert x y z
  decide
theorem swap_eq {x : Int32} (hx : vp_in x 65536) : ((x &&& (255 : Int32)) <<< ((8 : Int32) &&& 31)) ||| (x >>> ((8 : Int32) &&& 31)) = ((x <<< ((8 : Int32) &&& 31)) ||| (x >>> ((8 : Int32) &&& 31))) &&& (65535 : Int32) := by
  obtain ⟨j, hj, rfl⟩ := vp_in_of hx (by decide)
  rw [or_and_m, pk_andN (by omega) 8 (by decide), pk_shlN _ 8 (by decide) (by omega), pk_shlN _ 8 (by decide) (by omega), pk_shrN (by omega) _ 8 (by decide), nx_mod, nx_mod, show j * 2 ^ 8 % 65536 = j % 2 ^ 8 * 2 ^ 8 by omega, show j / 2 ^ 8 % 65536 = j / 2 ^ 8 by omega]
theorem sxt_tab : ∀ j, j < 256 → ((nI j ^^^ (128 : Int32)) - (128 : Int32)) &&& (65535 : Int32) = (nI j).toInt8.toInt32 &&& (65535 : Int32) := by decide +kernel
theorem toInt8_and (x : Int32) : (x &&& (255 : Int32)).toInt8 = x.toInt8 := by
  apply Int8.toBitVec_inj.mp
  rw [Int32.toBitVec_toInt8, Int32.toBitVec_toInt8]
  apply BitVec.eq_of_getLsbD_eq
  intro i hi
  have hm : ∀ i < 8, (255 : Int32).toBitVec.getLsbD i = true := by decide
  rw [BitVec.getLsbD_signExtend, BitVec.getLsbD_signExtend, if_pos (by omega), if_pos (by omega), Int32.toBitVec_and, BitVec.getLsbD_and, hm i hi, Bool.and_true]
theorem sxt_eq (x : Int32) : (((x &&& (255 : Int32)) ^^^ (128 : Int32)) - (128 : Int32)) &&& (65535 : Int32) = x.toInt8.toInt32 &&& (65535 : Int32) := by
  obtain ⟨j, hj, e⟩ := pk_andE x (m := 255) 8 (by decide)
  rw [← toInt8_and x, e]
  exact sxt_tab j hj
/-- the shifted one-part instructions: RRC, SWPB, RRA, SXT -/
theorem R_change {σ : StC} {τ : StR} {op p b : Int32} (hb : b = 0 ↔ τ.2.2.2.2.2.2.2.2 = 0) (hpl : PL p τ.2.2.2.2.2.2.2.1) (hx : τ.2.2.2.2.2.2.1 &&& mkR τ = τ.2.2.2.2.2.2.1) (hop : op = 0 ∨ op = 1 ∨ op = 2 ∨ op = 3) (hbw : (op = 1 ∨ op = 3) → τ.2.2.2.2.2.2.2.2 = 0) (h : Rel σ τ) : Rel (f_X2_put (f_X2_change σ op τ.2.2.2.2.2.2.1 b).2 p (f_X2_change σ op τ.2.2.2.2.2.2.1 b).1 b) (f_X3_shifted τ op) := by
  have hm : (if b = 0 then (65535 : Int32) else 255) = mkR τ := by
    unfold mkR
    by_cases h : b = 0
    · rw [if_pos h, if_pos (hb.mp h)]
    · rw [if_neg h, if_neg (fun q => h (hb.mpr q))]
  have fin : ∀ (res c : Int32), res &&& mkR τ = res → Rel (f_X2_put (f_X2_setFlags σ res c 0 (mkR τ)) p res b) (f_X3_write (f_X3_flags τ res c 0) τ.2.2.2.2.2.2.2.1 res) := by
    intro res c hres
    obtain ⟨r1, s1⟩ := R_flags (a := res) (b := c) (c := 0) h
    have hmk : mkR (f_X3_flags τ res c 0) = mkR τ := by unfold mkR; rw [s1]
    exact R_put hpl (by rw [s1]; exact hb) (by rw [hmk]; exact hres) r1
  unfold f_X2_change f_X3_shifted
  dsimp only
  rw [hm, mk_hi, flag_set h]
  rcases hop with rfl | rfl | rfl | rfl
  · rw [if_pos rfl, if_neg (by decide), if_pos rfl, hi_mul, if_neg (by decide : ¬ (0 : Int32) = 3), if_neg (by decide : ¬ (0 : Int32) = 3)]
    unfold f_X2_shifted
    dsimp only
    refine fin _ _ (or_m (shr_m hx) ?_)
    split
    · rw [Int32.zero_and]
    · exact hi_m
  · have hz := hbw (Or.inl rfl)
    have hx16 : vp_in τ.2.2.2.2.2.2.1 65536 := (mk_in hx).1 hz
    rw [if_neg (by decide), if_pos rfl, if_pos rfl]
    dsimp only
    rw [swap_eq hx16]
    refine R_put hpl hb ?_ h
    rw [show mkR τ = 65535 from if_pos hz, Int32.and_assoc]
    rfl
  · rw [if_neg (by decide), if_neg (by decide), if_pos rfl, if_neg (by decide), if_neg (by decide : ¬ (2 : Int32) = 0), if_neg (by decide : ¬ (2 : Int32) = 3), if_neg (by decide : ¬ (2 : Int32) = 3)]
    unfold f_X2_shifted
    dsimp only
    exact fin _ _ (or_m (shr_m hx) (and_ml hx))
  · have hz := hbw (Or.inr rfl)
    rw [if_neg (by decide), if_neg (by decide), if_neg (by decide), if_neg (by decide), if_pos rfl, if_pos rfl]
    unfold f_X2_logical
    dsimp only
    rw [sxt_eq]
    refine fin _ _ ?_
    rw [show mkR τ = 65535 from if_pos hz, Int32.and_assoc]
    rfl
