/-! one part, jumps, interrupts, a step -/
theorem flag_set {σ : StC} {τ : StR} {f : Int32} (h : Rel σ τ) : f_X2_isSet σ f = f_X3_flag τ f := by
  unfold f_X2_isSet f_X3_flag
  rw [R_reg h]
theorem hi_mul {τ : StR} : f_X3_flag τ 1 * f_X3_high τ = if f_X3_flag τ 1 = 0 then 0 else f_X3_high τ := by
  unfold f_X3_flag f_X3_high
  by_cases h : (τ.2.1 (2 : Int32).toNatClampNeg &&& 1) = 0
  · rw [if_pos h, if_pos rfl]; split <;> decide
  · rw [if_neg h, if_neg (by decide)]; split <;> decide
theorem shr_m {τ : StR} {x : Int32} (hx : x &&& mkR τ = x) : (x >>> ((1 : Int32) &&& 31)) &&& mkR τ = x >>> ((1 : Int32) &&& 31) := by
  unfold mkR at hx ⊢
  split
  · rename_i hz
    rw [if_pos hz] at hx
    obtain ⟨j, hj, rfl⟩ := vp_in_of (in16_iff.mpr hx) (by decide)
    rw [shr1 hj]
    exact nx_m16 (by omega)
  · rename_i hz
    rw [if_neg hz] at hx
    obtain ⟨j, hj, e⟩ := pk_andE x (m := 255) 8 (by decide)
    rw [hx] at e
    subst e
    rw [shr1 (by omega), pk_andN (by omega) 8 (by decide), Nat.mod_eq_of_lt (by omega)]
theorem hi_m {τ : StR} : f_X3_high τ &&& mkR τ = f_X3_high τ := by
  unfold f_X3_high mkR
  split <;> decide
/-- the shifted one-part instructions: RRC, SWPB, RRA, SXT -/
theorem R_change {σ : StC} {τ τ0 : StR} {op p b : Int32} (hop : vp_in op 4) (hb : b = 0 ↔ τ.2.2.2.2.2.2.2.2 = 0) (hpl : PL p τ.2.2.2.2.2.2.2.1) (hx : τ.2.2.2.2.2.2.1 &&& mkR τ = τ.2.2.2.2.2.2.1) (hbw : (op = 1 ∨ op = 3) → τ.2.2.2.2.2.2.2.2 = 0) (h : Rel σ τ) : Rel (f_X2_put (f_X2_change σ op τ.2.2.2.2.2.2.1 b).2 p (f_X2_change σ op τ.2.2.2.2.2.2.1 b).1 b) (f_X3_shifted τ op) := by
  have hm : (if b = 0 then (65535 : Int32) else 255) = mkR τ := by
    unfold mkR
    by_cases h : b = 0
    · rw [if_pos h, if_pos (hb.mp h)]
    · rw [if_neg h, if_neg (fun q => h (hb.mpr q))]
  sorry
