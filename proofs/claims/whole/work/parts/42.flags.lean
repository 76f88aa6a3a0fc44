/-! the flags -/
theorem upd_upd (f : Nat → Int32) (i : Nat) (x y : Int32) : upd (upd f i x) i y = upd f i y := by
  funext j
  unfold upd
  split <;> rfl
def flC (x : Int32) (c z n v : Bool) : Int32 := ((x &&& (-264)) ||| (bif v then (bif n then (bif z then (bif c then (1 : Int32) else 0) ||| 2 else (bif c then 1 else 0)) ||| 4 else (bif z then (bif c then 1 else 0) ||| 2 else (bif c then 1 else 0))) ||| 256 else (bif n then (bif z then (bif c then 1 else 0) ||| 2 else (bif c then 1 else 0)) ||| 4 else (bif z then (bif c then 1 else 0) ||| 2 else (bif c then 1 else 0))))) &&& 65535
def sfR (x f : Int32) (b : Bool) : Int32 := bif b then x ||| f else x &&& (f ^^^ (-1))
def flR (x : Int32) (c z n v : Bool) : Int32 := sfR (sfR (sfR (sfR x 1 c) 2 z) 4 n) 256 v
theorem fl_eq (x : Int32) (hx : x &&& 65535 = x) (c z n v : Bool) : flC x c z n v = flR x c z n v := by
  rw [← hx]
  unfold flC flR sfR
  cases c <;> cases z <;> cases n <;> cases v <;> (
    simp only [cond_true, cond_false]
    apply i32_ext
    intro i
    simp only [Int32.toBitVec_and, Int32.toBitVec_or, Int32.toBitVec_xor, BitVec.getLsbD_and, BitVec.getLsbD_or, BitVec.getLsbD_xor]
    generalize x.toBitVec.getLsbD i.val = b
    revert i b
    decide +kernel)
theorem setFlag_eq (τ : StR) (f b : Int32) : f_X3_setFlag τ f b = (τ.1, upd τ.2.1 2 (sfR (τ.2.1 2) f (!decide (b = 0))), τ.2.2) := by
  unfold f_X3_setFlag sfR
  dsimp only
  by_cases h : b = 0
  · rw [if_pos h, decide_eq_true h]; rfl
  · rw [if_neg h, decide_eq_false h]; rfl
theorem flags_eq (τ : StR) (res c v : Int32) : f_X3_flags τ res c v = (τ.1, upd τ.2.1 2 (flR (τ.2.1 2) (!decide (c = 0)) (decide (res = 0)) (!decide ((res &&& f_X3_high τ) = 0)) (!decide (v = 0))), τ.2.2) := by
  have e1 : (!decide ((if res = 0 then (1 : Int32) else 0) = 0)) = decide (res = 0) := by
    by_cases h : res = 0
    · rw [if_pos h, decide_eq_true h]; rfl
    · rw [if_neg h, decide_eq_false h]; rfl
  have e2 : (!decide ((if (res &&& f_X3_high τ) = 0 then (0 : Int32) else 1) = 0)) = !decide ((res &&& f_X3_high τ) = 0) := by
    by_cases h : (res &&& f_X3_high τ) = 0
    · rw [if_pos h, decide_eq_true h]; rfl
    · rw [if_neg h, decide_eq_false h]; rfl
  unfold f_X3_flags flR
  dsimp only
  rw [setFlag_eq τ, setFlag_eq (τ.1, _, τ.2.2)]
  dsimp only
  rw [show ∀ r : Nat → Int32, f_X3_high (τ.1, r, τ.2.2) = f_X3_high τ from fun _ => rfl, setFlag_eq (τ.1, _, τ.2.2)]
  dsimp only
  rw [setFlag_eq (τ.1, _, τ.2.2)]
  dsimp only
  rw [upd_upd, upd_upd, upd_upd, pk_us, pk_us, pk_us, e1, e2]
/-- the mask of the words or bytes that the reference works with -/
def mkR (τ : StR) : Int32 := if τ.2.2.2.2.2.2.2.2 = 0 then 65535 else 255
theorem mk_hi (τ : StR) : (mkR τ + 1) >>> ((1 : Int32) &&& 31) = f_X3_high τ := by
  unfold mkR f_X3_high
  split <;> decide
theorem t_flags {τ : StR} {ce : Nat → Int64} {res c v : Int32} (ho : okR τ) : f_X2_setFlags (toC τ ce) res c v (mkR τ) = toC (f_X3_flags τ res c v) ce := by
  have hx : (τ.2.1 2) &&& 65535 = τ.2.1 2 := in16_iff.mp (ho.1 2 (by decide))
  have key : ∀ v9 : Int32, (((τ.2.1 2) &&& (-264)) ||| v9) &&& 65535 = flR (τ.2.1 2) (!decide (c = 0)) (decide (res = 0)) (!decide ((res &&& f_X3_high τ) = 0)) (!decide (v = 0)) → f_X2_setRegister (toC τ ce) 2 (((τ.2.1 2) &&& (-264)) ||| v9) = toC (f_X3_flags τ res c v) ce := by
    intro v9 h
    rw [t_setRegister (in_c (by decide)), flags_eq, ← h]
    rfl
  unfold f_X2_setFlags
  dsimp only
  unfold f_X2_isHighestSet
  rw [mk_hi]
  refine key _ ?_
  rw [← fl_eq _ hx]
  unfold flC
  congr 2
  by_cases h1 : c = 0 <;> by_cases h2 : res = 0 <;> by_cases h3 : (res &&& f_X3_high τ) = 0 <;> by_cases h4 : v = 0 <;> simp [h1, h2, h3, h4]
theorem z32 : ∀ i : Fin 32, (0 : Int32).toBitVec.getLsbD i.val = false := by decide
theorem m32 : ∀ i : Fin 32, (-1 : Int32).toBitVec.getLsbD i.val = true := by decide
theorem bitz (h : Int32) (k : Fin 32) (hk : ∀ i : Fin 32, h.toBitVec.getLsbD i.val = decide (i = k)) (x : Int32) : x &&& h = 0 ↔ x.toBitVec.getLsbD k.val = false := by
  constructor
  · intro q
    have e : (x &&& h).toBitVec.getLsbD k.val = (0 : Int32).toBitVec.getLsbD k.val := by rw [q]
    rw [Int32.toBitVec_and, BitVec.getLsbD_and, hk k, decide_eq_true rfl, Bool.and_true, z32] at e
    exact e
  · intro q
    apply i32_ext
    intro i
    rw [Int32.toBitVec_and, BitVec.getLsbD_and, hk i, z32]
    by_cases hik : i = k
    · subst hik
      rw [q, Bool.false_and]
    · rw [decide_eq_false hik, Bool.and_false]
theorem hi_bit (τ : StR) : ∃ k : Fin 32, ∀ x : Int32, x &&& f_X3_high τ = 0 ↔ x.toBitVec.getLsbD k.val = false := by
  unfold f_X3_high
  split
  · exact ⟨15, bitz _ 15 (by decide)⟩
  · exact ⟨7, bitz _ 7 (by decide)⟩
theorem all_mk (τ : StR) : f_X3_all τ = mkR τ := rfl
theorem t_sum {τ : StR} {ce : Nat → Int64} {x y d : Int32} (ho : okR τ) : f_X2_add (toC τ ce) x y d (mkR τ) = ((f_X3_sum τ x y d).1, toC (f_X3_sum τ x y d).2 ce) := by
  unfold f_X2_add f_X3_sum
  dsimp only
  rw [all_mk]
  have hv : f_X2_isHighestSet (((x ^^^ y) ^^^ (-1)) &&& (x ^^^ (((x + y) + d) &&& mkR τ))) (mkR τ) = if ((x ^^^ y) &&& f_X3_high τ) = 0 then (if ((x ^^^ (((x + y) + d) &&& mkR τ)) &&& f_X3_high τ) = 0 then 0 else 1) else 0 := by
    unfold f_X2_isHighestSet
    rw [mk_hi]
    obtain ⟨k, hk⟩ := hi_bit τ
    generalize x ^^^ (((x + y) + d) &&& mkR τ) = q
    generalize x ^^^ y = p
    simp only [hk, Int32.toBitVec_and, Int32.toBitVec_xor, BitVec.getLsbD_and, BitVec.getLsbD_xor]
    have h1 : (-1 : Int32).toBitVec.getLsbD k.val = true := m32 k
    rw [h1]
    generalize p.toBitVec.getLsbD k.val = b1
    generalize q.toBitVec.getLsbD k.val = b2
    revert b1 b2
    decide
  rw [hv, t_flags ho]
theorem t_logical {τ : StR} {ce : Nat → Int64} {x v : Int32} (ho : okR τ) : f_X2_logical (toC τ ce) x v (mkR τ) = (x, toC (f_X3_flags τ x (if x = 0 then 0 else 1) v) ce) := by
  unfold f_X2_logical
  dsimp only
  rw [t_flags ho]
theorem c_flag {x : Int32} : x &&& 1 = if (x &&& 1) = 0 then 0 else 1 := by
  obtain ⟨j, hj, e⟩ := pk_andE x (m := 1) 1 (by decide)
  rw [e]
  rcases (show j = 0 ∨ j = 1 by omega) with rfl | rfl <;> decide
theorem bic_mk {τ : StR} {x y : Int32} (hy : y &&& mkR τ = y) : y &&& (x ^^^ (-1)) = y &&& (x ^^^ mkR τ) := by
  rw [← hy]
  unfold mkR
  split <;> (
    apply i32_ext
    intro i
    simp only [Int32.toBitVec_and, Int32.toBitVec_xor, BitVec.getLsbD_and, BitVec.getLsbD_xor]
    generalize x.toBitVec.getLsbD i.val = b
    generalize y.toBitVec.getLsbD i.val = d
    revert i b d
    decide +kernel)
theorem t_decimal {τ : StR} {ce : Nat → Int64} {x y : Int32} (ho : okR τ) : f_X2_addDecimal (toC τ ce) x y (mkR τ) = ((f_X3_decimal τ x y).1, toC (f_X3_decimal τ x y).2 ce) := by
  have hc : (toC τ ce).1 (2 : Int32).toNatClampNeg &&& (1 : Int32) = f_X3_flag τ 1 := c_flag
  unfold f_X2_addDecimal f_X3_decimal
  dsimp only
  rw [hc]
  by_cases hz : τ.2.2.2.2.2.2.2.2 = 0
  · have e : mkR τ = 65535 := if_pos hz
    have d0 : ¬ mkR τ >>> ((0 : Int32) &&& 31) = 0 := by rw [e]; decide
    have d4 : ¬ mkR τ >>> ((4 : Int32) &&& 31) = 0 := by rw [e]; decide
    have d8 : ¬ mkR τ >>> ((8 : Int32) &&& 31) = 0 := by rw [e]; decide
    have d12 : ¬ mkR τ >>> ((12 : Int32) &&& 31) = 0 := by rw [e]; decide
    rw [if_pos hz, if_neg d0, if_neg d4, if_neg d8, if_neg d12]
    dsimp only
    rw [t_flags ho]
  · have e : mkR τ = 255 := if_neg hz
    have d0 : ¬ mkR τ >>> ((0 : Int32) &&& 31) = 0 := by rw [e]; decide
    have d4 : ¬ mkR τ >>> ((4 : Int32) &&& 31) = 0 := by rw [e]; decide
    have d8 : mkR τ >>> ((8 : Int32) &&& 31) = 0 := by rw [e]; decide
    rw [if_neg hz, if_neg d0, if_neg d4, if_pos d8]
    dsimp only
    rw [t_flags ho]
theorem t_joined {τ : StR} {ce : Nat → Int64} {op x y b : Int32} (ho : okR τ) (hb : b = 0 ↔ τ.2.2.2.2.2.2.2.2 = 0) (hy : y &&& mkR τ = y) : f_X2_combine (toC τ ce) op x y b = ((f_X3_joined τ op x y).1, toC (f_X3_joined τ op x y).2 ce) := by
  have hm : (if b = 0 then (65535 : Int32) else 255) = mkR τ := by
    unfold mkR
    by_cases h : b = 0
    · rw [if_pos h, if_pos (hb.mp h)]
    · rw [if_neg h, if_neg (fun q => h (hb.mpr q))]
  have hc : (toC τ ce).1 (2 : Int32).toNatClampNeg &&& (1 : Int32) = f_X3_flag τ 1 := c_flag
  unfold f_X2_combine f_X3_joined
  dsimp only
  rw [hm, all_mk, hc]
  by_cases h4 : op = 4
  · rw [if_pos h4, if_pos h4]
  rw [if_neg h4, if_neg h4]
  by_cases h5 : op = 5
  · rw [if_pos h5, if_pos h5, t_sum ho]
  rw [if_neg h5, if_neg h5]
  by_cases h6 : op = 6
  · rw [if_pos h6, if_pos h6, t_sum ho]
  rw [if_neg h6, if_neg h6]
  by_cases h7 : op = 7
  · rw [if_pos h7, if_pos h7, t_sum ho]
  rw [if_neg h7, if_neg h7]
  by_cases h8 : op = 8
  · rw [if_pos h8, if_pos h8, t_sum ho]
  rw [if_neg h8, if_neg h8]
  by_cases h9 : op = 9
  · rw [if_pos h9, if_pos h9, t_sum ho]
  rw [if_neg h9, if_neg h9]
  by_cases h10 : op = 10
  · rw [if_pos h10, if_pos h10, t_decimal ho]
  rw [if_neg h10, if_neg h10]
  by_cases h11 : op = 11
  · rw [if_pos h11, if_pos h11, t_logical ho]
  rw [if_neg h11, if_neg h11]
  by_cases h12 : op = 12
  · rw [if_pos h12, if_pos h12, bic_mk hy]
  rw [if_neg h12, if_neg h12]
  by_cases h13 : op = 13
  · rw [if_pos h13, if_pos h13]
  rw [if_neg h13, if_neg h13]
  by_cases h14 : op = 14
  · rw [if_pos h14, if_pos h14, t_logical ho]
    unfold f_X2_isHighestSet
    rw [mk_hi]
  rw [if_neg h14, if_neg h14, t_logical ho]
