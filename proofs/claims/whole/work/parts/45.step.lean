/-! places and values -/
theorem R_okR {σ : StC} {τ : StR} (h : Rel σ τ) : okR τ := by
  obtain ⟨_, _, _, ho, _⟩ := h
  exact ho
/-- part, where and bytes aren't the class's -/
theorem R_scr {σ : StC} {τ : StR} {pt wh bs : Int32} (hw : vp_in wh 131072) (h : Rel σ τ) : Rel σ (τ.1, τ.2.1, τ.2.2.1, τ.2.2.2.1, τ.2.2.2.2.1, τ.2.2.2.2.2.1, pt, wh, bs) := by
  obtain ⟨ce, rfl, hm, ho, hi⟩ := h
  exact ⟨ce, rfl, hm, ⟨ho.1, hw, ho.2.2⟩, hi⟩
theorem R_word {σ : StC} {τ : StR} {a : Int32} (ha : vp_in a 65536) (h : Rel σ τ) : f_X0_wordAt σ a = f_X3_wordAt τ a ∧ vp_in (f_X3_wordAt τ a) 65536 := by
  obtain ⟨ce, rfl, hm, ho, hi⟩ := h
  exact ⟨t_wordAt ha hm, in_wordAt ha hi⟩
theorem R_byte {σ : StC} {τ : StR} {a : Int32} (ha : vp_in a 65536) (h : Rel σ τ) : f_X0_byteAt σ a = f_X3_byteAt τ a := by
  obtain ⟨ce, rfl, hm, ho, hi⟩ := h
  exact t_byteAt ha hm hi
theorem R_reg {σ : StC} {τ : StR} (h : Rel σ τ) : σ.1 = τ.2.1 := by
  obtain ⟨ce, rfl, hm, ho, hi⟩ := h
  rfl
theorem R_r3 {σ : StC} {τ : StR} (h : Rel σ τ) : τ.2.1 3 = 0 := by
  obtain ⟨ce, rfl, hm, ho, hi⟩ := h
  exact hi.1
/-- where the class and the reference find an operand -/
def PL (p wh : Int32) : Prop := (vp_in p 65536 ∧ wh = 65536 + p) ∨ (∃ k : Nat, k < 16 ∧ p = nI (65536 + k) ∧ wh = (if k = 3 then 16 else nI k)) ∨ (∃ n : Nat, n < 65536 ∧ p = nI (131072 + n) ∧ wh = 16)
theorem mk_in {τ : StR} {v : Int32} (h : v &&& mkR τ = v) : (τ.2.2.2.2.2.2.2.2 = 0 → vp_in v 65536) ∧ (¬ τ.2.2.2.2.2.2.2.2 = 0 → vp_in v 256) := by
  refine ⟨fun q => ?_, fun q => ?_⟩
  · rw [← h, show mkR τ = 65535 from if_pos q]
    exact pk_andIn _ 16 (by decide) (by decide)
  · rw [← h, show mkR τ = 255 from if_neg q]
    exact pk_andIn _ 8 (by decide) (by decide)
theorem R_put {σ : StC} {τ : StR} {p wh v b : Int32} (hpl : PL p wh) (hb : b = 0 ↔ τ.2.2.2.2.2.2.2.2 = 0) (hv : v &&& mkR τ = v) (h : Rel σ τ) : Rel (f_X2_put σ p v b) (f_X3_write τ wh v) := by
  unfold f_X2_put f_X3_write
  dsimp only
  rcases hpl with ⟨hp, rfl⟩ | ⟨k, hk, rfl, rfl⟩ | ⟨n, hn, rfl, rfl⟩
  · obtain ⟨j, hj, rfl⟩ := vp_in_of hp (by decide)
    have e : (65536 : Int32) + nI j = nI (65536 + j) := by rw [show (65536 : Int32) = nI 65536 by decide, nI_add]
    have e2 : nI (65536 + j) - (65536 : Int32) = nI j := by rw [show (65536 : Int32) = nI 65536 by decide, pk_sub (by omega), Nat.add_sub_cancel_left]
    have c1 : nI j < 131072 := (nI_ltI (b := 131072) (by omega) (by decide)).mpr (by omega)
    have c2 : nI j < 65536 := (nI_ltI (b := 65536) (by omega) (by decide)).mpr (by omega)
    have c3 : 16 ≤ nI (65536 + j) := (nI_leI (a := 16) (by decide) (by omega)).mpr (by omega)
    have c4 : ¬ nI (65536 + j) < 65536 := fun q => by have := (nI_ltI (b := 65536) (by omega) (by decide)).mp q; omega
    rw [e, if_pos c1, if_pos c2, if_pos c3, if_neg c4, e2]
    by_cases hq : b = 0
    · rw [if_pos hq, if_pos (hb.mp hq)]
      exact R_writeWord hp ((mk_in hv).1 (hb.mp hq)) h
    · have hq2 : ¬ τ.2.2.2.2.2.2.2.2 = 0 := fun z => hq (hb.mpr z)
      rw [if_neg hq, if_neg hq2]
      exact R_writeByte hp ((mk_in hv).2 hq2) h
  · have c1 : nI (65536 + k) < 131072 := (nI_ltI (b := 131072) (by omega) (by decide)).mpr (by omega)
    have c2 : ¬ nI (65536 + k) < 65536 := fun q => by have := (nI_ltI (b := 65536) (by omega) (by decide)).mp q; omega
    have e : nI (65536 + k) &&& (15 : Int32) = nI k := by rw [pk_andN (by omega) 4 (by decide), show (65536 + k) % 2 ^ 4 = k by omega]
    rw [if_pos c1, if_neg c2, e]
    by_cases h3 : k = 3
    · subst h3
      rw [if_pos rfl, if_pos (by decide), if_pos (by decide)]
      unfold f_X2_setRegister
      rw [if_pos (by decide)]
      exact h
    · have c3 : ¬ 16 ≤ nI k := fun q => by have := (nI_leI (a := 16) (by decide) (by omega)).mp q; omega
      rw [if_neg h3, if_neg c3]
      exact R_setRegister (vp_in_nI hk (by decide)) h
  · have c1 : ¬ nI (131072 + n) < 131072 := fun q => by have := (nI_ltI (b := 131072) (by omega) (by decide)).mp q; omega
    rw [if_neg c1, if_pos (by decide), if_pos (by decide)]
    exact h
theorem R_add {σ : StC} {τ : StR} {a v : Int32} (ha : vp_in a 16) (h : Rel σ τ) : Rel (f_X2_addToRegister σ a v) (f_X3_setRegister τ a (τ.2.1 a.toNatClampNeg + v)) := by
  unfold f_X2_addToRegister
  dsimp only
  rw [and15 ha, R_reg h]
  exact R_setRegister ha h
theorem bs_set (τ : StR) (a v : Int32) : (f_X3_setRegister τ a v).2.2 = τ.2.2 := by
  unfold f_X3_setRegister
  split <;> rfl
theorem wd_set (τ : StR) (a v : Int32) : (f_X3_setRegister τ a v).1 = τ.1 := by
  unfold f_X3_setRegister
  split <;> rfl
theorem mk_set (τ : StR) (a v : Int32) : mkR (f_X3_setRegister τ a v) = mkR τ := by
  unfold mkR
  rw [bs_set]
theorem R_push {σ : StC} {τ : StR} {v b : Int32} (hb : b = 0 ↔ τ.2.2.2.2.2.2.2.2 = 0) (hv : v &&& mkR τ = v) (h : Rel σ τ) : Rel (f_X2_push σ v b) (f_X3_push τ v) := by
  have e : ((τ.2.1 (1 : Int32).toNatClampNeg) + (-2)) = ((τ.2.1 (1 : Int32).toNatClampNeg) - (2 : Int32)) := by rw [Int32.sub_eq_add_neg]
  have h1 := R_add (a := 1) (v := -2) (in_c (by decide)) h
  rw [e] at h1
  have hr := R_okR h1
  have ha := hr.1 1 (by decide)
  have hp : PL ((f_X3_setRegister τ 1 ((τ.2.1 (1 : Int32).toNatClampNeg) - (2 : Int32))).2.1 (1 : Int32).toNatClampNeg) ((65536 : Int32) + ((f_X3_setRegister τ 1 ((τ.2.1 (1 : Int32).toNatClampNeg) - (2 : Int32))).2.1 (1 : Int32).toNatClampNeg)) := Or.inl ⟨ha, rfl⟩
  have hb1 : b = 0 ↔ (f_X3_setRegister τ 1 ((τ.2.1 (1 : Int32).toNatClampNeg) - (2 : Int32))).2.2.2.2.2.2.2.2 = 0 := by rw [bs_set]; exact hb
  have key := R_put (b := b) (v := v) hp hb1 (by rw [mk_set]; exact hv) h1
  unfold f_X2_push f_X3_push
  dsimp only
  rw [R_reg h1]
  unfold f_X2_put at key
  obtain ⟨j, hj, ej⟩ := vp_in_of ha (by decide)
  have c1 : nI j < 131072 := (nI_ltI (b := 131072) (by omega) (by decide)).mpr (by omega)
  have c2 : nI j < 65536 := (nI_ltI (b := 65536) (by omega) (by decide)).mpr (by omega)
  rw [show (1 : Int32).toNatClampNeg = 1 from rfl] at key ej ⊢
  rw [ej] at key ⊢
  rw [if_pos c1, if_pos c2] at key
  exact key
theorem R_pop {σ : StC} {τ : StR} (h : Rel σ τ) : (f_X2_pop σ).1 = (f_X3_popped τ).1 ∧ Rel (f_X2_pop σ).2 (f_X3_popped τ).2 ∧ vp_in (f_X3_popped τ).1 65536 := by
  unfold f_X2_pop f_X3_popped
  dsimp only
  have ha := (R_okR h).1 1 (by decide)
  obtain ⟨e1, e2⟩ := R_word ha h
  rw [R_reg h]
  exact ⟨e1, R_add (a := 1) (in_c (by decide)) h, e2⟩
/-! the words' further ones: X -/
theorem R_taken {σ : StC} {τ : StR} (h : Rel σ τ) : f_X0_wordAt σ (σ.1 (0 : Int32).toNatClampNeg) = (f_X3_taken τ).1 ∧ Rel (f_X2_addToRegister σ 0 2) (f_X3_taken τ).2 ∧ vp_in (f_X3_taken τ).1 65536 ∧ (f_X3_taken τ).2.2.2 = τ.2.2 := by
  unfold f_X3_taken
  dsimp only
  have ha := (R_okR h).1 0 (by decide)
  obtain ⟨e1, e2⟩ := R_word ha h
  rw [R_reg h]
  exact ⟨e1, R_add (a := 0) (in_c (by decide)) h, e2, bs_set _ _ _⟩
/-- what both find at a place of the memory -/
theorem R_mval {σ : StC} {τ : StR} {a b : Int32} (ha : vp_in a 65536) (hb : b = 0 ↔ τ.2.2.2.2.2.2.2.2 = 0) (h : Rel σ τ) : f_X2_valueAt σ a b = f_X3_valueAt τ a ∧ f_X3_valueAt τ a &&& mkR τ = f_X3_valueAt τ a := by
  unfold f_X2_valueAt f_X3_valueAt
  dsimp only
  obtain ⟨j, hj, ej⟩ := vp_in_of ha (by decide)
  have c2 : ¬ 65536 ≤ a := by rw [ej]; intro q; have := (nI_leI (a := 65536) (by decide) (by omega)).mp q; omega
  rw [if_neg c2]
  by_cases hq : b = 0
  · have hz := hb.mp hq
    rw [if_pos hq, if_pos hz, show mkR τ = 65535 from if_pos hz]
    obtain ⟨e1, e2⟩ := R_word ha h
    exact ⟨e1, in16_iff.mp e2⟩
  · have hz : ¬ τ.2.2.2.2.2.2.2.2 = 0 := fun z => hq (hb.mpr z)
    rw [if_neg hq, if_neg hz, show mkR τ = 255 from if_neg hz]
    refine ⟨R_byte ha h, ?_⟩
    obtain ⟨w, hw, e⟩ := vp_in_of (in_byteAt (τ := τ) (a := a)) (by decide)
    rw [e, pk_andN (by omega) 8 (by decide), Nat.mod_eq_of_lt (by omega)]
/-- a place, its value, and the states behind: what is told of sources and destinations -/
def SRC (q : Int32 × StC) (τ τ' : StR) (b : Int32) : Prop := Rel q.2 τ' ∧ τ'.2.2.2.2.2.2.2.2 = τ.2.2.2.2.2.2.2.2 ∧ PL q.1 τ'.2.2.2.2.2.2.2.1 ∧ f_X2_valueAt q.2 q.1 b = τ'.2.2.2.2.2.2.1 ∧ τ'.2.2.2.2.2.2.1 &&& mkR τ = τ'.2.2.2.2.2.2.1
theorem R_indexed {σ : StC} {τ : StR} {s b : Int32} (hs : vp_in s 16) (hb : b = 0 ↔ τ.2.2.2.2.2.2.2.2 = 0) (h : Rel σ τ) : SRC (f_X2_indexedPlace σ s) τ (f_X3_indexed τ s) b := by
  obtain ⟨e1, h1, -, e3⟩ := R_taken h
  have hbase : (if s = 2 then 0 else σ.1 (s &&& (15 : Int32)).toNatClampNeg) = (if s = 0 then τ.2.1 (0 : Int32).toNatClampNeg else if 4 ≤ s then τ.2.1 s.toNatClampNeg else if s = 1 then τ.2.1 s.toNatClampNeg else 0) := by
    rw [and15 hs, R_reg h]
    have h3 := R_r3 h
    obtain ⟨k, hk, rfl⟩ := vp_in_of hs (by decide)
    rcases (show k = 0 ∨ k = 1 ∨ k = 2 ∨ k = 3 ∨ 4 ≤ k by omega) with rfl | rfl | rfl | rfl | h4
    · rw [if_neg (by decide), if_pos (by decide)]; rfl
    · rw [if_neg (by decide), if_neg (by decide), if_neg (by decide), if_pos (by decide)]
    · rw [if_pos (by decide), if_neg (by decide), if_neg (by decide), if_neg (by decide)]
    · rw [if_neg (by decide), if_neg (by decide), if_neg (by decide), if_neg (by decide)]
      exact h3
    · have c2 : ¬ nI k = 2 := fun q => by have := (nI_eq (b := 2) (by omega) (by decide)).mp q; omega
      have c0 : ¬ nI k = 0 := fun q => by have := (nI_eq (b := 0) (by omega) (by decide)).mp q; omega
      have c4 : 4 ≤ nI k := (nI_leI (a := 4) (by decide) (by omega)).mpr h4
      rw [if_neg c2, if_neg c0, if_pos c4]
  have hbs : (f_X3_taken τ).2.2.2.2.2.2.2.2.2 = τ.2.2.2.2.2.2.2.2 := by rw [e3]
  have hmk : mkR (f_X3_taken τ).2 = mkR τ := by unfold mkR; rw [hbs]
  unfold f_X2_indexedPlace f_X3_indexed f_X3_memory
  dsimp only
  rw [hbase, e1, Int32.add_comm (f_X3_taken τ).1]
  generalize hv : ((if s = 0 then τ.2.1 (0 : Int32).toNatClampNeg else if 4 ≤ s then τ.2.1 s.toNatClampNeg else if s = 1 then τ.2.1 s.toNatClampNeg else 0) + (f_X3_taken τ).1) &&& (65535 : Int32) = a
  have ha : vp_in a 65536 := by rw [← hv]; exact and35_in _
  obtain ⟨m1, m2⟩ := R_mval (b := b) ha (by rw [hbs]; exact hb) h1
  exact ⟨R_scr (at_in ha) h1, hbs, Or.inl ⟨ha, rfl⟩, m1, by rw [← hmk]; exact m2⟩
