/-! a step, a run, the other calls -/
theorem asg_tab : ∀ j, j < 769 → (f_X2_isUnassigned (nI (4096 + j)) = 0 ↔ ¬ f_X3_isAssigned (nI (4096 + j)) = 0) ∧ (¬ f_X3_isAssigned (nI (4096 + j)) = 0 → j < 768 → ((4096 + j) / 128 % 8 = 1 ∨ (4096 + j) / 128 % 8 = 3 ∨ (4096 + j) / 128 % 8 = 5) → nI (4096 + j) &&& (64 : Int32) = 0) := by decide +kernel
theorem asg {n : Nat} (hn : n < 65536) : (f_X2_isUnassigned (nI n) = 0 ↔ ¬ f_X3_isAssigned (nI n) = 0) ∧ (¬ f_X3_isAssigned (nI n) = 0 → n < 8192 → 4096 ≤ n ∧ n ≤ 4864 ∧ (n < 4864 → (n / 128 % 8 = 1 ∨ n / 128 % 8 = 3 ∨ n / 128 % 8 = 5) → nI n &&& (64 : Int32) = 0)) := by
  have e1 : (nI n < 8192) ↔ n < 8192 := nI_ltI (b := 8192) (by omega) (by omega)
  have e2 : (nI n < 4096) ↔ n < 4096 := nI_ltI (b := 4096) (by omega) (by omega)
  have e3 : (nI n ≤ 4864) ↔ n ≤ 4864 := nI_leI (b := 4864) (by omega) (by omega)
  by_cases h1 : n < 8192
  · by_cases h2 : n < 4096
    · have u : f_X2_isUnassigned (nI n) = 1 := by
        unfold f_X2_isUnassigned
        rw [if_pos (e1.mpr h1), if_pos (e2.mpr h2)]
      have a : f_X3_isAssigned (nI n) = 0 := by
        unfold f_X3_isAssigned
        rw [if_pos (e1.mpr h1), if_pos (e2.mpr h2)]
      rw [u, a]
      exact ⟨⟨fun q => absurd q (by decide), fun q => absurd rfl q⟩, fun q => absurd rfl q⟩
    · by_cases h3 : n ≤ 4864
      · obtain ⟨j, rfl⟩ : ∃ j, n = 4096 + j := ⟨n - 4096, by omega⟩
        obtain ⟨t1, t2⟩ := asg_tab j (by omega)
        exact ⟨t1, fun q _ => ⟨by omega, h3, fun z => t2 q (by omega)⟩⟩
      · have u : f_X2_isUnassigned (nI n) = 1 := by
          unfold f_X2_isUnassigned
          rw [if_pos (e1.mpr h1), if_neg (fun q => h2 (e2.mp q)), if_neg (fun q => h3 (e3.mp q))]
        have a : f_X3_isAssigned (nI n) = 0 := by
          unfold f_X3_isAssigned
          rw [if_pos (e1.mpr h1), if_neg (fun q => h2 (e2.mp q)), if_neg (fun q => h3 (e3.mp q))]
        rw [u, a]
        exact ⟨⟨fun q => absurd q (by decide), fun q => absurd rfl q⟩, fun q => absurd rfl q⟩
  · have u : f_X2_isUnassigned (nI n) = 0 := by
      unfold f_X2_isUnassigned
      rw [if_neg (fun q => h1 (e1.mp q))]
    have a : f_X3_isAssigned (nI n) = 1 := by
      unfold f_X3_isAssigned
      rw [if_neg (fun q => h1 (e1.mp q))]
    rw [u, a]
    exact ⟨⟨fun _ => by decide, fun _ => rfl⟩, fun _ q => absurd q h1⟩
def bsOf (x : Int32) : Int32 := (if 16384 ≤ x then
            if (x &&& (64 : Int32)) = 0 then
              0
            else
              1
          else
            if 8192 ≤ x then
              0
            else
              if (x &&& (64 : Int32)) = 0 then
                0
              else
                1)
def exC (σ : StC) (x4 : Int32) : StC := (if x4 < 16384 then
          if x4 < 8192 then
            if x4 = 4864 then
              let σ13 : StC := (f_X2_returnFromInterrupt σ);
              σ13
            else
              let σ12 : StC := (f_X2_doOnePart σ x4);
              σ12
          else
            let σ14 : StC := (f_X2_doJump σ x4);
            σ14
        else
          let σ15 : StC := (f_X2_doTwoParts σ x4);
          σ15)
def exR (τ : StR) (x5 : Int32) : StR := (if x5 < 16384 then
          if x5 < 8192 then
            let σ15 : StR := (f_X3_onePart τ x5);
            σ15
          else
            let σ16 : StR := (f_X3_jump τ x5);
            σ16
        else
          let σ17 : StR := (f_X3_twoParts τ x5);
          σ17)
theorem bs_iff {x : Int32} (h : ¬ 8192 ≤ x ∨ 16384 ≤ x) : (x &&& (64 : Int32)) = 0 ↔ bsOf x = 0 := by
  have k : (x &&& (64 : Int32)) = 0 ↔ (if (x &&& (64 : Int32)) = 0 then (0 : Int32) else 1) = 0 := by
    by_cases q : (x &&& (64 : Int32)) = 0
    · rw [if_pos q]; exact ⟨fun _ => rfl, fun _ => q⟩
    · rw [if_neg q]; exact ⟨fun z => absurd z q, fun z => absurd z (by decide)⟩
  unfold bsOf
  by_cases h1 : 16384 ≤ x
  · rw [if_pos h1]; exact k
  · rw [if_neg h1]
    rcases h with h | h
    · rw [if_neg h]; exact k
    · exact absurd h h1
theorem R_exec {σ : StC} {τ : StR} {n : Nat} (hn : n < 65536) (ha : ¬ f_X3_isAssigned (nI n) = 0) (hb : τ.2.2.2.2.2.2.2.2 = bsOf (nI n)) (h : Rel σ τ) : Rel (exC σ (nI n)) (exR τ (nI n)) := by
  have e1 : (nI n < 8192) ↔ n < 8192 := nI_ltI (b := 8192) (by omega) (by omega)
  have e1' : (8192 ≤ nI n) ↔ 8192 ≤ n := nI_leI (a := 8192) (by omega) (by omega)
  have e2 : (nI n < 16384) ↔ n < 16384 := nI_ltI (b := 16384) (by omega) (by omega)
  have e2' : (16384 ≤ nI n) ↔ 16384 ≤ n := nI_leI (a := 16384) (by omega) (by omega)
  have e3 : (nI n = 4864) ↔ n = 4864 := nI_eq (b := 4864) (by omega) (by omega)
  unfold exC exR
  by_cases h2 : n < 16384
  · rw [if_pos (e2.mpr h2), if_pos (e2.mpr h2)]
    by_cases h1 : n < 8192
    · rw [if_pos (e1.mpr h1), if_pos (e1.mpr h1)]
      obtain ⟨b1, b2, b3⟩ := (asg hn).2 ha h1
      by_cases h3 : n = 4864
      · rw [if_pos (e3.mpr h3)]
        subst h3
        exact R_reti h
      · rw [if_neg (fun q => h3 (e3.mp q))]
        have hw := bs_iff (x := nI n) (Or.inl (fun q => by have := e1'.mp q; omega))
        rw [← hb] at hw
        exact R_onePart b1 (by omega) (fun q => hw.mp (b3 (by omega) q)) hw h
    · rw [if_neg (fun q => h1 (e1.mp q)), if_neg (fun q => h1 (e1.mp q))]
      exact R_jump h
  · rw [if_neg (fun q => h2 (e2.mp q)), if_neg (fun q => h2 (e2.mp q))]
    have hw := bs_iff (x := nI n) (Or.inr (e2'.mpr (by omega)))
    rw [← hb] at hw
    exact R_twoParts hw h
def goC (σ : StC) : Int32 × StC :=
  if ((σ.1 (2 : Int32).toNatClampNeg) &&& (16 : Int32)) = 0 then
    if f_X2_isUnassigned (f_X0_wordAt σ (σ.1 (0 : Int32).toNatClampNeg)) = 0 then (0, exC (f_X2_addToRegister σ 0 2) (f_X0_wordAt σ (σ.1 (0 : Int32).toNatClampNeg))) else (2, σ)
  else (1, σ)
def scR (τ : StR) (b : Int32) : StR := (τ.1, τ.2.1, τ.2.2.1, τ.2.2.2.1, τ.2.2.2.2.1, τ.2.2.2.2.2.1, τ.2.2.2.2.2.2.1, τ.2.2.2.2.2.2.2.1, b)
def goR (σ : StR) : Int32 × StR :=
  if f_X3_flag σ 16 = 1 then (1, σ)
  else if f_X3_isAssigned (f_X3_wordAt σ (σ.2.1 (0 : Int32).toNatClampNeg)) = 0 then (2, σ)
  else (0, exR (scR (f_X3_taken σ).2 (bsOf (f_X3_wordAt σ (σ.2.1 (0 : Int32).toNatClampNeg)))) (f_X3_wordAt σ (σ.2.1 (0 : Int32).toNatClampNeg)))
theorem step_C (σ : StC) : f_X2_step σ = if ((σ.1 (2 : Int32).toNatClampNeg) &&& (8 : Int32)) = 0 then goC σ else if σ.2.1 = 0 then goC σ else (0, f_X2_interrupt σ) := rfl
theorem step_R (σ : StR) : f_X3_step σ = if f_X3_flag σ 8 = 1 then (if σ.2.2.2.2.1 = 0 then goR σ else (0, f_X3_interrupt σ)) else goR σ := rfl
theorem flag1 {σ : StC} {τ : StR} {f : Int32} (h : Rel σ τ) : f_X3_flag τ f = 1 ↔ ¬ ((σ.1 (2 : Int32).toNatClampNeg) &&& f) = 0 := by
  unfold f_X3_flag
  rw [R_reg h]
  by_cases q : ((τ.2.1 (2 : Int32).toNatClampNeg) &&& f) = 0
  · rw [if_pos q]; exact ⟨fun z => absurd z (by decide), fun z => absurd q z⟩
  · rw [if_neg q]; exact ⟨fun _ => q, fun _ => rfl⟩
theorem R_go {σ : StC} {τ : StR} (h : Rel σ τ) : (goC σ).1 = (goR τ).1 ∧ Rel (goC σ).2 (goR τ).2 := by
  have f16 := flag1 (f := 16) h
  obtain ⟨w1, t2, w2, -⟩ := R_taken h
  have ex : (f_X3_taken τ).1 = f_X3_wordAt τ (τ.2.1 (0 : Int32).toNatClampNeg) := rfl
  rw [ex] at w1 w2
  obtain ⟨n, hn, en⟩ := vp_in_of w2 (by decide)
  have ha := (asg hn).1
  unfold goC goR
  rw [w1, en]
  by_cases q : ((σ.1 (2 : Int32).toNatClampNeg) &&& (16 : Int32)) = 0
  · rw [if_pos q, if_neg (fun z => f16.mp z q)]
    by_cases q2 : f_X3_isAssigned (nI n) = 0
    · rw [if_pos q2, if_neg (fun z => ha.mp z q2)]
      exact ⟨rfl, h⟩
    · rw [if_neg q2, if_pos (ha.mpr q2)]
      exact ⟨rfl, R_exec hn q2 rfl (R_scr (R_okR t2).2.1 t2)⟩
  · rw [if_neg q, if_pos (f16.mpr q)]
    exact ⟨rfl, h⟩
theorem R_line {σ : StC} {τ : StR} (h : Rel σ τ) : σ.2.1 = τ.2.2.2.2.1 := by
  obtain ⟨ce, rfl, _⟩ := h
  rfl
theorem R_step {σ : StC} {τ : StR} (h : Rel σ τ) : (f_X2_step σ).1 = (f_X3_step τ).1 ∧ Rel (f_X2_step σ).2 (f_X3_step τ).2 := by
  have f8 := flag1 (f := 8) h
  have hl := R_line h
  rw [step_C, step_R]
  by_cases q : ((σ.1 (2 : Int32).toNatClampNeg) &&& (8 : Int32)) = 0
  · rw [if_pos q, if_neg (fun z => f8.mp z q)]
    exact R_go h
  · rw [if_neg q, if_pos (f8.mpr q)]
    by_cases q2 : τ.2.2.2.2.1 = 0
    · rw [if_pos q2, if_pos (hl.trans q2)]
      exact R_go h
    · rw [if_neg q2, if_neg (fun z => q2 (hl.symm.trans z))]
      exact ⟨rfl, R_interrupt q2 h⟩
theorem step_told (τ : StR) : (f_X3_step τ).1 = 0 ∨ (f_X3_step τ).1 = 2 ∨ ((f_X3_step τ).1 = 1 ∧ (f_X3_step τ).2 = τ) := by
  have g : (goR τ).1 = 0 ∨ (goR τ).1 = 2 ∨ ((goR τ).1 = 1 ∧ (goR τ).2 = τ) := by
    unfold goR
    split
    · exact Or.inr (Or.inr ⟨rfl, rfl⟩)
    · split
      · exact Or.inr (Or.inl rfl)
      · exact Or.inl rfl
  rw [step_R]
  split
  · split
    · exact g
    · exact Or.inl rfl
  · exact g
theorem loop_R1 (q : Nat) {τ : StR} (h : f_X3_step τ = (1, τ)) : f_X3_loop q τ 1 = (1, τ) := by
  induction q with
  | zero => rfl
  | succ q ih =>
    unfold f_X3_loop
    rw [if_neg (by decide), h]
    exact ih
theorem R_loop (q : Nat) : ∀ {σ : StC} {τ : StR} {told : Int32}, Rel σ τ → (told = 0 ∨ told = 2 ∨ (told = 1 ∧ f_X3_step τ = (1, τ))) → (f_X2_loop q σ told).1 = (f_X3_loop q τ told).1 ∧ Rel (f_X2_loop q σ told).2 (f_X3_loop q τ told).2 := by
  induction q with
  | zero => intro σ τ told h _; exact ⟨rfl, h⟩
  | succ q ih =>
    intro σ τ told h ht
    rcases ht with rfl | rfl | ⟨rfl, hs⟩
    · obtain ⟨s1, s2⟩ := R_step h
      unfold f_X2_loop f_X3_loop
      rw [if_pos rfl, if_neg (by decide), s1]
      refine ih s2 ?_
      rcases step_told τ with z | z | ⟨z1, z2⟩
      · exact Or.inl z
      · exact Or.inr (Or.inl z)
      · refine Or.inr (Or.inr ⟨z1, ?_⟩)
        rw [z2]
        exact Prod.ext z1 z2
    · unfold f_X2_loop f_X3_loop
      rw [if_neg (by decide), if_pos rfl]
      exact ⟨rfl, h⟩
    · rw [loop_R1 _ hs]
      unfold f_X2_loop
      rw [if_neg (by decide)]
      exact ⟨rfl, h⟩
theorem R_run {σ : StC} {τ : StR} {a : Int32} (h : Rel σ τ) : (f_X2_run σ a).1 = (f_X3_run τ a).1 ∧ Rel (f_X2_run σ a).2 (f_X3_run τ a).2 := by
  unfold f_X2_run f_X3_run
  split
  · exact ⟨rfl, h⟩
  · split
    · exact R_loop _ h (Or.inl rfl)
    · exact ⟨rfl, h⟩
theorem slot_put {τ : StR} {ce : Nat → Int64} {s : Nat} {v : Int32} (hs : s < 8) : f_X1_placeWordAtSlot (toC τ ce) (nI s) v = toC (τ.1, τ.2.1, upd τ.2.2.1 (if s < 4 then 0 else s - 3) v, τ.2.2.2) ce := by
  obtain ⟨wd, r, bb, how, ln, cy, pt, wh, bs⟩ := τ
  unfold f_X1_placeWordAtSlot
  rcases (show s = 0 ∨ s = 1 ∨ s = 2 ∨ s = 3 ∨ s = 4 ∨ s = 5 ∨ s = 6 ∨ s = 7 by omega) with rfl | rfl | rfl | rfl | rfl | rfl | rfl | rfl
  · rw [if_neg (by decide), if_neg (by decide), if_neg (by decide), if_neg (by decide)]; rfl
  · rw [if_neg (by decide), if_neg (by decide), if_neg (by decide), if_neg (by decide)]; rfl
  · rw [if_neg (by decide), if_neg (by decide), if_neg (by decide), if_neg (by decide)]; rfl
  · rw [if_neg (by decide), if_neg (by decide), if_neg (by decide), if_neg (by decide)]; rfl
  · rw [if_pos (by decide)]; rfl
  · rw [if_neg (by decide), if_pos (by decide)]; rfl
  · rw [if_neg (by decide), if_neg (by decide), if_pos (by decide)]; rfl
  · rw [if_neg (by decide), if_neg (by decide), if_neg (by decide), if_pos (by decide)]; rfl
theorem in_v {v : Int32} (h1 : ¬ v < 0) (h2 : v ≤ 255) : vp_in v 256 := by
  rw [vp_in_iff]
  rw [Int32.lt_iff_toInt_lt] at h1
  rw [Int32.le_iff_toInt_le] at h2
  have e0 : (0 : Int32).toInt = 0 := by decide
  have e2 : (255 : Int32).toInt = 255 := by decide
  omega
theorem R_poke {σ : StC} {τ : StR} {a v : Int32} (h : Rel σ τ) : (f_X2_poke σ a v).1 = (f_X3_poke τ a v).1 ∧ Rel (f_X2_poke σ a v).2 (f_X3_poke τ a v).2 := by
  have two : ∀ {x y : Int32 × StC} {x' y' : Int32 × StR} {c : Prop} [Decidable c], (c → x.1 = x'.1 ∧ Rel x.2 x'.2) → (¬ c → y.1 = y'.1 ∧ Rel y.2 y'.2) → (if c then x else y).1 = (if c then x' else y').1 ∧ Rel (if c then x else y).2 (if c then x' else y').2 := by
    intro x y x' y' c _ p q
    split
    · exact p ‹_›
    · exact q ‹_›
  unfold f_X2_poke f_X3_poke
  dsimp only
  by_cases h0 : a < 0
  · have ea : f_X3_isAddress a = 0 := by unfold f_X3_isAddress; rw [if_pos h0]
    rw [if_pos h0, if_pos ea]
    exact ⟨rfl, h⟩
  · rw [if_neg h0]
    by_cases h6 : 65536 ≤ a
    · have ea : f_X3_isAddress a = 0 := by unfold f_X3_isAddress; rw [if_neg h0, if_pos h6]
      rw [if_pos h6, if_pos ea]
      exact ⟨rfl, h⟩
    · have ea : f_X3_isAddress a = 1 := by unfold f_X3_isAddress; rw [if_neg h0, if_neg h6]
      have hn : ¬ f_X3_isAddress a = 0 := by rw [ea]; decide
      have ha := isAddr_in hn
      rw [if_neg h6, if_neg hn]
      refine two (fun _ => ⟨rfl, h⟩) (fun v0 => two (fun v2 => ?_) (fun _ => ⟨rfl, h⟩))
      refine ⟨rfl, ?_⟩
      have hv := in_v v0 v2
      obtain ⟨ce, rfl, hm, ho, hi⟩ := h
      unfold f_X0_placeByte
      dsimp only
      rw [t_wordAt ha hm, isMul_eq ha]
      by_cases hz : f_X3_isMultiplier a = 0
      · rw [if_pos hz, if_pos hz]
        have ew : f_X3_wordAt τ a = (τ.1 (a >>> ((1 : Int32) &&& 31)).toNatClampNeg) &&& (65535 : Int32) := by
          unfold f_X3_wordAt
          exact if_pos hz
        obtain ⟨ce', e1, e2⟩ := t_placeWord (ce := ce) (v := f_X3_withByte ((τ.1 (a >>> ((1 : Int32) &&& 31)).toNatClampNeg) &&& (65535 : Int32)) a v) ha (in_withByte (and35_in _) hv)
        rw [ew]
        exact ⟨ce', e1 τ, e2 _ hm, okR_of ho rfl rfl rfl, hi⟩
      · rw [if_neg hz, if_neg hz]
        have hwi := in_wordAt ha hi
        have ew : f_X3_wordAt τ a = τ.2.2.1 (f_X3_which a).toNatClampNeg := by
          unfold f_X3_wordAt
          exact if_neg hz
        have hwb := in_withByte (a := a) hwi hv
        obtain ⟨j, hj, rfl⟩ := vp_in_of ha (by decide)
        obtain ⟨h1, h2⟩ := isMul_j hj hz
        obtain ⟨e1, -, e3⟩ := slot_tab j h2 h1
        have e4 : (f_X3_which (nI j)).toNatClampNeg = (if (j - 304) / 2 < 4 then 0 else (j - 304) / 2 - 3) := by
          rw [e3]
          split
          · rw [if_pos (by omega)]; exact nI_clamp (by omega)
          · rw [if_neg (by omega)]; exact nI_clamp (by omega)
        rw [ew] at hwb
        rw [e1, ew, e4]
        rw [e4] at hwb
        refine ⟨ce, slot_put (by omega), hm, okR_of ho rfl rfl rfl, hi.1, bb_upd hi.2.1 hwb, hi.2.2⟩
theorem R_peek {σ : StC} {τ : StR} {a : Int32} (h : Rel σ τ) : f_X2_peek σ a = f_X3_peek τ a := by
  unfold f_X2_peek f_X3_peek
  dsimp only
  by_cases h0 : a < 0
  · have ea : f_X3_isAddress a = 0 := by unfold f_X3_isAddress; rw [if_pos h0]
    rw [if_pos h0, if_pos ea]
  · rw [if_neg h0]
    by_cases h6 : 65536 ≤ a
    · have ea : f_X3_isAddress a = 0 := by unfold f_X3_isAddress; rw [if_neg h0, if_pos h6]
      rw [if_neg (fun q => Int32.lt_irrefl (Int32.lt_of_lt_of_le q h6)), if_pos ea]
    · have ea : f_X3_isAddress a = 1 := by unfold f_X3_isAddress; rw [if_neg h0, if_neg h6]
      have hn : ¬ f_X3_isAddress a = 0 := by rw [ea]; decide
      rw [if_pos (Int32.not_le.mp h6), if_neg hn]
      exact R_byte (isAddr_in hn) h
theorem R_regAt {σ : StC} {τ : StR} {a : Int32} (h : Rel σ τ) : f_X2_reg σ a = f_X3_reg τ a := by
  unfold f_X2_reg f_X3_reg
  rw [R_reg h]
  by_cases h0 : a < 0
  · rw [if_pos h0, if_pos h0]
  · rw [if_neg h0, if_neg h0]
    by_cases h6 : 16 ≤ a
    · rw [if_neg (fun q => Int32.lt_irrefl (Int32.lt_of_lt_of_le q h6)), if_pos h6]
    · rw [if_pos (Int32.not_le.mp h6), if_neg h6]
theorem or_in14 {x : Int32} {k : Nat} (hx : vp_in x 16384) (hk : k < 14) : vp_in (x ||| ((1 : Int32) <<< (nI k &&& 31))) 16384 := by
  obtain ⟨j, hj, rfl⟩ := vp_in_of hx (by decide)
  have hp : (2 : Nat) ^ k ≤ 2 ^ 13 := Nat.pow_le_pow_right (by decide) (by omega)
  have e : (1 : Int32) <<< (nI k &&& 31) = nI (2 ^ k) := by
    have t : ∀ k, k < 14 → (1 : Int32) <<< (nI k &&& 31) = nI (2 ^ k) := by decide +kernel
    exact t k hk
  rw [e, show nI j ||| nI (2 ^ k) = nI (j ||| 2 ^ k) by
    apply Int32.toBitVec_inj.mp
    rw [Int32.toBitVec_or]
    show BitVec.ofNat 32 j ||| BitVec.ofNat 32 (2 ^ k) = BitVec.ofNat 32 (j ||| 2 ^ k)
    apply BitVec.eq_of_toNat_eq
    rw [BitVec.toNat_or, BitVec.toNat_ofNat, BitVec.toNat_ofNat, BitVec.toNat_ofNat]
    exact (Nat.or_mod_two_pow (n := 32)).symm]
  have : j ||| 2 ^ k < 2 ^ 14 := Nat.or_lt_two_pow hj (by omega)
  exact vp_in_nI this (by decide)
theorem R_raise {σ : StC} {τ : StR} {a : Int32} (h : Rel σ τ) : (f_X2_raise σ a).1 = (f_X3_raise τ a).1 ∧ Rel (f_X2_raise σ a).2 (f_X3_raise τ a).2 := by
  unfold f_X2_raise f_X3_raise
  by_cases h0 : a < 0
  · rw [if_pos h0, if_pos h0]
    exact ⟨rfl, h⟩
  · rw [if_neg h0, if_neg h0]
    have e0 : (0 : Int32).toInt = 0 := by decide
    have e13 : (13 : Int32).toInt = 13 := by decide
    have e14 : (14 : Int32).toInt = 14 := by decide
    have i0 := h0
    rw [Int32.lt_iff_toInt_lt] at i0
    by_cases h6 : a < 14
    · have h7 := h6
      rw [Int32.lt_iff_toInt_lt] at h7
      rw [if_pos h6, if_pos (by rw [Int32.le_iff_toInt_le]; omega)]
      refine ⟨rfl, ?_⟩
      have hi14 : vp_in a 14 := by rw [vp_in_iff]; omega
      obtain ⟨k, hk, rfl⟩ := vp_in_of hi14 (by decide)
      obtain ⟨ce, rfl, hm, ho, hi⟩ := h
      exact ⟨ce, rfl, hm, ⟨ho.1, ho.2.1, or_in14 ho.2.2 hk⟩, hi⟩
    · have h7 := h6
      rw [Int32.lt_iff_toInt_lt] at h7
      rw [if_neg h6, if_neg (by rw [Int32.le_iff_toInt_le]; omega)]
      exact ⟨rfl, h⟩
theorem R_cycles {σ : StC} {τ : StR} (h : Rel σ τ) : f_X2_cyclesOf σ = f_X3_cyclesOf τ := by
  obtain ⟨ce, rfl, _⟩ := h
  rfl
theorem R_pending {σ : StC} {τ : StR} (h : Rel σ τ) : f_X2_pending σ = f_X3_pending τ := by
  obtain ⟨ce, rfl, _⟩ := h
  rfl
theorem R_mode {σ : StC} {τ : StR} (h : Rel σ τ) : f_X2_mode σ = f_X3_mode τ := by
  obtain ⟨ce, rfl, _⟩ := h
  rfl
theorem rz {r : Nat → Int32} (h : ∀ k, k < 16 → vp_in (r k) 65536) : ∀ k, k < 16 → vp_in (upd (upd (upd (upd (upd (upd (upd (upd (upd (upd (upd (upd (upd (upd (upd (upd r ((0 : Int32).toNatClampNeg) 0) ((1 : Int32).toNatClampNeg) 0) ((2 : Int32).toNatClampNeg) 0) ((3 : Int32).toNatClampNeg) 0) ((4 : Int32).toNatClampNeg) 0) ((5 : Int32).toNatClampNeg) 0) ((6 : Int32).toNatClampNeg) 0) ((7 : Int32).toNatClampNeg) 0) ((8 : Int32).toNatClampNeg) 0) ((9 : Int32).toNatClampNeg) 0) ((10 : Int32).toNatClampNeg) 0) ((11 : Int32).toNatClampNeg) 0) ((12 : Int32).toNatClampNeg) 0) ((13 : Int32).toNatClampNeg) 0) ((14 : Int32).toNatClampNeg) 0) ((15 : Int32).toNatClampNeg) 0 k) 65536 := by
  have z : vp_in (0 : Int32) 65536 := vp_in_nI (n := 0) (by decide) (by decide)
  repeat apply rOK_upd (hv := z)
  exact h
theorem R_init {σ : StC} {τ : StR} (h : Rel σ τ) : Rel (f_X2_init_ σ) (f_X3_init_ τ) := by
  obtain ⟨ce, rfl, hm, ho, hi⟩ := h
  have z : vp_in (0 : Int32) 65536 := vp_in_nI (n := 0) (by decide) (by decide)
  unfold f_X2_init_ f_X3_init_ f_X1_clear
  dsimp only
  have key : ∀ (σ1 : StC) (τ1 : StR), Rel σ1 τ1 → Rel (f_X2_setRegister σ1 0 (f_X0_wordAt σ1 65534)) (f_X3_setRegister τ1 0 (f_X3_wordAt τ1 65534)) := by
    intro σ1 τ1 h1
    rw [(R_word (a := 65534) (vp_in_nI (n := 65534) (by decide) (by decide)) h1).1]
    exact R_setRegister (in_c (by decide)) h1
  refine key _ _ ⟨ce, rfl, hm, ⟨rz ho.1, ho.2.1, vp_in_nI (n := 0) (by decide) (by decide)⟩, ?_, ?_, vp_in_nI (n := 0) (by decide) (by decide)⟩
  · rfl
  · exact bb_upd (bb_upd (bb_upd (bb_upd (bb_upd hi.2.1 z) z) z) z) z
theorem R_start : Rel (f_X2_init_ σ0) (f_X3_init_ τ0) := by
  refine R_init ⟨fun _ => 0, rfl, ?_, ⟨fun _ _ => ?_, ?_, ?_⟩, rfl, fun _ _ => ?_, ?_⟩
  · intro j hj
    have hs : j % 4 * 16 < 64 := by omega
    rw [wordC_n (n := 0) (by decide) rfl]
    rw [Nat.zero_div]
    show nI (0 % 2 ^ 16) = (0 : Int32) &&& 65535
    decide
  · exact vp_in_nI (n := 0) (by decide) (by decide)
  · exact vp_in_nI (n := 0) (by decide) (by decide)
  · exact vp_in_nI (n := 0) (by decide) (by decide)
  · exact vp_in_nI (n := 0) (by decide) (by decide)
  · exact vp_in_nI (n := 0) (by decide) (by decide)
