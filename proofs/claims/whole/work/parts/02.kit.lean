/-! The verifier's own rows: joins, worlds of the class (C) and of the reference (R), calls over a whole world. -/
section WJ
variable {p : Program} {l : Launch} {e : Env} {R : Room} {s : State} {m : MethodId} {args : Array Value} {below : List Frame} {meth : Method} {c : Code} {H : Heap} {locs : List Loc} {cells slots : Nat} {Q : State → Prop}
/-- ways that meet: what stands behind them is walked once, for a value v that each way gives -/
theorem wj {α : Type} {D : va_G} {cl : List vw_C} {A : Nat → Prop} {H0 : Heap} {g : JFrame} (v0 : α) (ws : α → va_W) (L : α → List (Nat × Value)) (nL : Nat) (F : α → Array Slot → JFrame)
    (j : ∀ (v : α) (ls : Array Slot) (H : Heap) (locs : List Loc), v = v0 → lv_has ls nL (L v) → va_P D cl (ws v) H → va_D A (ws v) → va_S A H0 H locs → W p l e R s m args below meth c H locs cells slots Q (F v ls))
    (k : (∀ (v : α) (ls : Array Slot) (H : Heap) (locs : List Loc), v = v0 → lv_has ls nL (L v) → va_P D cl (ws v) H → va_D A (ws v) → va_S A H0 H locs → W p l e R s m args below meth c H locs cells slots Q (F v ls)) → W p l e R s m args below meth c H locs cells slots Q g) : W p l e R s m args below meth c H locs cells slots Q g := k j
end WJ
theorem i32ne {x k : Int32} {n : Int} (hk : k.toInt = n) (h : ¬ x = k) : x.toInt ≠ n := fun q => h (Int32.toInt_inj.mp (q.trans hk.symm))
theorem in_c {i : Int32} {n : Nat} (h : (decide (i < 0) || decide (n ≤ i.toNatClampNeg)) = false) : vp_in i n := by
  intro q
  simp only [Bool.or_eq_false_iff, decide_eq_false_iff_not] at h
  rcases q with q | q
  · exact h.1 q
  · exact h.2 q
theorem in_rng {i N : Int32} {n : Nat} (hN : N.toInt = n) (h1 : ¬ i < 0) (h2 : ¬ N ≤ i) : vp_in i n := by
  rw [vp_in_iff]
  rw [Int32.lt_iff_toInt_lt] at h1
  rw [Int32.le_iff_toInt_le] at h2
  have h0 : (0 : Int32).toInt = 0 := rfl
  omega
/-- which addresses a side's methods may write: its own cells, and those that come -/
def AX (n : Nat) (h : Nat → Nat) (sz : Nat) : Nat → Prop := fun q => (∃ i, i < n ∧ q = h i) ∨ sz ≤ q
theorem AX_mono {n : Nat} {h : Nat → Nat} {a b : Nat} (hab : a ≤ b) : ∀ q, AX n h b q → AX n h a q := fun _ hq => hq.elim Or.inl (fun z => Or.inr (Nat.le_trans hab z))
/-- words on nest mates -/
def isNest : Cond → Bool
  | .fieldLinkNest .. => true
  | .methodLinkNest .. => true
  | _ => false
theorem nest_tab {w : Cond} (hw : isNest w = true) : w.onTables = true := by
  cases w <;> first | rfl | (simp [isNest] at hw; done)
theorem nest_moved {w : Cond} (hw : isNest w = true) {s U : State} (hW : s.WarmedH U.vm) (h : va_Nw w s) : va_Nw w U := by
  cases w <;> first | exact va_Nw.warmF hW h | exact va_Nw.warmM hW h | (simp [isNest] at hw; done)
theorem nb01 {v : Int32} (h : v = 0 ∨ v = 1) : narrow .boolean (.int v) = .int v := by
  rcases h with rfl | rfl <;> rfl
theorem fb01 {v : Int32} (h : v = 0 ∨ v = 1) : fits .boolean (.int v) = true := by
  rcases h with rfl | rfl <;> rfl
