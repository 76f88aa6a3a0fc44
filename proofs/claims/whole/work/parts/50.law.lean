/-! THE CLAIM OUT OF ONE WALK OF THE LAW'S BODY. Your part is whole_start (and what it stands on); all else here is the same for every law, but numbers. -/
def R_law : String := "LowPowerCpuLaw"
def lw_P (b : Addr) (xs : List Int32) (args : Array Value) (s : State) : Prop := args = #[.ref b] ∧ s.IntsAt b xs ∧ xs.length ≤ 1536 ∧ (Jvm.Cond.and given_1 narrow_1).before args s = true
def lw_Q (_ : Array Value) (s : State) (o : Outcome) (t : State) : Prop := o = .returned (some (.int 1)) ∧ Framed s o t [] 600000 7302250
def lw_Z (below : List Frame) (a : Array Value) (s : State) : State → Prop := fun t => ∃ o, t.status = .running ∧ Ended t below o ∧ lw_Q a s o t
/-- the law's own end, with 1 on the stack, nothing written that was there before, its room as the claim has it -/
theorem lw_ret {p : Program} {l : Launch} {e : Env} {s : State} {m : MethodId} {below : List Frame} {meth : Method} {c : Code} {b : Nat} (hx : p.tables.exec = Jvm.exec) (hb : c.code = code) (hr : meth.sig.returnType = ret) (hlocks : meth.locks = false) {pc : Nat} {H : Heap} {ls : Array Slot} (hdg : decode code pc = .ok (.ireturn, 1)) : W p l e room_1 s m #[Value.ref b] below meth c H [] 600000 7302250 (lw_Z below #[Value.ref b] s) (F0 m pc ls [.int 1]) := by
  intro T hT X
  obtain ⟨fs, hret, hrun, hended, hW, hframe⟩ := X.leave (v := some (.int 1)) (hlocks := hlocks) (fun h => by rw [hr] at h; cases h)
  have hmeth' : T.vm.method? m = some meth := X.method'
  refine ⟨T.setFrames fs, ?_, .returned (some (.int 1)), hrun, hended, rfl, ⟨_, rfl⟩, hW, hframe⟩
  jvm_step X.here [X.here.top, hx, hb, hdg, hmeth', hr, ret, narrow_b1]
  (try refine ⟨rfl, ?_⟩); (try refine ⟨rfl, ?_⟩)
  first | (intro acts; rw [hret _ acts rfl rfl rfl]) | rw [hret _ _ rfl rfl rfl]
  exact Steps.refl _
/-- what holds at the law's entry: the machine, the code, the tables' words (any of lw_tbl by 'hts w (by decide +kernel)'), the script of L ints xs at the cell b, what the Statement gives of the start (any of its parts by flat_of_before) -/
def lw_At (p : Program) (s : State) (m : MethodId) (meth : Method) (c : Code) (b L : Nat) (xs : Nat → Int32) : Prop :=
  p.tables.exec = Jvm.exec ∧ c.code = code ∧ meth.sig.returnType = ret ∧ c.maxLocals = 4 ∧ s.vm.findClass R_law = some m.cls ∧ (∀ w ∈ lw_tbl, w.before #[Value.ref b] s = true) ∧ va_X b L xs s s.heap ∧ b < s.heap.size ∧ meth.locks = false ∧ (Jvm.Cond.and given_1 narrow_1).before #[Value.ref b] s = true
set_option maxRecDepth 20000 in
theorem nestC_in : ∀ w ∈ nestC, w ∈ lw_tbl := mem_r _ [84, 90, 127, 132, 143, 176, 182, 196, 220, 225, 237, 100, 117] (by decide +kernel)
/-- what comes behind the law's entry -/
def AL (n : Nat) : Nat → Prop := fun q => n ≤ q
theorem AX_eq {n sz : Nat} {h : Nat → Nat} (hh : ∀ i, i < n → sz ≤ h i) : AX n h sz = AL sz := funext fun q => propext ⟨fun z => by
  rcases z with ⟨i, hi, rfl⟩ | z
  · exact hh i hi
  · exact z, fun z => Or.inr z⟩
theorem hhC {h h' : Nat → Nat} {k k' : Nat → ClassId} {u : StC} {v : StR} {n : Nat} (hD : va_D (AL n) (wsC h k u ++ wsR h' k' v)) : ∀ i, i < 5 → n ≤ h i := by
  intro i hi
  match i, hi with
  | 0, _ => exact hD.2 0 _ rfl
  | 1, _ => exact hD.2 1 _ rfl
  | 2, _ => exact hD.2 2 _ rfl
  | 3, _ => exact hD.2 3 _ rfl
  | 4, _ => exact hD.2 4 _ rfl
theorem AXAC {h' h : Nat → Nat} {k' k : Nat → ClassId} {u : StC} {v : StR} {sz q : Nat} (z : AX 5 h sz q) : va_A (wsC h k u) sz q := by
  rcases z with ⟨i, hi, rfl⟩ | z
  · match i, hi with
    | 0, _ => exact Or.inl ⟨0, _, rfl⟩
    | 1, _ => exact Or.inl ⟨1, _, rfl⟩
    | 2, _ => exact Or.inl ⟨2, _, rfl⟩
    | 3, _ => exact Or.inl ⟨3, _, rfl⟩
    | 4, _ => exact Or.inl ⟨4, _, rfl⟩
  · exact Or.inr z
theorem AAXC {h' h : Nat → Nat} {k' k : Nat → ClassId} {u : StC} {v : StR} {sz q : Nat} (z : va_A (wsC h k u) sz q) : AX 5 h sz q := by
  rcases z with ⟨i, e, z⟩ | z
  · exact ownC i (q, e) z
  · exact Or.inr z
theorem hhR {h h' : Nat → Nat} {k k' : Nat → ClassId} {u : StC} {v : StR} {n : Nat} (hD : va_D (AL n) (wsC h k u ++ wsR h' k' v)) : ∀ i, i < 4 → n ≤ h' i := by
  intro i hi
  match i, hi with
  | 0, _ => exact hD.2 5 _ rfl
  | 1, _ => exact hD.2 6 _ rfl
  | 2, _ => exact hD.2 7 _ rfl
  | 3, _ => exact hD.2 8 _ rfl
theorem AXAR {h' h : Nat → Nat} {k' k : Nat → ClassId} {u : StC} {v : StR} {sz q : Nat} (z : AX 4 h' sz q) : va_A (wsR h' k' v) sz q := by
  rcases z with ⟨i, hi, rfl⟩ | z
  · match i, hi with
    | 0, _ => exact Or.inl ⟨0, _, rfl⟩
    | 1, _ => exact Or.inl ⟨1, _, rfl⟩
    | 2, _ => exact Or.inl ⟨2, _, rfl⟩
    | 3, _ => exact Or.inl ⟨3, _, rfl⟩
  · exact Or.inr z
theorem AAXR {h' h : Nat → Nat} {k' k : Nat → ClassId} {u : StC} {v : StR} {sz q : Nat} (z : va_A (wsR h' k' v) sz q) : AX 4 h' sz q := by
  rcases z with ⟨i, e, z⟩ | z
  · exact ownR i (q, e) z
  · exact Or.inr z
section LAW
variable {p : Program} {l : Launch} {e : Env} {R : Room} {s : State} {m : MethodId} {args : Array Value} {below : List Frame} {meth : Method} {c : Code} {H : Heap} {locs : List Loc} {cells slots : Nat} {Q : State → Prop}
variable {D : va_G} {h h' : Nat → Nat} {k k' : Nat → ClassId} {g : Nat → Nat} {u : StC} {v : StR} {As rest st0 : List Value} {pc : Nat} {ls : Array Slot} {a : Array Value}
theorem subC (hD : va_D (AL s.heap.size) (wsC h k u ++ wsR h' k' v)) (hS : va_S (AL s.heap.size) s.heap H locs) : ∀ q, AX 5 h H.size q → AL s.heap.size q := by
  intro q z
  rcases z with ⟨i, hi, rfl⟩ | z
  · exact hhC hD i hi
  · exact Nat.le_trans hS.1 z
theorem subR (hD : va_D (AL s.heap.size) (wsC h k u ++ wsR h' k' v)) (hS : va_S (AL s.heap.size) s.heap H locs) : ∀ q, AX 4 h' H.size q → AL s.heap.size q := by
  intro q z
  rcases z with ⟨i, hi, rfl⟩ | z
  · exact hhR hD i hi
  · exact Nat.le_trans hS.1 z
theorem lawC_p (ct : ctC D k g (AL s.heap.size) s) (hP : va_P D vwCl (wsC h k u ++ wsR h' k' v) H) (hD : va_D (AL s.heap.size) (wsC h k u ++ wsR h' k' v)) (hS : va_S (AL s.heap.size) s.heap H locs) : PreV s H RX2 (h 0) (PcC D h k g (Value.ref (h 0) :: As) H.size u) As := by
  have e0 := AX_eq (hhC hD)
  exact preC_V (ci := 2) (q0 := 0) (by rw [e0]; exact ct) (hP.sub [0, 1, 2, 3, 4] rfl) (by rw [e0]; exact hD.sub [0, 1, 2, 3, 4] (by decide) rfl) (by rw [e0]; exact hS) rfl rfl
theorem lawR_p (ct : ctR D k' (AL s.heap.size) s) (hP : va_P D vwCl (wsC h k u ++ wsR h' k' v) H) (hD : va_D (AL s.heap.size) (wsC h k u ++ wsR h' k' v)) (hS : va_S (AL s.heap.size) s.heap H locs) : PreV s H RX3 (h' 0) (PcR D h' k' (Value.ref (h' 0) :: As) H.size v) As := by
  have e0 := AX_eq (hhR hD)
  exact preR_V (ci := 3) (q0 := 0) (by rw [e0]; exact ct) (hP.sub [5, 6, 7, 8] rfl) (by rw [e0]; exact hD.sub [5, 6, 7, 8] (by decide) rfl) (by rw [e0]; exact hS) rfl rfl
theorem joinC {w : StC} {t : State} {H1 : Heap} (hP : va_P D vwCl (wsC h k u ++ wsR h' k' v) H) (hD : va_D (AL s.heap.size) (wsC h k u ++ wsR h' k' v)) (hS : va_S (AL s.heap.size) s.heap H locs) (ht : t.heap = H1) (hB : BC D h k (AX 5 h H.size) w t) (hk : ∀ q : Nat, q < H.size → ¬ AX 5 h H.size q → H1[q]? = H[q]?) : va_P D vwCl (wsC h k w ++ wsR h' k' v) H1 ∧ va_D (AL s.heap.size) (wsC h k w ++ wsR h' k' v) := by
  obtain ⟨hP1, hD1⟩ := hB
  rw [ht] at hP1
  obtain ⟨hP2, hD2⟩ := va_join (wc := wsC h k u) (wr := wsR h' k' v) (w1 := wsC h k w) hP hD [0, 1, 2, 3, 4] [5, 6, 7, 8] rfl rfl (by decide) (by decide) (fun q hq hn => hk q hq (fun z => hn (AXAC (h' := h') (k' := k') (v := v) z))) (fun q z => subC hD hS q (AAXC (h' := h') (k' := k') (v := v) z)) hP1 (hD1.weaken (fun _ _ _ z => AXAC (h' := h') (k' := k') (v := v) z))
  exact ⟨hP2.sub [4, 5, 6, 7, 8, 0, 1, 2, 3] rfl, hD2.sub [4, 5, 6, 7, 8, 0, 1, 2, 3] (by decide) rfl⟩
theorem joinR {w : StR} {t : State} {H1 : Heap} (hP : va_P D vwCl (wsC h k u ++ wsR h' k' v) H) (hD : va_D (AL s.heap.size) (wsC h k u ++ wsR h' k' v)) (hS : va_S (AL s.heap.size) s.heap H locs) (ht : t.heap = H1) (hB : BR D h' k' (AX 4 h' H.size) w t) (hk : ∀ q : Nat, q < H.size → ¬ AX 4 h' H.size q → H1[q]? = H[q]?) : va_P D vwCl (wsC h k u ++ wsR h' k' w) H1 ∧ va_D (AL s.heap.size) (wsC h k u ++ wsR h' k' w) := by
  obtain ⟨hP1, hD1⟩ := hB
  rw [ht] at hP1
  exact va_join (wc := wsR h' k' v) (wr := wsC h k u) (w1 := wsR h' k' w) hP hD [5, 6, 7, 8] [0, 1, 2, 3, 4] rfl rfl (by decide) (by decide) (fun q hq hn => hk q hq (fun z => hn (AXAR (h := h) (k := k) (u := u) z))) (fun q z => subR hD hS q (AAXR (h := h) (k := k) (u := u) z)) hP1 (hD1.weaken (fun _ _ _ z => AXAR (h := h) (k := k) (u := u) z))
theorem lawC_i {F : Int32 × StC} (hr : va_Run p l e R s m args below meth c H locs cells slots 0 0 (F0 m pc ls st0) rest (va_Qi (fun r w => (r, w) = F) (BC D h k (AX 5 h H.size)) (AX 5 h H.size) a) (AX 5 h H.size)) (hP : va_P D vwCl (wsC h k u ++ wsR h' k' v) H) (hD : va_D (AL s.heap.size) (wsC h k u ++ wsR h' k' v)) (hS : va_S (AL s.heap.size) s.heap H locs)
    (kk : ∀ (r : Int32) (w : StC) (H1 : Heap) (locs1 : List Loc), r = F.1 → w = F.2 → va_P D vwCl (wsC h k w ++ wsR h' k' v) H1 → va_D (AL s.heap.size) (wsC h k w ++ wsR h' k' v) → va_S (AL s.heap.size) s.heap H1 locs1 → W p l e R s m args below meth c H1 locs1 cells slots Q (F0 m (pc + 3) ls (.int r :: rest))) : W p l e R s m args below meth c H locs cells slots Q (F0 m pc ls st0) :=
  va_calli hr hS (fun q _ z => subC hD hS q z) (subC hD hS) (fun r w t H1 locs1 ht _ hw hB _ hk hS1 => by
    obtain ⟨hP2, hD2⟩ := joinC hP hD hS ht hB hk
    exact kk r w H1 locs1 (by rw [← hw]) (by rw [← hw]) hP2 hD2 hS1)
theorem lawC_v {F : StC} (hr : va_Run p l e R s m args below meth c H locs cells slots 0 0 (F0 m pc ls st0) rest (va_Qv (fun w => w = F) (BC D h k (AX 5 h H.size)) (AX 5 h H.size) a) (AX 5 h H.size)) (hP : va_P D vwCl (wsC h k u ++ wsR h' k' v) H) (hD : va_D (AL s.heap.size) (wsC h k u ++ wsR h' k' v)) (hS : va_S (AL s.heap.size) s.heap H locs)
    (kk : ∀ (w : StC) (H1 : Heap) (locs1 : List Loc), w = F → va_P D vwCl (wsC h k w ++ wsR h' k' v) H1 → va_D (AL s.heap.size) (wsC h k w ++ wsR h' k' v) → va_S (AL s.heap.size) s.heap H1 locs1 → W p l e R s m args below meth c H1 locs1 cells slots Q (F0 m (pc + 3) ls rest)) : W p l e R s m args below meth c H locs cells slots Q (F0 m pc ls st0) :=
  va_callv hr hS (fun q _ z => subC hD hS q z) (subC hD hS) (fun w t H1 locs1 ht _ hw hB _ hk hS1 => by
    obtain ⟨hP2, hD2⟩ := joinC hP hD hS ht hB hk
    exact kk w H1 locs1 hw hP2 hD2 hS1)
theorem lawR_i {F : Int32 × StR} (hr : va_Run p l e R s m args below meth c H locs cells slots 0 0 (F0 m pc ls st0) rest (va_Qi (fun r w => (r, w) = F) (BR D h' k' (AX 4 h' H.size)) (AX 4 h' H.size) a) (AX 4 h' H.size)) (hP : va_P D vwCl (wsC h k u ++ wsR h' k' v) H) (hD : va_D (AL s.heap.size) (wsC h k u ++ wsR h' k' v)) (hS : va_S (AL s.heap.size) s.heap H locs)
    (kk : ∀ (r : Int32) (w : StR) (H1 : Heap) (locs1 : List Loc), r = F.1 → w = F.2 → va_P D vwCl (wsC h k u ++ wsR h' k' w) H1 → va_D (AL s.heap.size) (wsC h k u ++ wsR h' k' w) → va_S (AL s.heap.size) s.heap H1 locs1 → W p l e R s m args below meth c H1 locs1 cells slots Q (F0 m (pc + 3) ls (.int r :: rest))) : W p l e R s m args below meth c H locs cells slots Q (F0 m pc ls st0) :=
  va_calli hr hS (fun q _ z => subR hD hS q z) (subR hD hS) (fun r w t H1 locs1 ht _ hw hB _ hk hS1 => by
    obtain ⟨hP2, hD2⟩ := joinR hP hD hS ht hB hk
    exact kk r w H1 locs1 (by rw [← hw]) (by rw [← hw]) hP2 hD2 hS1)
theorem lawR_v {F : StR} (hr : va_Run p l e R s m args below meth c H locs cells slots 0 0 (F0 m pc ls st0) rest (va_Qv (fun w => w = F) (BR D h' k' (AX 4 h' H.size)) (AX 4 h' H.size) a) (AX 4 h' H.size)) (hP : va_P D vwCl (wsC h k u ++ wsR h' k' v) H) (hD : va_D (AL s.heap.size) (wsC h k u ++ wsR h' k' v)) (hS : va_S (AL s.heap.size) s.heap H locs)
    (kk : ∀ (w : StR) (H1 : Heap) (locs1 : List Loc), w = F → va_P D vwCl (wsC h k u ++ wsR h' k' w) H1 → va_D (AL s.heap.size) (wsC h k u ++ wsR h' k' w) → va_S (AL s.heap.size) s.heap H1 locs1 → W p l e R s m args below meth c H1 locs1 cells slots Q (F0 m (pc + 3) ls rest)) : W p l e R s m args below meth c H locs cells slots Q (F0 m pc ls st0) :=
  va_callv hr hS (fun q _ z => subR hD hS q z) (subR hD hS) (fun w t H1 locs1 ht _ hw hB _ hk hS1 => by
    obtain ⟨hP2, hD2⟩ := joinR hP hD hS ht hB hk
    exact kk w H1 locs1 hw hP2 hD2 hS1)
end LAW
/-! the class's tables of cycles, as the Statement gives them -/
set_option maxRecDepth 20000 in
theorem tab_0 {s : State} {b : Nat} (hts : ∀ w ∈ lw_tbl, w.before #[Value.ref b] s = true) (hgv : (Jvm.Cond.and given_1 narrow_1).before #[Value.ref b] s = true) : ∃ t : Nat, va_Z "LowPowerCpu" "KIND_OF_WAY" "[I" (.ref t) (AL s.heap.size) s s.heap ∧ va_T .int t 4 (fun j => .int (tabC 0 j)) (AL s.heap.size) s s.heap := by
  have hf := flat_of_before _ hgv
  have hA : ∀ a : Nat, a < s.heap.size → ¬ AL s.heap.size a := fun a h z => absurd h (Nat.not_lt.mpr z)
  obtain ⟨t, ht, hT⟩ := va_Tof (tm := (.static "LowPowerCpu" "KIND_OF_WAY" "[I")) (ty := .int) (N := 4) (f := fun j => .int (tabC 0 j)) (A := AL s.heap.size) (by decide) (hf (.arrayOf (.static "LowPowerCpu" "KIND_OF_WAY" "[I") .int) (by decide +kernel)) (va_eqt (hf (.eq (.length (.static "LowPowerCpu" "KIND_OF_WAY" "[I")) (.int 4)) (by decide +kernel))) (fun j hj => by
    match j, hj with
    | 0, _ => exact va_eqt (hf (.eq (.elem (.static "LowPowerCpu" "KIND_OF_WAY" "[I") (.int 0)) (.int 0)) (by decide +kernel))
    | 1, _ => exact va_eqt (hf (.eq (.elem (.static "LowPowerCpu" "KIND_OF_WAY" "[I") (.int 1)) (.int 3)) (by decide +kernel))
    | 2, _ => exact va_eqt (hf (.eq (.elem (.static "LowPowerCpu" "KIND_OF_WAY" "[I") (.int 2)) (.int 1)) (by decide +kernel))
    | 3, _ => exact va_eqt (hf (.eq (.elem (.static "LowPowerCpu" "KIND_OF_WAY" "[I") (.int 3)) (.int 2)) (by decide +kernel))
    ) hA
  exact ⟨t, va_Zof (hts _ (List.mem_of_getElem? (i := 311) (by decide +kernel))) (hts _ (List.mem_of_getElem? (i := 70) (by decide +kernel))) ht hA, hT⟩
set_option maxRecDepth 20000 in
theorem tab_1 {s : State} {b : Nat} (hts : ∀ w ∈ lw_tbl, w.before #[Value.ref b] s = true) (hgv : (Jvm.Cond.and given_1 narrow_1).before #[Value.ref b] s = true) : ∃ t : Nat, va_Z "LowPowerCpu" "TO_REGISTER_CYCLES" "[I" (.ref t) (AL s.heap.size) s s.heap ∧ va_T .int t 4 (fun j => .int (tabC 1 j)) (AL s.heap.size) s s.heap := by
  have hf := flat_of_before _ hgv
  have hA : ∀ a : Nat, a < s.heap.size → ¬ AL s.heap.size a := fun a h z => absurd h (Nat.not_lt.mpr z)
  obtain ⟨t, ht, hT⟩ := va_Tof (tm := (.static "LowPowerCpu" "TO_REGISTER_CYCLES" "[I")) (ty := .int) (N := 4) (f := fun j => .int (tabC 1 j)) (A := AL s.heap.size) (by decide) (hf (.arrayOf (.static "LowPowerCpu" "TO_REGISTER_CYCLES" "[I") .int) (by decide +kernel)) (va_eqt (hf (.eq (.length (.static "LowPowerCpu" "TO_REGISTER_CYCLES" "[I")) (.int 4)) (by decide +kernel))) (fun j hj => by
    match j, hj with
    | 0, _ => exact va_eqt (hf (.eq (.elem (.static "LowPowerCpu" "TO_REGISTER_CYCLES" "[I") (.int 0)) (.int 1)) (by decide +kernel))
    | 1, _ => exact va_eqt (hf (.eq (.elem (.static "LowPowerCpu" "TO_REGISTER_CYCLES" "[I") (.int 1)) (.int 2)) (by decide +kernel))
    | 2, _ => exact va_eqt (hf (.eq (.elem (.static "LowPowerCpu" "TO_REGISTER_CYCLES" "[I") (.int 2)) (.int 2)) (by decide +kernel))
    | 3, _ => exact va_eqt (hf (.eq (.elem (.static "LowPowerCpu" "TO_REGISTER_CYCLES" "[I") (.int 3)) (.int 3)) (by decide +kernel))
    ) hA
  exact ⟨t, va_Zof (hts _ (List.mem_of_getElem? (i := 306) (by decide +kernel))) (hts _ (List.mem_of_getElem? (i := 70) (by decide +kernel))) ht hA, hT⟩
set_option maxRecDepth 20000 in
theorem tab_2 {s : State} {b : Nat} (hts : ∀ w ∈ lw_tbl, w.before #[Value.ref b] s = true) (hgv : (Jvm.Cond.and given_1 narrow_1).before #[Value.ref b] s = true) : ∃ t : Nat, va_Z "LowPowerCpu" "TO_PC_CYCLES" "[I" (.ref t) (AL s.heap.size) s s.heap ∧ va_T .int t 4 (fun j => .int (tabC 2 j)) (AL s.heap.size) s s.heap := by
  have hf := flat_of_before _ hgv
  have hA : ∀ a : Nat, a < s.heap.size → ¬ AL s.heap.size a := fun a h z => absurd h (Nat.not_lt.mpr z)
  obtain ⟨t, ht, hT⟩ := va_Tof (tm := (.static "LowPowerCpu" "TO_PC_CYCLES" "[I")) (ty := .int) (N := 4) (f := fun j => .int (tabC 2 j)) (A := AL s.heap.size) (by decide) (hf (.arrayOf (.static "LowPowerCpu" "TO_PC_CYCLES" "[I") .int) (by decide +kernel)) (va_eqt (hf (.eq (.length (.static "LowPowerCpu" "TO_PC_CYCLES" "[I")) (.int 4)) (by decide +kernel))) (fun j hj => by
    match j, hj with
    | 0, _ => exact va_eqt (hf (.eq (.elem (.static "LowPowerCpu" "TO_PC_CYCLES" "[I") (.int 0)) (.int 2)) (by decide +kernel))
    | 1, _ => exact va_eqt (hf (.eq (.elem (.static "LowPowerCpu" "TO_PC_CYCLES" "[I") (.int 1)) (.int 2)) (by decide +kernel))
    | 2, _ => exact va_eqt (hf (.eq (.elem (.static "LowPowerCpu" "TO_PC_CYCLES" "[I") (.int 2)) (.int 3)) (by decide +kernel))
    | 3, _ => exact va_eqt (hf (.eq (.elem (.static "LowPowerCpu" "TO_PC_CYCLES" "[I") (.int 3)) (.int 3)) (by decide +kernel))
    ) hA
  exact ⟨t, va_Zof (hts _ (List.mem_of_getElem? (i := 304) (by decide +kernel))) (hts _ (List.mem_of_getElem? (i := 70) (by decide +kernel))) ht hA, hT⟩
set_option maxRecDepth 20000 in
theorem tab_3 {s : State} {b : Nat} (hts : ∀ w ∈ lw_tbl, w.before #[Value.ref b] s = true) (hgv : (Jvm.Cond.and given_1 narrow_1).before #[Value.ref b] s = true) : ∃ t : Nat, va_Z "LowPowerCpu" "TO_MEMORY_CYCLES" "[I" (.ref t) (AL s.heap.size) s s.heap ∧ va_T .int t 4 (fun j => .int (tabC 3 j)) (AL s.heap.size) s s.heap := by
  have hf := flat_of_before _ hgv
  have hA : ∀ a : Nat, a < s.heap.size → ¬ AL s.heap.size a := fun a h z => absurd h (Nat.not_lt.mpr z)
  obtain ⟨t, ht, hT⟩ := va_Tof (tm := (.static "LowPowerCpu" "TO_MEMORY_CYCLES" "[I")) (ty := .int) (N := 4) (f := fun j => .int (tabC 3 j)) (A := AL s.heap.size) (by decide) (hf (.arrayOf (.static "LowPowerCpu" "TO_MEMORY_CYCLES" "[I") .int) (by decide +kernel)) (va_eqt (hf (.eq (.length (.static "LowPowerCpu" "TO_MEMORY_CYCLES" "[I")) (.int 4)) (by decide +kernel))) (fun j hj => by
    match j, hj with
    | 0, _ => exact va_eqt (hf (.eq (.elem (.static "LowPowerCpu" "TO_MEMORY_CYCLES" "[I") (.int 0)) (.int 4)) (by decide +kernel))
    | 1, _ => exact va_eqt (hf (.eq (.elem (.static "LowPowerCpu" "TO_MEMORY_CYCLES" "[I") (.int 1)) (.int 5)) (by decide +kernel))
    | 2, _ => exact va_eqt (hf (.eq (.elem (.static "LowPowerCpu" "TO_MEMORY_CYCLES" "[I") (.int 2)) (.int 5)) (by decide +kernel))
    | 3, _ => exact va_eqt (hf (.eq (.elem (.static "LowPowerCpu" "TO_MEMORY_CYCLES" "[I") (.int 3)) (.int 6)) (by decide +kernel))
    ) hA
  exact ⟨t, va_Zof (hts _ (List.mem_of_getElem? (i := 302) (by decide +kernel))) (hts _ (List.mem_of_getElem? (i := 70) (by decide +kernel))) ht hA, hT⟩
set_option maxRecDepth 20000 in
theorem tab_4 {s : State} {b : Nat} (hts : ∀ w ∈ lw_tbl, w.before #[Value.ref b] s = true) (hgv : (Jvm.Cond.and given_1 narrow_1).before #[Value.ref b] s = true) : ∃ t : Nat, va_Z "LowPowerCpu" "CHANGE_CYCLES" "[I" (.ref t) (AL s.heap.size) s s.heap ∧ va_T .int t 4 (fun j => .int (tabC 4 j)) (AL s.heap.size) s s.heap := by
  have hf := flat_of_before _ hgv
  have hA : ∀ a : Nat, a < s.heap.size → ¬ AL s.heap.size a := fun a h z => absurd h (Nat.not_lt.mpr z)
  obtain ⟨t, ht, hT⟩ := va_Tof (tm := (.static "LowPowerCpu" "CHANGE_CYCLES" "[I")) (ty := .int) (N := 4) (f := fun j => .int (tabC 4 j)) (A := AL s.heap.size) (by decide) (hf (.arrayOf (.static "LowPowerCpu" "CHANGE_CYCLES" "[I") .int) (by decide +kernel)) (va_eqt (hf (.eq (.length (.static "LowPowerCpu" "CHANGE_CYCLES" "[I")) (.int 4)) (by decide +kernel))) (fun j hj => by
    match j, hj with
    | 0, _ => exact va_eqt (hf (.eq (.elem (.static "LowPowerCpu" "CHANGE_CYCLES" "[I") (.int 0)) (.int 1)) (by decide +kernel))
    | 1, _ => exact va_eqt (hf (.eq (.elem (.static "LowPowerCpu" "CHANGE_CYCLES" "[I") (.int 1)) (.int 3)) (by decide +kernel))
    | 2, _ => exact va_eqt (hf (.eq (.elem (.static "LowPowerCpu" "CHANGE_CYCLES" "[I") (.int 2)) (.int 3)) (by decide +kernel))
    | 3, _ => exact va_eqt (hf (.eq (.elem (.static "LowPowerCpu" "CHANGE_CYCLES" "[I") (.int 3)) (.int 4)) (by decide +kernel))
    ) hA
  exact ⟨t, va_Zof (hts _ (List.mem_of_getElem? (i := 353) (by decide +kernel))) (hts _ (List.mem_of_getElem? (i := 70) (by decide +kernel))) ht hA, hT⟩
set_option maxRecDepth 20000 in
theorem tab_5 {s : State} {b : Nat} (hts : ∀ w ∈ lw_tbl, w.before #[Value.ref b] s = true) (hgv : (Jvm.Cond.and given_1 narrow_1).before #[Value.ref b] s = true) : ∃ t : Nat, va_Z "LowPowerCpu" "PUSH_CYCLES" "[I" (.ref t) (AL s.heap.size) s s.heap ∧ va_T .int t 4 (fun j => .int (tabC 5 j)) (AL s.heap.size) s s.heap := by
  have hf := flat_of_before _ hgv
  have hA : ∀ a : Nat, a < s.heap.size → ¬ AL s.heap.size a := fun a h z => absurd h (Nat.not_lt.mpr z)
  obtain ⟨t, ht, hT⟩ := va_Tof (tm := (.static "LowPowerCpu" "PUSH_CYCLES" "[I")) (ty := .int) (N := 4) (f := fun j => .int (tabC 5 j)) (A := AL s.heap.size) (by decide) (hf (.arrayOf (.static "LowPowerCpu" "PUSH_CYCLES" "[I") .int) (by decide +kernel)) (va_eqt (hf (.eq (.length (.static "LowPowerCpu" "PUSH_CYCLES" "[I")) (.int 4)) (by decide +kernel))) (fun j hj => by
    match j, hj with
    | 0, _ => exact va_eqt (hf (.eq (.elem (.static "LowPowerCpu" "PUSH_CYCLES" "[I") (.int 0)) (.int 3)) (by decide +kernel))
    | 1, _ => exact va_eqt (hf (.eq (.elem (.static "LowPowerCpu" "PUSH_CYCLES" "[I") (.int 1)) (.int 4)) (by decide +kernel))
    | 2, _ => exact va_eqt (hf (.eq (.elem (.static "LowPowerCpu" "PUSH_CYCLES" "[I") (.int 2)) (.int 5)) (by decide +kernel))
    | 3, _ => exact va_eqt (hf (.eq (.elem (.static "LowPowerCpu" "PUSH_CYCLES" "[I") (.int 3)) (.int 5)) (by decide +kernel))
    ) hA
  exact ⟨t, va_Zof (hts _ (List.mem_of_getElem? (i := 341) (by decide +kernel))) (hts _ (List.mem_of_getElem? (i := 70) (by decide +kernel))) ht hA, hT⟩
set_option maxRecDepth 20000 in
theorem tab_6 {s : State} {b : Nat} (hts : ∀ w ∈ lw_tbl, w.before #[Value.ref b] s = true) (hgv : (Jvm.Cond.and given_1 narrow_1).before #[Value.ref b] s = true) : ∃ t : Nat, va_Z "LowPowerCpu" "CALL_CYCLES" "[I" (.ref t) (AL s.heap.size) s s.heap ∧ va_T .int t 4 (fun j => .int (tabC 6 j)) (AL s.heap.size) s s.heap := by
  have hf := flat_of_before _ hgv
  have hA : ∀ a : Nat, a < s.heap.size → ¬ AL s.heap.size a := fun a h z => absurd h (Nat.not_lt.mpr z)
  obtain ⟨t, ht, hT⟩ := va_Tof (tm := (.static "LowPowerCpu" "CALL_CYCLES" "[I")) (ty := .int) (N := 4) (f := fun j => .int (tabC 6 j)) (A := AL s.heap.size) (by decide) (hf (.arrayOf (.static "LowPowerCpu" "CALL_CYCLES" "[I") .int) (by decide +kernel)) (va_eqt (hf (.eq (.length (.static "LowPowerCpu" "CALL_CYCLES" "[I")) (.int 4)) (by decide +kernel))) (fun j hj => by
    match j, hj with
    | 0, _ => exact va_eqt (hf (.eq (.elem (.static "LowPowerCpu" "CALL_CYCLES" "[I") (.int 0)) (.int 4)) (by decide +kernel))
    | 1, _ => exact va_eqt (hf (.eq (.elem (.static "LowPowerCpu" "CALL_CYCLES" "[I") (.int 1)) (.int 4)) (by decide +kernel))
    | 2, _ => exact va_eqt (hf (.eq (.elem (.static "LowPowerCpu" "CALL_CYCLES" "[I") (.int 2)) (.int 5)) (by decide +kernel))
    | 3, _ => exact va_eqt (hf (.eq (.elem (.static "LowPowerCpu" "CALL_CYCLES" "[I") (.int 3)) (.int 5)) (by decide +kernel))
    ) hA
  exact ⟨t, va_Zof (hts _ (List.mem_of_getElem? (i := 343) (by decide +kernel))) (hts _ (List.mem_of_getElem? (i := 70) (by decide +kernel))) ht hA, hT⟩
theorem tabs_of {s : State} {b : Nat} (hts : ∀ w ∈ lw_tbl, w.before #[Value.ref b] s = true) (hgv : (Jvm.Cond.and given_1 narrow_1).before #[Value.ref b] s = true) : ∃ g : Nat → Nat, (∀ i, i < 7 → va_Z "LowPowerCpu" (tabN i) "[I" (.ref (g i)) (AL s.heap.size) s s.heap) ∧ (∀ i, i < 7 → va_T .int (g i) 4 (fun j => .int (tabC i j)) (AL s.heap.size) s s.heap) := by
  obtain ⟨t0, z0, a0⟩ := tab_0 hts hgv
  obtain ⟨t1, z1, a1⟩ := tab_1 hts hgv
  obtain ⟨t2, z2, a2⟩ := tab_2 hts hgv
  obtain ⟨t3, z3, a3⟩ := tab_3 hts hgv
  obtain ⟨t4, z4, a4⟩ := tab_4 hts hgv
  obtain ⟨t5, z5, a5⟩ := tab_5 hts hgv
  obtain ⟨t6, z6, a6⟩ := tab_6 hts hgv
  refine ⟨fun i => match i with | 0 => t0 | 1 => t1 | 2 => t2 | 3 => t3 | 4 => t4 | 5 => t5 | _ => t6, fun i hi => ?_, fun i hi => ?_⟩
  · match i, hi with
    | 0, _ => exact z0
    | 1, _ => exact z1
    | 2, _ => exact z2
    | 3, _ => exact z3
    | 4, _ => exact z4
    | 5, _ => exact z5
    | 6, _ => exact z6
  · match i, hi with
    | 0, _ => exact a0
    | 1, _ => exact a1
    | 2, _ => exact a2
    | 3, _ => exact a3
    | 4, _ => exact a4
    | 5, _ => exact a5
    | 6, _ => exact a6
