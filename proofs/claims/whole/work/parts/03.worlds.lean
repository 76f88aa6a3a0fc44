/-! the class's state: registers, pendingLines, cycles, cells, and the multiplier's one, two, low, high, extra, way -/
abbrev StC : Type := (Nat → Int32) × Int32 × Int32 × (Nat → Int64) × Int32 × Int32 × Int32 × Int32 × Int32 × Int32
def wsC (h : Nat → Nat) (k : Nat → ClassId) (u : StC) : va_W := [(h 0, .inr (2, [.ref (h 1), .ref (h 2), .int u.2.1, .int u.2.2.1])), (h 1, .inr (0, [.ref (h 3), .ref (h 4)])), (h 2, .inl (k 0, 16, .inl u.1)), (h 3, .inl (k 1, 8192, .inr (.inl u.2.2.2.1))), (h 4, .inr (1, [.int u.2.2.2.2.1, .int u.2.2.2.2.2.1, .int u.2.2.2.2.2.2.1, .int u.2.2.2.2.2.2.2.1, .int u.2.2.2.2.2.2.2.2.1, .int u.2.2.2.2.2.2.2.2.2]))]
/-! the reference's state: words, r, by, how, lines, cycles, part, where, bytes -/
abbrev StR : Type := (Nat → Int32) × (Nat → Int32) × (Nat → Int32) × Int32 × Int32 × Int32 × Int32 × Int32 × Int32
def wsR (h : Nat → Nat) (k : Nat → ClassId) (u : StR) : va_W := [(h 0, .inr (3, [.ref (h 1), .ref (h 2), .ref (h 3), .int u.2.2.2.1, .int u.2.2.2.2.1, .int u.2.2.2.2.2.1, .int u.2.2.2.2.2.2.1, .int u.2.2.2.2.2.2.2.1, .int u.2.2.2.2.2.2.2.2])), (h 1, .inl (k 1, 32768, .inl u.1)), (h 2, .inl (k 0, 16, .inl u.2.1)), (h 3, .inl (k 0, 5, .inl u.2.2.1))]
def nestC : List Cond := [.methodLinkNest RX2 11 yX0_init RX2, .methodLinkNest RX0 17 yX1_init RX2, .methodLinkNest RX2 34 yX1_clear RX2, .methodLinkNest RX2 40 yX0_wordAt RX2, .methodLinkNest RX0 31 yX1_wordAtSlot RX2, .methodLinkNest RX2 49 yX0_placeByte RX2, .methodLinkNest RX0 52 yX1_placeWordAtSlot RX2, .methodLinkNest RX2 52 yX0_byteAt RX2, .methodLinkNest RX2 153 yX0_writeByte RX2, .methodLinkNest RX0 41 yX1_write RX2, .methodLinkNest RX2 156 yX0_writeWord RX2, .fieldLinkNest RX2 82 "LowPowerCpu$Multiplier" "way" "I" RX2, .fieldLinkNest RX2 30 "LowPowerCpu$Memory" "multiplier" "LLowPowerCpu$Multiplier;" RX2]
theorem nestC_ok : ∀ w ∈ nestC, isNest w = true := by decide +kernel
/-- the class's tables of cycles -/
def tabN : Nat → String := fun i => match i with
  | 0 => "KIND_OF_WAY"
  | 1 => "TO_REGISTER_CYCLES"
  | 2 => "TO_PC_CYCLES"
  | 3 => "TO_MEMORY_CYCLES"
  | 4 => "CHANGE_CYCLES"
  | 5 => "PUSH_CYCLES"
  | _ => "CALL_CYCLES"
def tabC : Nat → Nat → Int32 := fun i => match i with
  | 0 => fun j => match j with | 0 => 0 | 1 => 3 | 2 => 1 | _ => 2
  | 1 => fun j => match j with | 0 => 1 | 1 => 2 | 2 => 2 | _ => 3
  | 2 => fun j => match j with | 0 => 2 | 1 => 2 | 2 => 3 | _ => 3
  | 3 => fun j => match j with | 0 => 4 | 1 => 5 | 2 => 5 | _ => 6
  | 4 => fun j => match j with | 0 => 1 | 1 => 3 | 2 => 3 | _ => 4
  | 5 => fun j => match j with | 0 => 3 | 1 => 4 | 2 => 5 | _ => 5
  | _ => fun j => match j with | 0 => 4 | 1 => 4 | 2 => 5 | _ => 5
def ctC (D : va_G) (k : Nat → ClassId) (g : Nat → Nat) (A : Nat → Prop) (U : State) : Prop := va_K D vwCl [(k 0, .int), (k 1, .long)] U ∧ (∀ w ∈ nestC, va_Nw w U) ∧ (∀ i, i < 7 → va_Z "LowPowerCpu" (tabN i) "[I" (.ref (g i)) A U U.heap) ∧ (∀ i, i < 7 → va_T .int (g i) 4 (fun j => .int (tabC i j)) A U U.heap)
theorem ctC_moved {D : va_G} {k : Nat → ClassId} {g : Nat → Nat} {A B : Nat → Prop} {s U : State} {H : Heap} {locs : List Loc} (hW : s.WarmedH U.vm) (hU : U.heap = H) (hS : va_S A s.heap H locs) (hAB : ∀ q, B q → A q) (c : ctC D k g A s) : ctC D k g B U := by
  obtain ⟨c1, c2, c3, c4⟩ := c
  refine ⟨va_K.moved hW.alike c1, fun w hw => nest_moved (nestC_ok w hw) hW (c2 w hw), fun i hi => ?_, fun i hi => ?_⟩
  · rw [hU]; exact (((c3 i hi).kept hS.2.1).narrow hAB).moved hW.alike
  · rw [hU]; exact (((c4 i hi).kept hS.2.1).narrow hAB).moved hW.alike
theorem ctC_same {D : va_G} {k : Nat → ClassId} {g : Nat → Nat} {A : Nat → Prop} {u U : State} (hv : u.vm = U.vm) (hh : u.heap = U.heap) (c : ctC D k g A u) : ctC D k g A U := by
  obtain ⟨c1, c2, c3, c4⟩ := c
  have ha : u.vm.Alike U.vm := by rw [hv]; exact Vm.Alike.refl U.vm
  refine ⟨va_K.moved ha c1, fun w hw => va_Nw.same (nest_tab (nestC_ok w hw)) hv (c2 w hw), fun i hi => ?_, fun i hi => ?_⟩
  · rw [← hh]; exact (c3 i hi).moved ha
  · rw [← hh]; exact (c4 i hi).moved ha
def ctR (D : va_G) (k : Nat → ClassId) (A : Nat → Prop) (U : State) : Prop := va_K D vwCl [(k 0, .int), (k 1, .short)] U ∧ True
theorem ctR_moved {D : va_G} {k : Nat → ClassId} {A B : Nat → Prop} {s U : State} {H : Heap} {locs : List Loc} (hW : s.WarmedH U.vm) (hU : U.heap = H) (hS : va_S A s.heap H locs) (hAB : ∀ q, B q → A q) (c : ctR D k A s) : ctR D k B U := ⟨va_K.moved hW.alike c.1, trivial⟩
theorem ctR_same {D : va_G} {k : Nat → ClassId} {A : Nat → Prop} {u U : State} (hv : u.vm = U.vm) (hh : u.heap = U.heap) (c : ctR D k A u) : ctR D k A U := ⟨va_K.moved (by rw [hv]; exact Vm.Alike.refl U.vm) c.1, trivial⟩
theorem ownC {h : Nat → Nat} {k : Nat → ClassId} {u : StC} {sz : Nat} : ∀ (i : Nat) (q : Nat × va_E), (wsC h k u)[i]? = some q → AX 5 h sz q.1 := by
  intro i q hq
  match i, hq with
  | 0, hq => cases hq; exact Or.inl ⟨0, by decide, rfl⟩
  | 1, hq => cases hq; exact Or.inl ⟨1, by decide, rfl⟩
  | 2, hq => cases hq; exact Or.inl ⟨2, by decide, rfl⟩
  | 3, hq => cases hq; exact Or.inl ⟨3, by decide, rfl⟩
  | 4, hq => cases hq; exact Or.inl ⟨4, by decide, rfl⟩
  | i + 5, hq => simp [wsC] at hq
def PcC (D : va_G) (h : Nat → Nat) (k : Nat → ClassId) (g : Nat → Nat) (av : List Value) (sz : Nat) (u : StC) : Array Value → State → Prop := va_Pc av (fun U => U.heap.size = sz ∧ va_P D vwCl (wsC h k u) U.heap ∧ ctC D k g (AX 5 h sz) U ∧ va_D (AX 5 h sz) (wsC h k u))
def BC (D : va_G) (h : Nat → Nat) (k : Nat → ClassId) (A : Nat → Prop) (u : StC) (t : State) : Prop := va_P D vwCl (wsC h k u) t.heap ∧ va_D A (wsC h k u)
theorem blindC {D : va_G} {h : Nat → Nat} {k : Nat → ClassId} {g : Nat → Nat} {av : List Value} {sz : Nat} {u : StC} : FrameBlind (PcC D h k g av sz u) := by
  intro a U gg mk q
  obtain ⟨q0, q1, q2, q3, q4⟩ := q
  exact ⟨q0, q1, q2, ctC_same (u := U) (U := U.calling gg mk a) rfl rfl q3, q4⟩
section KC
variable {p : Program} {l : Launch} {e : Env} {R : Room} {s : State} {m : MethodId} {args : Array Value} {below : List Frame} {meth : Method} {c : Code} {H : Heap} {locs : List Loc} {cells slots : Nat} {Q : State → Prop}
variable {D : va_G} {h : Nat → Nat} {k : Nat → ClassId} {g : Nat → Nat} {u : StC} {As rest st0 : List Value} {pc : Nat} {ls : Array Slot} {a : Array Value} {cc : ByteArray}
theorem preC_V {C : String} {T : u_T} {N ci q0 b : Nat} {fs : List Value} (ct : ctC D k g (AX 5 h s.heap.size) s) (hP : va_P D vwCl (wsC h k u) H) (hD : va_D (AX 5 h s.heap.size) (wsC h k u)) (hS : va_S (AX 5 h s.heap.size) s.heap H locs) (hc : vwCl[ci]? = some (C, T, N)) (he : (wsC h k u)[q0]? = some (b, .inr (ci, fs))) : PreV s H C b (PcC D h k g (Value.ref b :: As) H.size u) As :=
  ⟨blindC, va_recv ct.1 hP hc he, fun U hU hW => ⟨rfl, by rw [hU], by rw [hU]; exact hP, ctC_moved hW hU hS (AX_mono hS.1) ct, ⟨hD.1, fun i q hq => by
    have h1 := hP i q hq
    have h2 := h1.lt
    rcases hD.2 i q hq with z | z
    · exact Or.inl z
    · exact ownC i q hq⟩⟩⟩
theorem preC_S (ct : ctC D k g (AX 5 h s.heap.size) s) (hP : va_P D vwCl (wsC h k u) H) (hD : va_D (AX 5 h s.heap.size) (wsC h k u)) (hS : va_S (AX 5 h s.heap.size) s.heap H locs) : PreS s H (PcC D h k g As H.size u) As :=
  ⟨blindC, fun U hU hW => ⟨rfl, by rw [hU], by rw [hU]; exact hP, ctC_moved hW hU hS (AX_mono hS.1) ct, ⟨hD.1, fun i q hq => ownC i q hq⟩⟩⟩
theorem callC_i {F : Int32 × StC} (hr : va_Run p l e R s m args below meth c H locs cells slots 0 0 (F0 m pc ls st0) rest (va_Qi (fun r u => (r, u) = F) (BC D h k (AX 5 h H.size)) (AX 5 h H.size) a) (AX 5 h H.size)) (hS : va_S (AX 5 h s.heap.size) s.heap H locs)
    (kk : ∀ (r : Int32) (u : StC) (H1 : Heap) (locs1 : List Loc), r = F.1 → u = F.2 → va_P D vwCl (wsC h k u) H1 → va_D (AX 5 h s.heap.size) (wsC h k u) → va_S (AX 5 h s.heap.size) s.heap H1 locs1 → W p l e R s m args below meth c H1 locs1 cells slots Q (F0 m (pc + 3) ls (.int r :: rest))) : W p l e R s m args below meth c H locs cells slots Q (F0 m pc ls st0) :=
  va_calli hr hS (fun q _ z => AX_mono hS.1 q z) (AX_mono hS.1) (fun r u t H1 locs1 ht _ hw hB _ _ hS1 => kk r u H1 locs1 (by rw [← hw]) (by rw [← hw]) (by rw [← ht]; exact hB.1) (hB.2.weaken (fun _ q _ z => AX_mono hS.1 q.1 z)) hS1)
theorem callC_ip {f : Int32} (hr : va_Run p l e R s m args below meth c H locs cells slots 0 0 (F0 m pc ls st0) rest (va_Qi (fun r w => (r, w) = (f, u)) (BC D h k (AX 5 h H.size)) (AX 5 h H.size) a) (AX 5 h H.size)) (hS : va_S (AX 5 h s.heap.size) s.heap H locs)
    (kk : ∀ (r : Int32) (H1 : Heap) (locs1 : List Loc), r = f → va_P D vwCl (wsC h k u) H1 → va_D (AX 5 h s.heap.size) (wsC h k u) → va_S (AX 5 h s.heap.size) s.heap H1 locs1 → W p l e R s m args below meth c H1 locs1 cells slots Q (F0 m (pc + 3) ls (.int r :: rest))) : W p l e R s m args below meth c H locs cells slots Q (F0 m pc ls st0) :=
  callC_i (F := (f, u)) hr hS (fun r w H1 locs1 h1 h2 hP hD hS1 => by subst h2; exact kk r H1 locs1 h1 hP hD hS1)
theorem callC_v {F : StC} (hr : va_Run p l e R s m args below meth c H locs cells slots 0 0 (F0 m pc ls st0) rest (va_Qv (fun w => w = F) (BC D h k (AX 5 h H.size)) (AX 5 h H.size) a) (AX 5 h H.size)) (hS : va_S (AX 5 h s.heap.size) s.heap H locs)
    (kk : ∀ (w : StC) (H1 : Heap) (locs1 : List Loc), w = F → va_P D vwCl (wsC h k w) H1 → va_D (AX 5 h s.heap.size) (wsC h k w) → va_S (AX 5 h s.heap.size) s.heap H1 locs1 → W p l e R s m args below meth c H1 locs1 cells slots Q (F0 m (pc + 3) ls rest)) : W p l e R s m args below meth c H locs cells slots Q (F0 m pc ls st0) :=
  va_callv hr hS (fun q _ z => AX_mono hS.1 q z) (AX_mono hS.1) (fun w t H1 locs1 ht _ hw hB _ _ hS1 => kk w H1 locs1 hw (by rw [← ht]; exact hB.1) (hB.2.weaken (fun _ q _ z => AX_mono hS.1 q.1 z)) hS1)
theorem retC_i {F : Int32 × StC} {v : Int32} (hx : p.tables.exec = Jvm.exec) (hb : c.code = cc) (hr : meth.sig.returnType = some .int) (hlocks : meth.locks = false) (hq : F = (v, u)) (hP : va_P D vwCl (wsC h k u) H) (hD : va_D (AX 5 h s.heap.size) (wsC h k u)) (hS : va_S (AX 5 h s.heap.size) s.heap H locs) (hd : decode cc pc = .ok (.ireturn, 1)) : W p l e R s m args below meth c H locs cells slots (MQ below (va_Qi (fun r u => (r, u) = F) (BC D h k (AX 5 h s.heap.size)) (AX 5 h s.heap.size)) args s cells slots (AX 5 h s.heap.size)) (F0 m pc ls [.int v]) :=
  W.iret hx hb hr (fun t ht _ => ⟨⟨v, u, rfl, hq.symm, by rw [ht]; exact hP, hD⟩, hS.F ht⟩) hS.2.2 hd hlocks
theorem retC_z {F : Int32 × StC} {v : Int32} (hx : p.tables.exec = Jvm.exec) (hb : c.code = cc) (hr : meth.sig.returnType = some .boolean) (hlocks : meth.locks = false) (hn : narrow .boolean (.int v) = .int v) (hq : F = (v, u)) (hP : va_P D vwCl (wsC h k u) H) (hD : va_D (AX 5 h s.heap.size) (wsC h k u)) (hS : va_S (AX 5 h s.heap.size) s.heap H locs) (hd : decode cc pc = .ok (.ireturn, 1)) : W p l e R s m args below meth c H locs cells slots (MQ below (va_Qi (fun r u => (r, u) = F) (BC D h k (AX 5 h s.heap.size)) (AX 5 h s.heap.size)) args s cells slots (AX 5 h s.heap.size)) (F0 m pc ls [.int v]) :=
  W.zret hx hb hr hn (fun t ht _ => ⟨⟨v, u, rfl, hq.symm, by rw [ht]; exact hP, hD⟩, hS.F ht⟩) hS.2.2 hd hlocks
theorem retC_ip {f v : Int32} (hx : p.tables.exec = Jvm.exec) (hb : c.code = cc) (hr : meth.sig.returnType = some .int) (hlocks : meth.locks = false) (hq : f = v) (hP : va_P D vwCl (wsC h k u) H) (hD : va_D (AX 5 h s.heap.size) (wsC h k u)) (hS : va_S (AX 5 h s.heap.size) s.heap H locs) (hd : decode cc pc = .ok (.ireturn, 1)) : W p l e R s m args below meth c H locs cells slots (MQ below (va_Qi (fun r w => (r, w) = (f, u)) (BC D h k (AX 5 h s.heap.size)) (AX 5 h s.heap.size)) args s cells slots (AX 5 h s.heap.size)) (F0 m pc ls [.int v]) := retC_i hx hb hr hlocks (by rw [hq]) hP hD hS hd
theorem retC_zp {f v : Int32} (hx : p.tables.exec = Jvm.exec) (hb : c.code = cc) (hr : meth.sig.returnType = some .boolean) (hlocks : meth.locks = false) (hn : narrow .boolean (.int v) = .int v) (hq : f = v) (hP : va_P D vwCl (wsC h k u) H) (hD : va_D (AX 5 h s.heap.size) (wsC h k u)) (hS : va_S (AX 5 h s.heap.size) s.heap H locs) (hd : decode cc pc = .ok (.ireturn, 1)) : W p l e R s m args below meth c H locs cells slots (MQ below (va_Qi (fun r w => (r, w) = (f, u)) (BC D h k (AX 5 h s.heap.size)) (AX 5 h s.heap.size)) args s cells slots (AX 5 h s.heap.size)) (F0 m pc ls [.int v]) := retC_z hx hb hr hlocks hn (by rw [hq]) hP hD hS hd
theorem retC_v {F : StC} (hx : p.tables.exec = Jvm.exec) (hb : c.code = cc) (hr : meth.sig.returnType = none) (hlocks : meth.locks = false) (hq : F = u) (hP : va_P D vwCl (wsC h k u) H) (hD : va_D (AX 5 h s.heap.size) (wsC h k u)) (hS : va_S (AX 5 h s.heap.size) s.heap H locs) (hd : decode cc pc = .ok (.return_, 1)) : W p l e R s m args below meth c H locs cells slots (MQ below (va_Qv (fun w => w = F) (BC D h k (AX 5 h s.heap.size)) (AX 5 h s.heap.size)) args s cells slots (AX 5 h s.heap.size)) (F0 m pc ls []) :=
  W.vret hx hb hr (fun t ht _ => ⟨⟨u, rfl, hq.symm, by rw [ht]; exact hP, hD⟩, hS.F ht⟩) hS.2.2 hd hlocks
theorem callC_rp {f : Nat} (hr : va_Run p l e R s m args below meth c H locs cells slots 0 0 (F0 m pc ls st0) rest (va_Qr (fun w : Nat × StC => w = (f, u)) (fun w b t => b = g w.1 ∧ BC D h k (AX 5 h H.size) w.2 t) (AX 5 h H.size) a) (AX 5 h H.size)) (hS : va_S (AX 5 h s.heap.size) s.heap H locs)
    (kk : ∀ (r : Nat) (H1 : Heap) (locs1 : List Loc), r = f → va_P D vwCl (wsC h k u) H1 → va_D (AX 5 h s.heap.size) (wsC h k u) → va_S (AX 5 h s.heap.size) s.heap H1 locs1 → W p l e R s m args below meth c H1 locs1 cells slots Q (F0 m (pc + 3) ls (.ref (g r) :: rest))) : W p l e R s m args below meth c H locs cells slots Q (F0 m pc ls st0) :=
  va_callr hr hS (fun q _ z => AX_mono hS.1 q z) (AX_mono hS.1) (fun w ra t H1 locs1 ht _ hw hB _ _ hS1 => by
    subst hw
    obtain ⟨rfl, hB⟩ := hB
    exact kk f H1 locs1 rfl (by rw [← ht]; exact hB.1) (hB.2.weaken (fun _ q _ z => AX_mono hS.1 q.1 z)) hS1)
theorem retC_rp {f v : Nat} (hx : p.tables.exec = Jvm.exec) (hb : c.code = cc) (hr : meth.sig.returnType = some (.array .int)) (hlocks : meth.locks = false) (hq : f = v) (hP : va_P D vwCl (wsC h k u) H) (hD : va_D (AX 5 h s.heap.size) (wsC h k u)) (hS : va_S (AX 5 h s.heap.size) s.heap H locs) (hd : decode cc pc = .ok (.areturn, 1)) : W p l e R s m args below meth c H locs cells slots (MQ below (va_Qr (fun w : Nat × StC => w = (f, u)) (fun w b t => b = g w.1 ∧ BC D h k (AX 5 h s.heap.size) w.2 t) (AX 5 h s.heap.size)) args s cells slots (AX 5 h s.heap.size)) (F0 m pc ls [.ref (g v)]) :=
  W.aret hx hb hr (Or.inr ⟨_, rfl⟩) (Or.inr ⟨_, rfl⟩) (fun t ht _ => ⟨⟨(f, u), g v, rfl, rfl, by rw [hq], by rw [ht]; exact hP, hD⟩, hS.F ht⟩) hS.2.2 hd hlocks
end KC
theorem ownR {h : Nat → Nat} {k : Nat → ClassId} {u : StR} {sz : Nat} : ∀ (i : Nat) (q : Nat × va_E), (wsR h k u)[i]? = some q → AX 4 h sz q.1 := by
  intro i q hq
  match i, hq with
  | 0, hq => cases hq; exact Or.inl ⟨0, by decide, rfl⟩
  | 1, hq => cases hq; exact Or.inl ⟨1, by decide, rfl⟩
  | 2, hq => cases hq; exact Or.inl ⟨2, by decide, rfl⟩
  | 3, hq => cases hq; exact Or.inl ⟨3, by decide, rfl⟩
  | i + 4, hq => simp [wsR] at hq
def PcR (D : va_G) (h : Nat → Nat) (k : Nat → ClassId) (av : List Value) (sz : Nat) (u : StR) : Array Value → State → Prop := va_Pc av (fun U => U.heap.size = sz ∧ va_P D vwCl (wsR h k u) U.heap ∧ ctR D k (AX 4 h sz) U ∧ va_D (AX 4 h sz) (wsR h k u))
def BR (D : va_G) (h : Nat → Nat) (k : Nat → ClassId) (A : Nat → Prop) (u : StR) (t : State) : Prop := va_P D vwCl (wsR h k u) t.heap ∧ va_D A (wsR h k u)
theorem blindR {D : va_G} {h : Nat → Nat} {k : Nat → ClassId} {av : List Value} {sz : Nat} {u : StR} : FrameBlind (PcR D h k av sz u) := by
  intro a U gg mk q
  obtain ⟨q0, q1, q2, q3, q4⟩ := q
  exact ⟨q0, q1, q2, ctR_same (u := U) (U := U.calling gg mk a) rfl rfl q3, q4⟩
section KR
variable {p : Program} {l : Launch} {e : Env} {R : Room} {s : State} {m : MethodId} {args : Array Value} {below : List Frame} {meth : Method} {c : Code} {H : Heap} {locs : List Loc} {cells slots : Nat} {Q : State → Prop}
variable {D : va_G} {h : Nat → Nat} {k : Nat → ClassId} {u : StR} {As rest st0 : List Value} {pc : Nat} {ls : Array Slot} {a : Array Value} {cc : ByteArray}
theorem preR_V {C : String} {T : u_T} {N ci q0 b : Nat} {fs : List Value} (ct : ctR D k (AX 4 h s.heap.size) s) (hP : va_P D vwCl (wsR h k u) H) (hD : va_D (AX 4 h s.heap.size) (wsR h k u)) (hS : va_S (AX 4 h s.heap.size) s.heap H locs) (hc : vwCl[ci]? = some (C, T, N)) (he : (wsR h k u)[q0]? = some (b, .inr (ci, fs))) : PreV s H C b (PcR D h k (Value.ref b :: As) H.size u) As :=
  ⟨blindR, va_recv ct.1 hP hc he, fun U hU hW => ⟨rfl, by rw [hU], by rw [hU]; exact hP, ctR_moved hW hU hS (AX_mono hS.1) ct, ⟨hD.1, fun i q hq => by
    have h1 := hP i q hq
    have h2 := h1.lt
    rcases hD.2 i q hq with z | z
    · exact Or.inl z
    · exact ownR i q hq⟩⟩⟩
theorem preR_S (ct : ctR D k (AX 4 h s.heap.size) s) (hP : va_P D vwCl (wsR h k u) H) (hD : va_D (AX 4 h s.heap.size) (wsR h k u)) (hS : va_S (AX 4 h s.heap.size) s.heap H locs) : PreS s H (PcR D h k As H.size u) As :=
  ⟨blindR, fun U hU hW => ⟨rfl, by rw [hU], by rw [hU]; exact hP, ctR_moved hW hU hS (AX_mono hS.1) ct, ⟨hD.1, fun i q hq => ownR i q hq⟩⟩⟩
theorem callR_i {F : Int32 × StR} (hr : va_Run p l e R s m args below meth c H locs cells slots 0 0 (F0 m pc ls st0) rest (va_Qi (fun r u => (r, u) = F) (BR D h k (AX 4 h H.size)) (AX 4 h H.size) a) (AX 4 h H.size)) (hS : va_S (AX 4 h s.heap.size) s.heap H locs)
    (kk : ∀ (r : Int32) (u : StR) (H1 : Heap) (locs1 : List Loc), r = F.1 → u = F.2 → va_P D vwCl (wsR h k u) H1 → va_D (AX 4 h s.heap.size) (wsR h k u) → va_S (AX 4 h s.heap.size) s.heap H1 locs1 → W p l e R s m args below meth c H1 locs1 cells slots Q (F0 m (pc + 3) ls (.int r :: rest))) : W p l e R s m args below meth c H locs cells slots Q (F0 m pc ls st0) :=
  va_calli hr hS (fun q _ z => AX_mono hS.1 q z) (AX_mono hS.1) (fun r u t H1 locs1 ht _ hw hB _ _ hS1 => kk r u H1 locs1 (by rw [← hw]) (by rw [← hw]) (by rw [← ht]; exact hB.1) (hB.2.weaken (fun _ q _ z => AX_mono hS.1 q.1 z)) hS1)
theorem callR_ip {f : Int32} (hr : va_Run p l e R s m args below meth c H locs cells slots 0 0 (F0 m pc ls st0) rest (va_Qi (fun r w => (r, w) = (f, u)) (BR D h k (AX 4 h H.size)) (AX 4 h H.size) a) (AX 4 h H.size)) (hS : va_S (AX 4 h s.heap.size) s.heap H locs)
    (kk : ∀ (r : Int32) (H1 : Heap) (locs1 : List Loc), r = f → va_P D vwCl (wsR h k u) H1 → va_D (AX 4 h s.heap.size) (wsR h k u) → va_S (AX 4 h s.heap.size) s.heap H1 locs1 → W p l e R s m args below meth c H1 locs1 cells slots Q (F0 m (pc + 3) ls (.int r :: rest))) : W p l e R s m args below meth c H locs cells slots Q (F0 m pc ls st0) :=
  callR_i (F := (f, u)) hr hS (fun r w H1 locs1 h1 h2 hP hD hS1 => by subst h2; exact kk r H1 locs1 h1 hP hD hS1)
theorem callR_v {F : StR} (hr : va_Run p l e R s m args below meth c H locs cells slots 0 0 (F0 m pc ls st0) rest (va_Qv (fun w => w = F) (BR D h k (AX 4 h H.size)) (AX 4 h H.size) a) (AX 4 h H.size)) (hS : va_S (AX 4 h s.heap.size) s.heap H locs)
    (kk : ∀ (w : StR) (H1 : Heap) (locs1 : List Loc), w = F → va_P D vwCl (wsR h k w) H1 → va_D (AX 4 h s.heap.size) (wsR h k w) → va_S (AX 4 h s.heap.size) s.heap H1 locs1 → W p l e R s m args below meth c H1 locs1 cells slots Q (F0 m (pc + 3) ls rest)) : W p l e R s m args below meth c H locs cells slots Q (F0 m pc ls st0) :=
  va_callv hr hS (fun q _ z => AX_mono hS.1 q z) (AX_mono hS.1) (fun w t H1 locs1 ht _ hw hB _ _ hS1 => kk w H1 locs1 hw (by rw [← ht]; exact hB.1) (hB.2.weaken (fun _ q _ z => AX_mono hS.1 q.1 z)) hS1)
theorem retR_i {F : Int32 × StR} {v : Int32} (hx : p.tables.exec = Jvm.exec) (hb : c.code = cc) (hr : meth.sig.returnType = some .int) (hlocks : meth.locks = false) (hq : F = (v, u)) (hP : va_P D vwCl (wsR h k u) H) (hD : va_D (AX 4 h s.heap.size) (wsR h k u)) (hS : va_S (AX 4 h s.heap.size) s.heap H locs) (hd : decode cc pc = .ok (.ireturn, 1)) : W p l e R s m args below meth c H locs cells slots (MQ below (va_Qi (fun r u => (r, u) = F) (BR D h k (AX 4 h s.heap.size)) (AX 4 h s.heap.size)) args s cells slots (AX 4 h s.heap.size)) (F0 m pc ls [.int v]) :=
  W.iret hx hb hr (fun t ht _ => ⟨⟨v, u, rfl, hq.symm, by rw [ht]; exact hP, hD⟩, hS.F ht⟩) hS.2.2 hd hlocks
theorem retR_z {F : Int32 × StR} {v : Int32} (hx : p.tables.exec = Jvm.exec) (hb : c.code = cc) (hr : meth.sig.returnType = some .boolean) (hlocks : meth.locks = false) (hn : narrow .boolean (.int v) = .int v) (hq : F = (v, u)) (hP : va_P D vwCl (wsR h k u) H) (hD : va_D (AX 4 h s.heap.size) (wsR h k u)) (hS : va_S (AX 4 h s.heap.size) s.heap H locs) (hd : decode cc pc = .ok (.ireturn, 1)) : W p l e R s m args below meth c H locs cells slots (MQ below (va_Qi (fun r u => (r, u) = F) (BR D h k (AX 4 h s.heap.size)) (AX 4 h s.heap.size)) args s cells slots (AX 4 h s.heap.size)) (F0 m pc ls [.int v]) :=
  W.zret hx hb hr hn (fun t ht _ => ⟨⟨v, u, rfl, hq.symm, by rw [ht]; exact hP, hD⟩, hS.F ht⟩) hS.2.2 hd hlocks
theorem retR_ip {f v : Int32} (hx : p.tables.exec = Jvm.exec) (hb : c.code = cc) (hr : meth.sig.returnType = some .int) (hlocks : meth.locks = false) (hq : f = v) (hP : va_P D vwCl (wsR h k u) H) (hD : va_D (AX 4 h s.heap.size) (wsR h k u)) (hS : va_S (AX 4 h s.heap.size) s.heap H locs) (hd : decode cc pc = .ok (.ireturn, 1)) : W p l e R s m args below meth c H locs cells slots (MQ below (va_Qi (fun r w => (r, w) = (f, u)) (BR D h k (AX 4 h s.heap.size)) (AX 4 h s.heap.size)) args s cells slots (AX 4 h s.heap.size)) (F0 m pc ls [.int v]) := retR_i hx hb hr hlocks (by rw [hq]) hP hD hS hd
theorem retR_zp {f v : Int32} (hx : p.tables.exec = Jvm.exec) (hb : c.code = cc) (hr : meth.sig.returnType = some .boolean) (hlocks : meth.locks = false) (hn : narrow .boolean (.int v) = .int v) (hq : f = v) (hP : va_P D vwCl (wsR h k u) H) (hD : va_D (AX 4 h s.heap.size) (wsR h k u)) (hS : va_S (AX 4 h s.heap.size) s.heap H locs) (hd : decode cc pc = .ok (.ireturn, 1)) : W p l e R s m args below meth c H locs cells slots (MQ below (va_Qi (fun r w => (r, w) = (f, u)) (BR D h k (AX 4 h s.heap.size)) (AX 4 h s.heap.size)) args s cells slots (AX 4 h s.heap.size)) (F0 m pc ls [.int v]) := retR_z hx hb hr hlocks hn (by rw [hq]) hP hD hS hd
theorem retR_v {F : StR} (hx : p.tables.exec = Jvm.exec) (hb : c.code = cc) (hr : meth.sig.returnType = none) (hlocks : meth.locks = false) (hq : F = u) (hP : va_P D vwCl (wsR h k u) H) (hD : va_D (AX 4 h s.heap.size) (wsR h k u)) (hS : va_S (AX 4 h s.heap.size) s.heap H locs) (hd : decode cc pc = .ok (.return_, 1)) : W p l e R s m args below meth c H locs cells slots (MQ below (va_Qv (fun w => w = F) (BR D h k (AX 4 h s.heap.size)) (AX 4 h s.heap.size)) args s cells slots (AX 4 h s.heap.size)) (F0 m pc ls []) :=
  W.vret hx hb hr (fun t ht _ => ⟨⟨u, rfl, hq.symm, by rw [ht]; exact hP, hD⟩, hS.F ht⟩) hS.2.2 hd hlocks
end KR
