set_option maxHeartbeats 4000000 in
set_option maxRecDepth 100000 in
/-- the law, from its entry -/
theorem whole_start {p : Program} {e : Env} {s : State} {m : MethodId} {below : List Frame} {meth : Method} {c : Code} (l : Launch) {b L : Nat} {xs : Nat → Int32} (hL : L ≤ 1536) (C0 : lw_At p s m meth c b L xs) : W p l e room_1 s m #[Value.ref b] below meth c s.heap [] 0 0 (lw_Z below #[Value.ref b] s) (entryFrame m ([Value.ref b] : List Value).toArray 4) := by
  obtain ⟨hx, hb, hr, hml, hown, hts0, hX, hbl, hlocks, hgv⟩ := id C0
  have hts := fun w h => hts0 w (wsL_law_in w h)
  have hown : s.vm.findClass RL = some m.cls := hown
  have hb : c.code = cL_law := hb
  have hA : ∀ q : Nat, s.heap.size ≤ q → AL s.heap.size q := fun _ h => h
  have hbA : ¬ AL s.heap.size b := Nat.not_le.mpr hbl
  obtain ⟨g, hZ, hT⟩ := tabs_of hts0 hgv
  have hN : ∀ w ∈ nestC, va_Nw w s := fun w hw => va_Nw.of (nest_tab (nestC_ok w hw)) (hts0 w (nestC_in w hw))
  obtain ⟨c0, iS0, hKn0⟩ := u_known (C := RX0) (T := TX0) (N := 2) (n := 2) hts0 inX0 (hts0 _ (List.mem_of_getElem? (i := 83) (by decide +kernel)))
  obtain ⟨c1, iS1, hKn1⟩ := u_known (C := RX1) (T := TX1) (N := 6) (n := 6) hts0 inX1 (hts0 _ (List.mem_of_getElem? (i := 89) (by decide +kernel)))
  obtain ⟨c2, iS2, hKn2⟩ := u_known (C := RX2) (T := TX2) (N := 4) (n := 4) hts0 inX2 (hts0 _ (List.mem_of_getElem? (i := 75) (by decide +kernel)))
  obtain ⟨c3, iS3, hKn3⟩ := u_known (C := RX3) (T := TX3) (N := 9) (n := 9) hts0 inX3 (hts0 _ (List.mem_of_getElem? (i := 380) (by decide +kernel)))
  obtain ⟨dC, dI, hKc⟩ : ∃ (dC : Nat → ClassId) (dI : Nat → Nat → Nat), ∀ (k : Nat) (q : vw_C), vwCl[k]? = some q → u_Kn s q.1 q.2.1 q.2.2 (dC k) (dI k) := by
    refine ⟨fun k => match k with | 0 => c0 | 1 => c1 | 2 => c2 | _ => c3, fun k => match k with | 0 => iS0 | 1 => iS1 | 2 => iS2 | _ => iS3, ?_⟩
    intro k q hq
    match k, hq with
    | 0, hq => cases hq; exact hKn0
    | 1, hq => cases hq; exact hKn1
    | 2, hq => cases hq; exact hKn2
    | 3, hq => cases hq; exact hKn3
    | k + 4, hq => simp [vwCl] at hq
  have hS : va_S (AL s.heap.size) s.heap s.heap [] := va_S.rf
  have hK : va_K (dC, dI) vwCl [] s := ⟨hKc, fun k q h => by simp at h⟩
  have hP : va_P (dC, dI) vwCl [] s.heap := fun k q h => by simp at h
  have hD : va_D (AL s.heap.size) [] := ⟨fun i j p q h => by simp at h, fun k q h => by simp at h⟩
  have hl := lv_entry ([.ref b]) (n := 4) (Nat.le_of_ble_eq_true rfl)
  rw [lg_entry_eq]
  generalize (lg_sl ([.ref b]) ++ List.replicate (4 - (lg_sl ([.ref b])).length) Slot.unset).toArray = ls at hl ⊢
  have hl : lv_has ls 4 [(0, .ref b)] := hl
  refine va_new (ci := 2) (fs := [.null, .null, .int 0, .int 0]) (C := RX2) (T := TX2) (N := 4) hx hb hts0 inX2 tyX2 tyX2_ok hown (hts0 _ (List.mem_of_getElem? (i := 74) (by decide +kernel))) (hts0 _ (List.mem_of_getElem? (i := 75) (by decide +kernel))) (hts0 _ (List.mem_of_getElem? (i := 70) (by decide +kernel))) hK hP hD hS hA rfl (fun j hj => by rcases (show j = 0 ∨ j = 1 ∨ j = 2 ∨ j = 3 by omega) with rfl | rfl | rfl | rfl <;> rfl) (Nat.le_of_ble_eq_true rfl) (Nat.le_of_ble_eq_true rfl) dL_law_0 (fun q0v H hP hD hS => ?_)
  have hP : va_P (dC, dI) vwCl [(q0v, zX2)] H := hP
  have hD : va_D (AL s.heap.size) [(q0v, zX2)] := hD
  refine W.widen (k := 1) (n := 4) (by omega) (by omega) ?_
  refine lv_dup hx hb dL_law_3 rfl ?_
  have hFc := va_free (wc := [(q0v, zX2)]) hD hS hA [0] rfl
  refine va_callv (va_runI (As := []) (rest := [.ref q0v]) ⟨hx, hb, hml, hown, hts⟩ (c_X2_init l dC dI g q0v H.size) (cwI 0 hts gL_law_X2_init rfl rfl rfl (hts0 _ (List.mem_of_getElem? (i := 70) (by decide +kernel))) (hts0 _ (List.mem_of_getElem? (i := 76) (by decide +kernel))) (hts0 _ (List.mem_of_getElem? (i := 77) (by decide +kernel))) rfl (by decide +kernel) ⟨Nat.le_of_ble_eq_true rfl, Nat.le_of_ble_eq_true rfl⟩) ⟨fun a U gg mk q => by obtain ⟨y0, y1, y2, y3, y4, ⟨y5, y6⟩, y7⟩ := q; exact ⟨y0, y1, y2, va_K.moved (u := U) (U := U.calling gg mk a) (Vm.Alike.refl U.vm) y3, fun w hw => va_Nw.same (u := U) (U := U.calling gg mk a) (nest_tab (nestC_ok w hw)) rfl (y4 w hw), ⟨fun i hi => (y5 i hi).moved (u := U) (U := U.calling gg mk a) (Vm.Alike.refl U.vm), fun i hi => (y6 i hi).moved (u := U) (U := U.calling gg mk a) (Vm.Alike.refl U.vm)⟩, y7⟩, fun U hU hW => ⟨rfl, by rw [hU], by rw [hU]; exact hP, va_K.moved hW.alike hK, fun w hw => nest_moved (nestC_ok w hw) hW (hN w hw), ⟨fun i hi => by rw [hU]; exact (((hZ i hi).kept hS.2.1).narrow hFc).moved hW.alike, fun i hi => by rw [hU]; exact (((hT i hi).kept hS.2.1).narrow hFc).moved hW.alike⟩, hD.weaken (fun _ _ _ _ => trivial)⟩⟩ rfl rfl hl.1 rfl (lv_room (Nat.le_of_ble_eq_true rfl)) dL_law_4 ⟨Nat.le_of_ble_eq_true rfl, Nat.le_of_ble_eq_true rfl⟩) hS (fun q _ h => hFc q h) hFc (fun u t H1 locs ht hvm hw hB hz1 hk1 hS => ?_)
  obtain ⟨h, k⟩ := u
  obtain ⟨hP1, hK1, hD1⟩ := hB
  rw [ht] at hP1
  have hK1 : va_K (dC, dI) vwCl [(k 0, .int), (k 1, .long)] s := va_K.moved hvm.symm hK1
  have hPn : va_P (dC, dI) vwCl (wsC h k (f_X2_init_ σ0)) H1 := hP1
  have hDn : va_D (AL s.heap.size) (wsC h k (f_X2_init_ σ0)) := hD1.weaken (fun _ q _ z => hFc q.1 z)
  have hSn := hS
  have hw : h 0 = q0v := hw
  clear hP hD hP1 hD1 hFc
  subst hw
  have hP := hPn
  have hD := hDn
  have hS := hSn
  have hct : ctC (dC, dI) k g (AL s.heap.size) s := ⟨hK1, hN, hZ, hT⟩
  have hK : va_K (dC, dI) vwCl [] s := hK
  have hR := R_start
  generalize f_X2_init_ σ0 = σ at hP hD hR
  refine W.widen (k := 5) (n := 8220) (by omega) (by omega) ?_
  refine lv_astore_n (lv' := [(1, .ref (h 0)), (0, .ref b)]) hx hb dL_law_7 rfl hl (by decide) rfl (fun ls hl => ?_)
  refine va_new (ci := 3) (fs := [.null, .null, .null, .int 0, .int 0, .int 0, .int 0, .int 0, .int 0]) (C := RX3) (T := TX3) (N := 9) hx hb hts0 inX3 tyX3 tyX3_ok hown (hts0 _ (List.mem_of_getElem? (i := 379) (by decide +kernel))) (hts0 _ (List.mem_of_getElem? (i := 380) (by decide +kernel))) (hts0 _ (List.mem_of_getElem? (i := 73) (by decide +kernel))) hK hP hD hS hA rfl (fun j hj => by rcases (show j = 0 ∨ j = 1 ∨ j = 2 ∨ j = 3 ∨ j = 4 ∨ j = 5 ∨ j = 6 ∨ j = 7 ∨ j = 8 by omega) with rfl | rfl | rfl | rfl | rfl | rfl | rfl | rfl | rfl <;> rfl) (Nat.le_of_ble_eq_true rfl) (Nat.le_of_ble_eq_true rfl) dL_law_8 (fun q1v H hP hD hS => ?_)
  have hP : va_P (dC, dI) vwCl (wsC h k σ ++ [(q1v, zX3)]) H := hP
  have hD : va_D (AL s.heap.size) (wsC h k σ ++ [(q1v, zX3)]) := hD
  refine W.widen (k := 6) (n := 8229) (by omega) (by omega) ?_
  refine lv_dup hx hb dL_law_11 rfl ?_
  have hPc := hP.sub (ws' := [(q1v, zX3)]) [5] rfl
  have hDc := hD.sub (ws' := [(q1v, zX3)]) [5] (by decide) rfl
  have hFc := va_free (wc := [(q1v, zX3)]) hD hS hA [5] rfl
  refine va_callv (va_runI (As := []) (rest := [.ref q1v]) ⟨hx, hb, hml, hown, hts⟩ (c_X3_init l dC dI q1v H.size) (cwI 0 hts gL_law_X3_init rfl rfl rfl (hts0 _ (List.mem_of_getElem? (i := 73) (by decide +kernel))) (hts0 _ (List.mem_of_getElem? (i := 381) (by decide +kernel))) (hts0 _ (List.mem_of_getElem? (i := 382) (by decide +kernel))) rfl (by decide +kernel) ⟨Nat.le_of_ble_eq_true rfl, Nat.le_of_ble_eq_true rfl⟩) ⟨fun a U gg mk q => by obtain ⟨y0, y1, y2, y3, y7⟩ := q; exact ⟨y0, y1, y2, va_K.moved (u := U) (U := U.calling gg mk a) (Vm.Alike.refl U.vm) y3, y7⟩, fun U hU hW => ⟨rfl, by rw [hU], by rw [hU]; exact hPc, va_K.moved hW.alike hK, hDc.weaken (fun _ _ _ _ => trivial)⟩⟩ rfl rfl hl.1 rfl (lv_room (Nat.le_of_ble_eq_true rfl)) dL_law_12 ⟨Nat.le_of_ble_eq_true rfl, Nat.le_of_ble_eq_true rfl⟩) hS (fun q _ h => hFc q h) hFc (fun u t H1 locs ht hvm hw hB hz1 hk1 hS => ?_)
  obtain ⟨h', k'⟩ := u
  obtain ⟨hP1, hK1, hD1⟩ := hB
  rw [ht] at hP1
  have hK1 : va_K (dC, dI) vwCl [(k' 0, .int), (k' 1, .short)] s := va_K.moved hvm.symm hK1
  have hP1 : va_P (dC, dI) vwCl (wsR h' k' (f_X3_init_ τ0)) H1 := hP1
  have hD1 : va_D (va_A [(q1v, zX3)] H.size) (wsR h' k' (f_X3_init_ τ0)) := hD1
  have hw : h' 0 = q1v := hw
  generalize f_X3_init_ τ0 = τ at hP1 hD1 hR
  obtain ⟨hP, hD⟩ := va_join (wr := wsC h k σ) (w1 := wsR h' k' τ) hP hD [5] [0, 1, 2, 3, 4] rfl rfl (by decide) (by decide) hk1 hFc hP1 hD1
  have hPn := hP
  have hDn := hD
  have hSn := hS
  subst hw
  have hP := hPn
  have hD := hDn
  have hS := hSn
  have hcr : ctR (dC, dI) k' (AL s.heap.size) s := ⟨hK1, trivial⟩
  refine W.widen (k := 600000) (n := 7302250) (Nat.le_of_ble_eq_true rfl) (Nat.le_of_ble_eq_true rfl) ?_
  refine lv_astore_n (lv' := [(2, .ref (h' 0)), (1, .ref (h 0)), (0, .ref b)]) hx hb dL_law_15 rfl hl (by decide) rfl (fun ls hl => ?_)
  refine lv_iconst (v := 0) hx hb dL_law_16 (by decide) ?_
  refine lv_istore_n (lv' := [(3, .int 0), (2, .ref (h' 0)), (1, .ref (h 0)), (0, .ref b)]) hx hb dL_law_17 rfl hl (by decide) rfl (fun ls hl => ?_)
  exact law_loop hL C0 hct hcr (L + 3) 0 σ τ (Nat.zero_le _) (by omega) hR H1 locs ls hP hD hS (lv_sub hl [3, 2, 1, 0] rfl)
