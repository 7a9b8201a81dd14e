set_option maxHeartbeats 4000000 in
set_option maxRecDepth 100000 in
/-- Hashing(): nothing changes -/
theorem rc_X1 (l : Launch) (dC : Nat → ClassId) (dI : Nat → Nat → Nat) (h0 sz : Nat) : Met l yX1_init (rfW yX1_init cX1_init 1 none) ({ frames := 1, cells := 0, slots := 0, locals := 12 }) (va_Pc [.ref h0] (fun U => U.heap.size = sz)) (va_Qv (fun _ : Unit => True) (fun _ t => True) (va_A [] sz)) 0 0 (va_A [] sz) := by
  refine Met.ofW (cc := cX1_init) (maxL := 1) (ret := none) (by decide) rfl ?_
  intro p e s m args below meth c s₁ B hml hv
  obtain ⟨rfl, hsz⟩ := hv
  have hx := B.exec
  have hb := B.bytes
  have hr := B.returns
  have hts0 := atoms_spec (ws := rfW yX1_init cX1_init 1 none) B.pre
  have hts := fun (w : Cond) (h : w ∈ rfT) => hts0 w (List.mem_cons_of_mem _ h)
  have hown : s.vm.findClass RX1 = some m.cls := findClass_of_methodNamed B.named
  have hlocks := B.notSynchronized
  have hin : meth.name = "<init>" := (name_of_methodNamed B.named B.method).1
  subst hsz
  generalize hAe : va_A [] s.heap.size = A
  have hS : va_S A s.heap s.heap [] := va_S.rf
  have hl := lv_entry ([.ref h0]) (n := 1) (Nat.le_of_ble_eq_true rfl)
  rw [lg_entry_eq]
  generalize (lg_sl ([.ref h0]) ++ List.replicate (1 - (lg_sl ([.ref h0])).length) Slot.unset).toArray = ls at hl ⊢
  have hl : lv_has ls 1 [(0, .ref h0)] := hl
  refine lv_aload_n hx hb dX1_init_0 rfl (lv_at hl 0 rfl) ?_
  refine W.objInit hx hb hown (hts _ k_oi_X1) (hts _ k_oi_i) (hts _ k_oi_c) rfl (by rw [hml]; exact hl.1) rfl dX1_init_1 (Nat.le_of_ble_eq_true rfl) (Nat.le_of_ble_eq_true rfl) ?_
  refine W.eq (g2 := F0 m 4 ls []) rfl ?_
  exact W.vret hx hb hr (fun t ht hW => ⟨⟨(), rfl, trivial, trivial⟩, hS.F ht⟩) hS.2.2 dX1_init_4
set_option maxHeartbeats 4000000 in
set_option maxRecDepth 100000 in
/-- Shape(): nothing changes -/
theorem rc_X4 (l : Launch) (dC : Nat → ClassId) (dI : Nat → Nat → Nat) (h0 sz : Nat) : Met l yX4_init (rfW yX4_init cX4_init 1 none) ({ frames := 1, cells := 0, slots := 0, locals := 12 }) (va_Pc [.ref h0] (fun U => U.heap.size = sz)) (va_Qv (fun _ : Unit => True) (fun _ t => True) (va_A [] sz)) 0 0 (va_A [] sz) := by
  refine Met.ofW (cc := cX4_init) (maxL := 1) (ret := none) (by decide) rfl ?_
  intro p e s m args below meth c s₁ B hml hv
  obtain ⟨rfl, hsz⟩ := hv
  have hx := B.exec
  have hb := B.bytes
  have hr := B.returns
  have hts0 := atoms_spec (ws := rfW yX4_init cX4_init 1 none) B.pre
  have hts := fun (w : Cond) (h : w ∈ rfT) => hts0 w (List.mem_cons_of_mem _ h)
  have hown : s.vm.findClass RX4 = some m.cls := findClass_of_methodNamed B.named
  have hlocks := B.notSynchronized
  have hin : meth.name = "<init>" := (name_of_methodNamed B.named B.method).1
  subst hsz
  generalize hAe : va_A [] s.heap.size = A
  have hS : va_S A s.heap s.heap [] := va_S.rf
  have hl := lv_entry ([.ref h0]) (n := 1) (Nat.le_of_ble_eq_true rfl)
  rw [lg_entry_eq]
  generalize (lg_sl ([.ref h0]) ++ List.replicate (1 - (lg_sl ([.ref h0])).length) Slot.unset).toArray = ls at hl ⊢
  have hl : lv_has ls 1 [(0, .ref h0)] := hl
  refine lv_aload_n hx hb dX4_init_0 rfl (lv_at hl 0 rfl) ?_
  refine W.objInit hx hb hown (hts _ k_oi_X4) (hts _ k_oi_i) (hts _ k_oi_c) rfl (by rw [hml]; exact hl.1) rfl dX4_init_1 (Nat.le_of_ble_eq_true rfl) (Nat.le_of_ble_eq_true rfl) ?_
  refine W.eq (g2 := F0 m 4 ls []) rfl ?_
  exact W.vret hx hb hr (fun t ht hW => ⟨⟨(), rfl, trivial, trivial⟩, hS.F ht⟩) hS.2.2 dX4_init_4
set_option maxHeartbeats 4000000 in
set_option maxRecDepth 100000 in
/-- Row(n), 0 < n ≤ 384: it holds a new row of n zeros -/
theorem rc_X3 (l : Launch) (dC : Nat → ClassId) (dI : Nat → Nat → Nat) (h0 sz : Nat) (n : Nat) (hn0 : 0 < n) (hn1 : n ≤ 384) : Met l yX3_init (rfW yX3_init cX3_init 2 none) ({ frames := 1, cells := 1, slots := n, locals := 12 }) (va_Pc [.ref h0, .int (nI n)] (fun U => U.heap.size = sz ∧ va_P (dC, dI) rfCl [(h0, .inr (2, [.null]))] U.heap ∧ va_K (dC, dI) rfCl [] U ∧ va_D (fun _ => True) [(h0, .inr (2, [.null]))])) (va_Qv (fun _ : Unit => True) (fun _ t => ∃ (q1 : Nat) (cA : ClassId), va_P (dC, dI) rfCl [(h0, .inr (2, [.ref q1])), (q1, .inl (cA, (n, .inl (fun _ => 0))))] t.heap ∧ va_D (va_A [(h0, .inr (2, [.null]))] sz) [(h0, .inr (2, [.ref q1])), (q1, .inl (cA, (n, .inl (fun _ => 0))))]) (va_A [(h0, .inr (2, [.null]))] sz)) 1 n (va_A [(h0, .inr (2, [.null]))] sz) := by
  refine Met.ofW (cc := cX3_init) (maxL := 2) (ret := none) (by decide) rfl ?_
  intro p e s m args below meth c s₁ B hml hv
  obtain ⟨rfl, hsz, hP, hK, hD0⟩ := hv
  have hx := B.exec
  have hb := B.bytes
  have hr := B.returns
  have hts0 := atoms_spec (ws := rfW yX3_init cX3_init 2 none) B.pre
  have hts := fun (w : Cond) (h : w ∈ rfT) => hts0 w (List.mem_cons_of_mem _ h)
  have hown : s.vm.findClass RX3 = some m.cls := findClass_of_methodNamed B.named
  have hlocks := B.notSynchronized
  have hin : meth.name = "<init>" := (name_of_methodNamed B.named B.method).1
  subst hsz
  have hD := hD0.self (sz := s.heap.size)
  generalize hAe : va_A [(h0, .inr (2, [.null]))] s.heap.size = A at hD ⊢
  have hA : ∀ q : Nat, s.heap.size ≤ q → A q := fun q h => by rw [← hAe]; exact Or.inr h
  have hS : va_S A s.heap s.heap [] := va_S.rf
  have hP : va_P (dC, dI) rfCl [(h0, .inr (2, [.null]))] s.heap := hP
  have hl := lv_entry ([.ref h0, .int (nI n)]) (n := 2) (Nat.le_of_ble_eq_true rfl)
  rw [lg_entry_eq]
  generalize (lg_sl ([.ref h0, .int (nI n)]) ++ List.replicate (2 - (lg_sl ([.ref h0, .int (nI n)])).length) Slot.unset).toArray = ls at hl ⊢
  have hl : lv_has ls 2 [(0, .ref h0), (1, .int (nI n))] := hl
  refine lv_aload_n hx hb dX3_init_0 rfl (lv_at hl 0 rfl) ?_
  refine W.objInit hx hb hown (hts _ k_oi_X3) (hts _ k_oi_i) (hts _ k_oi_c) rfl (by rw [hml]; exact hl.1) rfl dX3_init_1 (Nat.le_of_ble_eq_true rfl) (Nat.le_of_ble_eq_true rfl) ?_
  refine W.eq (g2 := F0 m 4 ls []) rfl ?_
  refine lv_aload_n hx hb dX3_init_4 rfl (lv_at hl 0 rfl) ?_
  refine lv_iload_n hx hb dX3_init_5 rfl (lv_at hl 1 rfl) ?_
  refine lv_if_le (tgt := 13) hx hb dX3_init_6 (by decide) (fun c1 => absurd c1 (nI_nle hn0 (by omega))) (fun _ => ?_)
  refine lv_iload_n hx hb dX3_init_9 rfl (lv_at hl 1 rfl) ?_
  refine lv_goto (tgt := 14) hx hb dX3_init_10 (by decide) ?_
  have h_1 : 1 ≤ 1 := Nat.le_refl 1
  have h_2 : 0 + n ≤ n := by omega
  have h_3 : n * componentBytes FieldType.int ≤ 536870912 := by
    have h9 : componentBytes FieldType.int = 4 := rfl
    rw [h9]
    omega
  refine va_newa (atype := .int) (ty := .int) (N' := n) (a0 := (n, .inl (fun _ => 0))) hx hb (hts _ k_arr) rfl hK hP hD hS hA (fun _ => rfl) (nI_pos (by omega)) (nI_clamp (by omega)) h_3 h_1 h_2 dX3_init_14 (fun q cA H hK hP hD hS => ?_)
  have hP : va_P (dC, dI) rfCl [(h0, .inr (2, [.null])), (q, .inl (cA, (n, .inl (fun _ => 0))))] H := hP
  have hD : va_D A [(h0, .inr (2, [.null])), (q, .inl (cA, (n, .inl (fun _ => 0))))] := hD
  refine va_putF (D := (dC, dI)) (ci := 2) (v := .ref q) (ty := .array .int) (C := RX3) (T := TX3) (N := 1) hx hb hts inX3 tyX3 tyX3_ok nmX3 hown hK hP hD hS 0 rfl rfl 0 (by decide) (hts _ k_fl_X3_9) (fun _ h9 => h9) rfl hin rfl (by decide +kernel) rfl rfl (Nat.le_of_ble_eq_true rfl) dX3_init_16 (fun H locs hP hD hS => ?_)
  have hP9 := hP.sub (ws' := [(h0, .inr (2, [.ref q])), (q, .inl (cA, (n, .inl (fun _ => 0))))]) [0, 1] rfl
  have hD9 := hD.sub (ws' := [(h0, .inr (2, [.ref q])), (q, .inl (cA, (n, .inl (fun _ => 0))))]) [0, 1] (by decide) rfl
  refine W.widen (k := 1) (n := n) (Nat.le_refl 1) (by omega) ?_
  exact W.vret hx hb hr (fun t ht hW => ⟨⟨(), rfl, trivial, q, cA, by rw [ht]; exact hP9, hD9⟩, hS.F ht⟩) hS.2.2 dX3_init_19
set_option maxHeartbeats 4000000 in
set_option maxRecDepth 100000 in
/-- Pages(): five new rows of 384, 384, 96, 96, 96 zeros -/
theorem rc_X2 (l : Launch) (dC : Nat → ClassId) (dI : Nat → Nat → Nat) (h0 sz : Nat) : Met l yX2_init (rfW yX2_init cX2_init 1 none) ({ frames := 2, cells := 10, slots := 1061, locals := 33 }) (va_Pc [.ref h0] (fun U => U.heap.size = sz ∧ va_P (dC, dI) rfCl [(h0, .inr (1, [.null, .null, .null, .null, .null]))] U.heap ∧ va_K (dC, dI) rfCl [] U ∧ va_D (fun _ => True) [(h0, .inr (1, [.null, .null, .null, .null, .null]))])) (va_Qv (fun _ : Unit => True) (fun _ t => ∃ (a1 a2 a3 a4 a5 : Nat) (cA1 cA2 cA3 cA4 cA5 : ClassId), va_P (dC, dI) rfCl [(a1, .inl (cA1, (384, .inl (fun _ => 0)))), (a2, .inl (cA2, (384, .inl (fun _ => 0)))), (a3, .inl (cA3, (96, .inl (fun _ => 0)))), (a4, .inl (cA4, (96, .inl (fun _ => 0)))), (a5, .inl (cA5, (96, .inl (fun _ => 0))))] t.heap ∧ va_D (va_A [(h0, .inr (1, [.null, .null, .null, .null, .null]))] sz) [(a1, .inl (cA1, (384, .inl (fun _ => 0)))), (a2, .inl (cA2, (384, .inl (fun _ => 0)))), (a3, .inl (cA3, (96, .inl (fun _ => 0)))), (a4, .inl (cA4, (96, .inl (fun _ => 0)))), (a5, .inl (cA5, (96, .inl (fun _ => 0))))]) (va_A [(h0, .inr (1, [.null, .null, .null, .null, .null]))] sz)) 10 1061 (va_A [(h0, .inr (1, [.null, .null, .null, .null, .null]))] sz) := by
  refine Met.ofW (cc := cX2_init) (maxL := 1) (ret := none) (by decide) rfl ?_
  intro p e s m args below meth c s₁ B hml hv
  obtain ⟨rfl, hsz, hP, hK, hD0⟩ := hv
  have hx := B.exec
  have hb := B.bytes
  have hr := B.returns
  have hts0 := atoms_spec (ws := rfW yX2_init cX2_init 1 none) B.pre
  have hts := fun (w : Cond) (h : w ∈ rfT) => hts0 w (List.mem_cons_of_mem _ h)
  have hown : s.vm.findClass RX2 = some m.cls := findClass_of_methodNamed B.named
  have hlocks := B.notSynchronized
  have hin : meth.name = "<init>" := (name_of_methodNamed B.named B.method).1
  subst hsz
  have hD := hD0.self (sz := s.heap.size)
  generalize hAe : va_A [(h0, .inr (1, [.null, .null, .null, .null, .null]))] s.heap.size = A at hD ⊢
  have hA : ∀ q : Nat, s.heap.size ≤ q → A q := fun q h => by rw [← hAe]; exact Or.inr h
  have hS : va_S A s.heap s.heap [] := va_S.rf
  have hP : va_P (dC, dI) rfCl [(h0, .inr (1, [.null, .null, .null, .null, .null]))] s.heap := hP
  have hl := lv_entry ([.ref h0]) (n := 1) (Nat.le_of_ble_eq_true rfl)
  rw [lg_entry_eq]
  generalize (lg_sl ([.ref h0]) ++ List.replicate (1 - (lg_sl ([.ref h0])).length) Slot.unset).toArray = ls at hl ⊢
  have hl : lv_has ls 1 [(0, .ref h0)] := hl
  refine lv_aload_n hx hb dX2_init_0 rfl (lv_at hl 0 rfl) ?_
  refine W.objInit hx hb hown (hts _ k_oi_X2) (hts _ k_oi_i) (hts _ k_oi_c) rfl (by rw [hml]; exact hl.1) rfl dX2_init_1 (Nat.le_of_ble_eq_true rfl) (Nat.le_of_ble_eq_true rfl) ?_
  refine W.eq (g2 := F0 m 4 ls []) rfl ?_
  refine lv_aload_n hx hb dX2_init_4 rfl (lv_at hl 0 rfl) ?_
  have h_1 : 0 + 1 ≤ 10 := by decide
  have h_2 : 0 + 1 ≤ 1061 := by decide
  refine va_new (ci := 2) (fs := [.null]) (C := RX3) (T := TX3) (N := 1) hx hb hts inX3 tyX3 tyX3_ok hown (hts _ k_cl_X2_9) (hts _ k_able_X3) (hts _ k_ini_X3) hK hP hD hS hA rfl (fun j hj => by rcases (show j = 0 by omega) with rfl <;> rfl) h_1 h_2 dX2_init_5 (fun r1 H hP hD hS => ?_)
  have hP : va_P (dC, dI) rfCl [(h0, .inr (1, [.null, .null, .null, .null, .null])), (r1, .inr (2, [.null]))] H := hP
  have hD : va_D A [(h0, .inr (1, [.null, .null, .null, .null, .null])), (r1, .inr (2, [.null]))] := hD
  refine W.widen (k := 1) (n := 1) (by omega) (by omega) ?_
  refine lv_dup hx hb dX2_init_8 rfl ?_
  refine lv_sipush (v := nI 384) hx hb dX2_init_9 (by decide +kernel) ?_
  have hPc := hP.sub (ws' := [(r1, .inr (2, [.null]))]) [1] rfl
  have hDc := hD.sub (ws' := [(r1, .inr (2, [.null]))]) [1] (by decide) rfl
  have hKc := hK.sub (tys' := []) [] rfl
  have hFc := va_free (wc := [(r1, .inr (2, [.null]))]) hD hS hA [1] rfl
  have h_3 : 1 + 1 ≤ 10 := by decide
  have h_4 : 1 + 384 ≤ 1061 := by decide
  refine va_callv (va_runI (As := [.int (nI 384)]) (rest := [.ref r1, .ref h0]) ⟨hx, hb, hml, hown, hts⟩ (rc_X3 l dC dI r1 H.size 384 (by decide) (by decide)) (cwI 1 hts (rf_good k_code_X3) rfl rfl rfl (hts _ k_ini_X3) (hts _ k_ml_X2) (hts _ k_inst_X3) rfl (by decide +kernel) ⟨Nat.le_of_ble_eq_true rfl, Nat.le_of_ble_eq_true rfl⟩) ⟨fun a U g mk q => by obtain ⟨q0, q1, qP, qK, qD⟩ := q; exact ⟨q0, q1, qP, va_K.moved (u := U) (U := U.calling g mk a) (Vm.Alike.refl U.vm) qK, qD⟩, fun U hU hW => ⟨rfl, by rw [hU], by rw [hU]; exact hPc, va_K.moved hW.alike hKc, hDc.weaken (fun _ _ _ _ => trivial)⟩⟩ rfl rfl hl.1 rfl (lv_room (Nat.le_of_ble_eq_true rfl)) dX2_init_12 ⟨h_3, h_4⟩) hS (fun q _ h => hFc q h) hFc (fun u t H1 locs ht hvm hw hB hz1 hk1 hS => ?_)
  obtain ⟨a1, cA1, hP1, hD1⟩ := hB
  rw [ht] at hP1
  obtain ⟨hP, hD⟩ := va_join (wr := [(h0, .inr (1, [.null, .null, .null, .null, .null]))]) (w1 := [(r1, .inr (2, [.ref a1])), (a1, .inl (cA1, (384, .inl (fun _ => 0))))]) hP hD [1] [0] rfl rfl (by decide) (by decide) hk1 hFc hP1 hD1
  generalize H1 = H at hP hS ⊢
  have hP : va_P (dC, dI) rfCl [(h0, .inr (1, [.null, .null, .null, .null, .null])), (a1, .inl (cA1, (384, .inl (fun _ => 0))))] H := hP.sub [0, 2] rfl
  have hD : va_D A [(h0, .inr (1, [.null, .null, .null, .null, .null])), (a1, .inl (cA1, (384, .inl (fun _ => 0))))] := hD.sub [0, 2] (by decide) rfl
  refine W.widen (k := 2) (n := 385) (by omega) (by omega) ?_
  refine va_putF (D := (dC, dI)) (ci := 1) (v := .ref r1) (ty := .object "Splitpointer$Row") (C := RX2) (T := TX2) (N := 5) hx hb hts inX2 tyX2 tyX2_ok nmX2 hown hK hP hD hS 0 rfl rfl 0 (by decide) (hts _ k_fl_X2_14) (fun _ h9 => h9) rfl hin rfl (by decide +kernel) rfl rfl (Nat.le_of_ble_eq_true rfl) dX2_init_15 (fun H locs hP hD hS => ?_)
  have hP : va_P (dC, dI) rfCl [(h0, .inr (1, [.ref r1, .null, .null, .null, .null])), (a1, .inl (cA1, (384, .inl (fun _ => 0))))] H := hP
  have hD : va_D A [(h0, .inr (1, [.ref r1, .null, .null, .null, .null])), (a1, .inl (cA1, (384, .inl (fun _ => 0))))] := hD
  refine lv_aload_n hx hb dX2_init_18 rfl (lv_at hl 0 rfl) ?_
  have h_1 : 2 + 1 ≤ 10 := by decide
  have h_2 : 385 + 1 ≤ 1061 := by decide
  refine va_new (ci := 2) (fs := [.null]) (C := RX3) (T := TX3) (N := 1) hx hb hts inX3 tyX3 tyX3_ok hown (hts _ k_cl_X2_9) (hts _ k_able_X3) (hts _ k_ini_X3) hK hP hD hS hA rfl (fun j hj => by rcases (show j = 0 by omega) with rfl <;> rfl) h_1 h_2 dX2_init_19 (fun r2 H hP hD hS => ?_)
  have hP : va_P (dC, dI) rfCl [(h0, .inr (1, [.ref r1, .null, .null, .null, .null])), (a1, .inl (cA1, (384, .inl (fun _ => 0)))), (r2, .inr (2, [.null]))] H := hP
  have hD : va_D A [(h0, .inr (1, [.ref r1, .null, .null, .null, .null])), (a1, .inl (cA1, (384, .inl (fun _ => 0)))), (r2, .inr (2, [.null]))] := hD
  refine W.widen (k := 3) (n := 386) (by omega) (by omega) ?_
  refine lv_dup hx hb dX2_init_22 rfl ?_
  refine lv_sipush (v := nI 384) hx hb dX2_init_23 (by decide +kernel) ?_
  have hPc := hP.sub (ws' := [(r2, .inr (2, [.null]))]) [2] rfl
  have hDc := hD.sub (ws' := [(r2, .inr (2, [.null]))]) [2] (by decide) rfl
  have hKc := hK.sub (tys' := []) [] rfl
  have hFc := va_free (wc := [(r2, .inr (2, [.null]))]) hD hS hA [2] rfl
  have h_3 : 3 + 1 ≤ 10 := by decide
  have h_4 : 386 + 384 ≤ 1061 := by decide
  refine va_callv (va_runI (As := [.int (nI 384)]) (rest := [.ref r2, .ref h0]) ⟨hx, hb, hml, hown, hts⟩ (rc_X3 l dC dI r2 H.size 384 (by decide) (by decide)) (cwI 1 hts (rf_good k_code_X3) rfl rfl rfl (hts _ k_ini_X3) (hts _ k_ml_X2) (hts _ k_inst_X3) rfl (by decide +kernel) ⟨Nat.le_of_ble_eq_true rfl, Nat.le_of_ble_eq_true rfl⟩) ⟨fun a U g mk q => by obtain ⟨q0, q1, qP, qK, qD⟩ := q; exact ⟨q0, q1, qP, va_K.moved (u := U) (U := U.calling g mk a) (Vm.Alike.refl U.vm) qK, qD⟩, fun U hU hW => ⟨rfl, by rw [hU], by rw [hU]; exact hPc, va_K.moved hW.alike hKc, hDc.weaken (fun _ _ _ _ => trivial)⟩⟩ rfl rfl hl.1 rfl (lv_room (Nat.le_of_ble_eq_true rfl)) dX2_init_26 ⟨h_3, h_4⟩) hS (fun q _ h => hFc q h) hFc (fun u t H1 locs ht hvm hw hB hz1 hk1 hS => ?_)
  obtain ⟨a2, cA2, hP1, hD1⟩ := hB
  rw [ht] at hP1
  obtain ⟨hP, hD⟩ := va_join (wr := [(h0, .inr (1, [.ref r1, .null, .null, .null, .null])), (a1, .inl (cA1, (384, .inl (fun _ => 0))))]) (w1 := [(r2, .inr (2, [.ref a2])), (a2, .inl (cA2, (384, .inl (fun _ => 0))))]) hP hD [2] [0, 1] rfl rfl (by decide) (by decide) hk1 hFc hP1 hD1
  generalize H1 = H at hP hS ⊢
  have hP : va_P (dC, dI) rfCl [(h0, .inr (1, [.ref r1, .null, .null, .null, .null])), (a1, .inl (cA1, (384, .inl (fun _ => 0)))), (a2, .inl (cA2, (384, .inl (fun _ => 0))))] H := hP.sub [0, 1, 3] rfl
  have hD : va_D A [(h0, .inr (1, [.ref r1, .null, .null, .null, .null])), (a1, .inl (cA1, (384, .inl (fun _ => 0)))), (a2, .inl (cA2, (384, .inl (fun _ => 0))))] := hD.sub [0, 1, 3] (by decide) rfl
  refine W.widen (k := 4) (n := 770) (by omega) (by omega) ?_
  refine va_putF (D := (dC, dI)) (ci := 1) (v := .ref r2) (ty := .object "Splitpointer$Row") (C := RX2) (T := TX2) (N := 5) hx hb hts inX2 tyX2 tyX2_ok nmX2 hown hK hP hD hS 0 rfl rfl 1 (by decide) (hts _ k_fl_X2_20) (fun _ h9 => h9) rfl hin rfl (by decide +kernel) rfl rfl (Nat.le_of_ble_eq_true rfl) dX2_init_29 (fun H locs hP hD hS => ?_)
  have hP : va_P (dC, dI) rfCl [(h0, .inr (1, [.ref r1, .ref r2, .null, .null, .null])), (a1, .inl (cA1, (384, .inl (fun _ => 0)))), (a2, .inl (cA2, (384, .inl (fun _ => 0))))] H := hP
  have hD : va_D A [(h0, .inr (1, [.ref r1, .ref r2, .null, .null, .null])), (a1, .inl (cA1, (384, .inl (fun _ => 0)))), (a2, .inl (cA2, (384, .inl (fun _ => 0))))] := hD
  refine lv_aload_n hx hb dX2_init_32 rfl (lv_at hl 0 rfl) ?_
  have h_1 : 4 + 1 ≤ 10 := by decide
  have h_2 : 770 + 1 ≤ 1061 := by decide
  refine va_new (ci := 2) (fs := [.null]) (C := RX3) (T := TX3) (N := 1) hx hb hts inX3 tyX3 tyX3_ok hown (hts _ k_cl_X2_9) (hts _ k_able_X3) (hts _ k_ini_X3) hK hP hD hS hA rfl (fun j hj => by rcases (show j = 0 by omega) with rfl <;> rfl) h_1 h_2 dX2_init_33 (fun r3 H hP hD hS => ?_)
  have hP : va_P (dC, dI) rfCl [(h0, .inr (1, [.ref r1, .ref r2, .null, .null, .null])), (a1, .inl (cA1, (384, .inl (fun _ => 0)))), (a2, .inl (cA2, (384, .inl (fun _ => 0)))), (r3, .inr (2, [.null]))] H := hP
  have hD : va_D A [(h0, .inr (1, [.ref r1, .ref r2, .null, .null, .null])), (a1, .inl (cA1, (384, .inl (fun _ => 0)))), (a2, .inl (cA2, (384, .inl (fun _ => 0)))), (r3, .inr (2, [.null]))] := hD
  refine W.widen (k := 5) (n := 771) (by omega) (by omega) ?_
  refine lv_dup hx hb dX2_init_36 rfl ?_
  refine lv_bipush (v := nI 96) hx hb dX2_init_37 (by decide +kernel) ?_
  have hPc := hP.sub (ws' := [(r3, .inr (2, [.null]))]) [3] rfl
  have hDc := hD.sub (ws' := [(r3, .inr (2, [.null]))]) [3] (by decide) rfl
  have hKc := hK.sub (tys' := []) [] rfl
  have hFc := va_free (wc := [(r3, .inr (2, [.null]))]) hD hS hA [3] rfl
  have h_3 : 5 + 1 ≤ 10 := by decide
  have h_4 : 771 + 96 ≤ 1061 := by decide
  refine va_callv (va_runI (As := [.int (nI 96)]) (rest := [.ref r3, .ref h0]) ⟨hx, hb, hml, hown, hts⟩ (rc_X3 l dC dI r3 H.size 96 (by decide) (by decide)) (cwI 1 hts (rf_good k_code_X3) rfl rfl rfl (hts _ k_ini_X3) (hts _ k_ml_X2) (hts _ k_inst_X3) rfl (by decide +kernel) ⟨Nat.le_of_ble_eq_true rfl, Nat.le_of_ble_eq_true rfl⟩) ⟨fun a U g mk q => by obtain ⟨q0, q1, qP, qK, qD⟩ := q; exact ⟨q0, q1, qP, va_K.moved (u := U) (U := U.calling g mk a) (Vm.Alike.refl U.vm) qK, qD⟩, fun U hU hW => ⟨rfl, by rw [hU], by rw [hU]; exact hPc, va_K.moved hW.alike hKc, hDc.weaken (fun _ _ _ _ => trivial)⟩⟩ rfl rfl hl.1 rfl (lv_room (Nat.le_of_ble_eq_true rfl)) dX2_init_39 ⟨h_3, h_4⟩) hS (fun q _ h => hFc q h) hFc (fun u t H1 locs ht hvm hw hB hz1 hk1 hS => ?_)
  obtain ⟨a3, cA3, hP1, hD1⟩ := hB
  rw [ht] at hP1
  obtain ⟨hP, hD⟩ := va_join (wr := [(h0, .inr (1, [.ref r1, .ref r2, .null, .null, .null])), (a1, .inl (cA1, (384, .inl (fun _ => 0)))), (a2, .inl (cA2, (384, .inl (fun _ => 0))))]) (w1 := [(r3, .inr (2, [.ref a3])), (a3, .inl (cA3, (96, .inl (fun _ => 0))))]) hP hD [3] [0, 1, 2] rfl rfl (by decide) (by decide) hk1 hFc hP1 hD1
  generalize H1 = H at hP hS ⊢
  have hP : va_P (dC, dI) rfCl [(h0, .inr (1, [.ref r1, .ref r2, .null, .null, .null])), (a1, .inl (cA1, (384, .inl (fun _ => 0)))), (a2, .inl (cA2, (384, .inl (fun _ => 0)))), (a3, .inl (cA3, (96, .inl (fun _ => 0))))] H := hP.sub [0, 1, 2, 4] rfl
  have hD : va_D A [(h0, .inr (1, [.ref r1, .ref r2, .null, .null, .null])), (a1, .inl (cA1, (384, .inl (fun _ => 0)))), (a2, .inl (cA2, (384, .inl (fun _ => 0)))), (a3, .inl (cA3, (96, .inl (fun _ => 0))))] := hD.sub [0, 1, 2, 4] (by decide) rfl
  refine W.widen (k := 6) (n := 867) (by omega) (by omega) ?_
  refine va_putF (D := (dC, dI)) (ci := 1) (v := .ref r3) (ty := .object "Splitpointer$Row") (C := RX2) (T := TX2) (N := 5) hx hb hts inX2 tyX2 tyX2_ok nmX2 hown hK hP hD hS 0 rfl rfl 2 (by decide) (hts _ k_fl_X2_23) (fun _ h9 => h9) rfl hin rfl (by decide +kernel) rfl rfl (Nat.le_of_ble_eq_true rfl) dX2_init_42 (fun H locs hP hD hS => ?_)
  have hP : va_P (dC, dI) rfCl [(h0, .inr (1, [.ref r1, .ref r2, .ref r3, .null, .null])), (a1, .inl (cA1, (384, .inl (fun _ => 0)))), (a2, .inl (cA2, (384, .inl (fun _ => 0)))), (a3, .inl (cA3, (96, .inl (fun _ => 0))))] H := hP
  have hD : va_D A [(h0, .inr (1, [.ref r1, .ref r2, .ref r3, .null, .null])), (a1, .inl (cA1, (384, .inl (fun _ => 0)))), (a2, .inl (cA2, (384, .inl (fun _ => 0)))), (a3, .inl (cA3, (96, .inl (fun _ => 0))))] := hD
  refine lv_aload_n hx hb dX2_init_45 rfl (lv_at hl 0 rfl) ?_
  have h_1 : 6 + 1 ≤ 10 := by decide
  have h_2 : 867 + 1 ≤ 1061 := by decide
  refine va_new (ci := 2) (fs := [.null]) (C := RX3) (T := TX3) (N := 1) hx hb hts inX3 tyX3 tyX3_ok hown (hts _ k_cl_X2_9) (hts _ k_able_X3) (hts _ k_ini_X3) hK hP hD hS hA rfl (fun j hj => by rcases (show j = 0 by omega) with rfl <;> rfl) h_1 h_2 dX2_init_46 (fun r4 H hP hD hS => ?_)
  have hP : va_P (dC, dI) rfCl [(h0, .inr (1, [.ref r1, .ref r2, .ref r3, .null, .null])), (a1, .inl (cA1, (384, .inl (fun _ => 0)))), (a2, .inl (cA2, (384, .inl (fun _ => 0)))), (a3, .inl (cA3, (96, .inl (fun _ => 0)))), (r4, .inr (2, [.null]))] H := hP
  have hD : va_D A [(h0, .inr (1, [.ref r1, .ref r2, .ref r3, .null, .null])), (a1, .inl (cA1, (384, .inl (fun _ => 0)))), (a2, .inl (cA2, (384, .inl (fun _ => 0)))), (a3, .inl (cA3, (96, .inl (fun _ => 0)))), (r4, .inr (2, [.null]))] := hD
  refine W.widen (k := 7) (n := 868) (by omega) (by omega) ?_
  refine lv_dup hx hb dX2_init_49 rfl ?_
  refine lv_bipush (v := nI 96) hx hb dX2_init_50 (by decide +kernel) ?_
  have hPc := hP.sub (ws' := [(r4, .inr (2, [.null]))]) [4] rfl
  have hDc := hD.sub (ws' := [(r4, .inr (2, [.null]))]) [4] (by decide) rfl
  have hKc := hK.sub (tys' := []) [] rfl
  have hFc := va_free (wc := [(r4, .inr (2, [.null]))]) hD hS hA [4] rfl
  have h_3 : 7 + 1 ≤ 10 := by decide
  have h_4 : 868 + 96 ≤ 1061 := by decide
  refine va_callv (va_runI (As := [.int (nI 96)]) (rest := [.ref r4, .ref h0]) ⟨hx, hb, hml, hown, hts⟩ (rc_X3 l dC dI r4 H.size 96 (by decide) (by decide)) (cwI 1 hts (rf_good k_code_X3) rfl rfl rfl (hts _ k_ini_X3) (hts _ k_ml_X2) (hts _ k_inst_X3) rfl (by decide +kernel) ⟨Nat.le_of_ble_eq_true rfl, Nat.le_of_ble_eq_true rfl⟩) ⟨fun a U g mk q => by obtain ⟨q0, q1, qP, qK, qD⟩ := q; exact ⟨q0, q1, qP, va_K.moved (u := U) (U := U.calling g mk a) (Vm.Alike.refl U.vm) qK, qD⟩, fun U hU hW => ⟨rfl, by rw [hU], by rw [hU]; exact hPc, va_K.moved hW.alike hKc, hDc.weaken (fun _ _ _ _ => trivial)⟩⟩ rfl rfl hl.1 rfl (lv_room (Nat.le_of_ble_eq_true rfl)) dX2_init_52 ⟨h_3, h_4⟩) hS (fun q _ h => hFc q h) hFc (fun u t H1 locs ht hvm hw hB hz1 hk1 hS => ?_)
  obtain ⟨a4, cA4, hP1, hD1⟩ := hB
  rw [ht] at hP1
  obtain ⟨hP, hD⟩ := va_join (wr := [(h0, .inr (1, [.ref r1, .ref r2, .ref r3, .null, .null])), (a1, .inl (cA1, (384, .inl (fun _ => 0)))), (a2, .inl (cA2, (384, .inl (fun _ => 0)))), (a3, .inl (cA3, (96, .inl (fun _ => 0))))]) (w1 := [(r4, .inr (2, [.ref a4])), (a4, .inl (cA4, (96, .inl (fun _ => 0))))]) hP hD [4] [0, 1, 2, 3] rfl rfl (by decide) (by decide) hk1 hFc hP1 hD1
  generalize H1 = H at hP hS ⊢
  have hP : va_P (dC, dI) rfCl [(h0, .inr (1, [.ref r1, .ref r2, .ref r3, .null, .null])), (a1, .inl (cA1, (384, .inl (fun _ => 0)))), (a2, .inl (cA2, (384, .inl (fun _ => 0)))), (a3, .inl (cA3, (96, .inl (fun _ => 0)))), (a4, .inl (cA4, (96, .inl (fun _ => 0))))] H := hP.sub [0, 1, 2, 3, 5] rfl
  have hD : va_D A [(h0, .inr (1, [.ref r1, .ref r2, .ref r3, .null, .null])), (a1, .inl (cA1, (384, .inl (fun _ => 0)))), (a2, .inl (cA2, (384, .inl (fun _ => 0)))), (a3, .inl (cA3, (96, .inl (fun _ => 0)))), (a4, .inl (cA4, (96, .inl (fun _ => 0))))] := hD.sub [0, 1, 2, 3, 5] (by decide) rfl
  refine W.widen (k := 8) (n := 964) (by omega) (by omega) ?_
  refine va_putF (D := (dC, dI)) (ci := 1) (v := .ref r4) (ty := .object "Splitpointer$Row") (C := RX2) (T := TX2) (N := 5) hx hb hts inX2 tyX2 tyX2_ok nmX2 hown hK hP hD hS 0 rfl rfl 3 (by decide) (hts _ k_fl_X2_26) (fun _ h9 => h9) rfl hin rfl (by decide +kernel) rfl rfl (Nat.le_of_ble_eq_true rfl) dX2_init_55 (fun H locs hP hD hS => ?_)
  have hP : va_P (dC, dI) rfCl [(h0, .inr (1, [.ref r1, .ref r2, .ref r3, .ref r4, .null])), (a1, .inl (cA1, (384, .inl (fun _ => 0)))), (a2, .inl (cA2, (384, .inl (fun _ => 0)))), (a3, .inl (cA3, (96, .inl (fun _ => 0)))), (a4, .inl (cA4, (96, .inl (fun _ => 0))))] H := hP
  have hD : va_D A [(h0, .inr (1, [.ref r1, .ref r2, .ref r3, .ref r4, .null])), (a1, .inl (cA1, (384, .inl (fun _ => 0)))), (a2, .inl (cA2, (384, .inl (fun _ => 0)))), (a3, .inl (cA3, (96, .inl (fun _ => 0)))), (a4, .inl (cA4, (96, .inl (fun _ => 0))))] := hD
  refine lv_aload_n hx hb dX2_init_58 rfl (lv_at hl 0 rfl) ?_
  have h_1 : 8 + 1 ≤ 10 := by decide
  have h_2 : 964 + 1 ≤ 1061 := by decide
  refine va_new (ci := 2) (fs := [.null]) (C := RX3) (T := TX3) (N := 1) hx hb hts inX3 tyX3 tyX3_ok hown (hts _ k_cl_X2_9) (hts _ k_able_X3) (hts _ k_ini_X3) hK hP hD hS hA rfl (fun j hj => by rcases (show j = 0 by omega) with rfl <;> rfl) h_1 h_2 dX2_init_59 (fun r5 H hP hD hS => ?_)
  have hP : va_P (dC, dI) rfCl [(h0, .inr (1, [.ref r1, .ref r2, .ref r3, .ref r4, .null])), (a1, .inl (cA1, (384, .inl (fun _ => 0)))), (a2, .inl (cA2, (384, .inl (fun _ => 0)))), (a3, .inl (cA3, (96, .inl (fun _ => 0)))), (a4, .inl (cA4, (96, .inl (fun _ => 0)))), (r5, .inr (2, [.null]))] H := hP
  have hD : va_D A [(h0, .inr (1, [.ref r1, .ref r2, .ref r3, .ref r4, .null])), (a1, .inl (cA1, (384, .inl (fun _ => 0)))), (a2, .inl (cA2, (384, .inl (fun _ => 0)))), (a3, .inl (cA3, (96, .inl (fun _ => 0)))), (a4, .inl (cA4, (96, .inl (fun _ => 0)))), (r5, .inr (2, [.null]))] := hD
  refine W.widen (k := 9) (n := 965) (by omega) (by omega) ?_
  refine lv_dup hx hb dX2_init_62 rfl ?_
  refine lv_bipush (v := nI 96) hx hb dX2_init_63 (by decide +kernel) ?_
  have hPc := hP.sub (ws' := [(r5, .inr (2, [.null]))]) [5] rfl
  have hDc := hD.sub (ws' := [(r5, .inr (2, [.null]))]) [5] (by decide) rfl
  have hKc := hK.sub (tys' := []) [] rfl
  have hFc := va_free (wc := [(r5, .inr (2, [.null]))]) hD hS hA [5] rfl
  have h_3 : 9 + 1 ≤ 10 := by decide
  have h_4 : 965 + 96 ≤ 1061 := by decide
  refine va_callv (va_runI (As := [.int (nI 96)]) (rest := [.ref r5, .ref h0]) ⟨hx, hb, hml, hown, hts⟩ (rc_X3 l dC dI r5 H.size 96 (by decide) (by decide)) (cwI 1 hts (rf_good k_code_X3) rfl rfl rfl (hts _ k_ini_X3) (hts _ k_ml_X2) (hts _ k_inst_X3) rfl (by decide +kernel) ⟨Nat.le_of_ble_eq_true rfl, Nat.le_of_ble_eq_true rfl⟩) ⟨fun a U g mk q => by obtain ⟨q0, q1, qP, qK, qD⟩ := q; exact ⟨q0, q1, qP, va_K.moved (u := U) (U := U.calling g mk a) (Vm.Alike.refl U.vm) qK, qD⟩, fun U hU hW => ⟨rfl, by rw [hU], by rw [hU]; exact hPc, va_K.moved hW.alike hKc, hDc.weaken (fun _ _ _ _ => trivial)⟩⟩ rfl rfl hl.1 rfl (lv_room (Nat.le_of_ble_eq_true rfl)) dX2_init_65 ⟨h_3, h_4⟩) hS (fun q _ h => hFc q h) hFc (fun u t H1 locs ht hvm hw hB hz1 hk1 hS => ?_)
  obtain ⟨a5, cA5, hP1, hD1⟩ := hB
  rw [ht] at hP1
  obtain ⟨hP, hD⟩ := va_join (wr := [(h0, .inr (1, [.ref r1, .ref r2, .ref r3, .ref r4, .null])), (a1, .inl (cA1, (384, .inl (fun _ => 0)))), (a2, .inl (cA2, (384, .inl (fun _ => 0)))), (a3, .inl (cA3, (96, .inl (fun _ => 0)))), (a4, .inl (cA4, (96, .inl (fun _ => 0))))]) (w1 := [(r5, .inr (2, [.ref a5])), (a5, .inl (cA5, (96, .inl (fun _ => 0))))]) hP hD [5] [0, 1, 2, 3, 4] rfl rfl (by decide) (by decide) hk1 hFc hP1 hD1
  generalize H1 = H at hP hS ⊢
  have hP : va_P (dC, dI) rfCl [(h0, .inr (1, [.ref r1, .ref r2, .ref r3, .ref r4, .null])), (a1, .inl (cA1, (384, .inl (fun _ => 0)))), (a2, .inl (cA2, (384, .inl (fun _ => 0)))), (a3, .inl (cA3, (96, .inl (fun _ => 0)))), (a4, .inl (cA4, (96, .inl (fun _ => 0)))), (a5, .inl (cA5, (96, .inl (fun _ => 0))))] H := hP.sub [0, 1, 2, 3, 4, 6] rfl
  have hD : va_D A [(h0, .inr (1, [.ref r1, .ref r2, .ref r3, .ref r4, .null])), (a1, .inl (cA1, (384, .inl (fun _ => 0)))), (a2, .inl (cA2, (384, .inl (fun _ => 0)))), (a3, .inl (cA3, (96, .inl (fun _ => 0)))), (a4, .inl (cA4, (96, .inl (fun _ => 0)))), (a5, .inl (cA5, (96, .inl (fun _ => 0))))] := hD.sub [0, 1, 2, 3, 4, 6] (by decide) rfl
  refine W.widen (k := 10) (n := 1061) (by omega) (by omega) ?_
  refine va_putF (D := (dC, dI)) (ci := 1) (v := .ref r5) (ty := .object "Splitpointer$Row") (C := RX2) (T := TX2) (N := 5) hx hb hts inX2 tyX2 tyX2_ok nmX2 hown hK hP hD hS 0 rfl rfl 4 (by decide) (hts _ k_fl_X2_29) (fun _ h9 => h9) rfl hin rfl (by decide +kernel) rfl rfl (Nat.le_of_ble_eq_true rfl) dX2_init_68 (fun H locs hP hD hS => ?_)
  have hP : va_P (dC, dI) rfCl [(h0, .inr (1, [.ref r1, .ref r2, .ref r3, .ref r4, .ref r5])), (a1, .inl (cA1, (384, .inl (fun _ => 0)))), (a2, .inl (cA2, (384, .inl (fun _ => 0)))), (a3, .inl (cA3, (96, .inl (fun _ => 0)))), (a4, .inl (cA4, (96, .inl (fun _ => 0)))), (a5, .inl (cA5, (96, .inl (fun _ => 0))))] H := hP
  have hD : va_D A [(h0, .inr (1, [.ref r1, .ref r2, .ref r3, .ref r4, .ref r5])), (a1, .inl (cA1, (384, .inl (fun _ => 0)))), (a2, .inl (cA2, (384, .inl (fun _ => 0)))), (a3, .inl (cA3, (96, .inl (fun _ => 0)))), (a4, .inl (cA4, (96, .inl (fun _ => 0)))), (a5, .inl (cA5, (96, .inl (fun _ => 0))))] := hD
  have hP9 := hP.sub (ws' := [(a1, .inl (cA1, (384, .inl (fun _ => 0)))), (a2, .inl (cA2, (384, .inl (fun _ => 0)))), (a3, .inl (cA3, (96, .inl (fun _ => 0)))), (a4, .inl (cA4, (96, .inl (fun _ => 0)))), (a5, .inl (cA5, (96, .inl (fun _ => 0))))]) [1, 2, 3, 4, 5] rfl
  have hD9 := hD.sub (ws' := [(a1, .inl (cA1, (384, .inl (fun _ => 0)))), (a2, .inl (cA2, (384, .inl (fun _ => 0)))), (a3, .inl (cA3, (96, .inl (fun _ => 0)))), (a4, .inl (cA4, (96, .inl (fun _ => 0)))), (a5, .inl (cA5, (96, .inl (fun _ => 0))))]) [1, 2, 3, 4, 5] (by decide) rfl
  exact W.vret hx hb hr (fun t ht hW => ⟨⟨(), rfl, trivial, a1, a2, a3, a4, a5, cA1, cA2, cA3, cA4, cA5, by rw [ht]; exact hP9, hD9⟩, hS.F ht⟩) hS.2.2 dX2_init_71
