theorem rf_arr {D : va_G} {cl : List vw_C} {ws : va_W} {H : Heap} (hP : va_P D cl ws H) (k : Nat) {q : Nat} {cA : ClassId} {n : Nat} {f : Nat → Int32} (hk : ws[k]? = some (q, .inl (cA, (n, .inl f)))) : ∃ cell : Cell, H[q]? = some cell ∧ cell.slots.size = n :=
  ⟨_, hP k _ hk, arrV_size _ _ _⟩
theorem rf_new {h0 sz : Nat} {e0 : va_E} {ws : va_W} (hD : va_D (va_A [(h0, e0)] sz) ws) {e1 : va_E} (h1 : ws[0]? = some (h0, e1)) (k : Nat) {q : Nat} {e : va_E} (hk : ws[k]? = some (q, e)) (hk0 : k ≠ 0) : sz ≤ q := by
  rcases hD.2 k _ hk with ⟨j, e9, hj⟩ | h
  · have hj0 : j = 0 := by
      have h9 := (List.getElem?_eq_some_iff.mp hj).1
      simpa using h9
    subst hj0
    have he : h0 = q := by
      have h9 : some (h0, e0) = some (q, e9) := hj
      cases h9
      rfl
    exact absurd (hD.1 k 0 _ _ hk h1 he.symm) hk0
  · exact h
theorem rf_nodup {A : Nat → Prop} : ∀ ws : va_W, va_D A ws → (ws.map (fun q => q.1)).Nodup
  | [], _ => List.nodup_nil
  | x :: ws, h => by
    rw [List.map_cons, List.nodup_cons]
    refine ⟨fun hm => ?_, rf_nodup ws ⟨fun i j p q h1 h2 he => ?_, fun k q hk => h.2 (k + 1) q (by simpa using hk)⟩⟩
    · obtain ⟨y, hy, e⟩ := List.mem_map.mp hm
      obtain ⟨i, hi⟩ := List.getElem?_of_mem hy
      have h9 := h.1 0 (i + 1) x y rfl (by simpa using hi) e.symm
      omega
    · have h9 := h.1 (i + 1) (j + 1) p q (by simpa using h1) (by simpa using h2) he
      omega
/-- what the machine knows of the five classes -/
theorem rf_known {s : State} {args : Array Value} (hts : ∀ w ∈ rfT, w.before args s = true) : ∃ (dC : Nat → ClassId) (dI : Nat → Nat → Nat), va_K (dC, dI) rfCl [] s := by
  obtain ⟨c0, i0, k0⟩ := u_known (C := RX1) (T := TX1) (N := 2) (n := 2) hts inX1 (hts _ k_able_X1)
  obtain ⟨c1, i1, k1⟩ := u_known (C := RX2) (T := TX2) (N := 5) (n := 5) hts inX2 (hts _ k_able_X2)
  obtain ⟨c2, i2, k2⟩ := u_known (C := RX3) (T := TX3) (N := 1) (n := 1) hts inX3 (hts _ k_able_X3)
  obtain ⟨c3, i3, k3⟩ := u_known (C := RX4) (T := TX4) (N := 2) (n := 2) hts inX4 (hts _ k_able_X4)
  obtain ⟨c4, i4, k4⟩ := u_known (C := RX5) (T := TX5) (N := 14) (n := 14) hts inX5 (hts _ k_able_X5)
  refine ⟨fun k => if k = 0 then c0 else if k = 1 then c1 else if k = 2 then c2 else if k = 3 then c3 else c4, fun k => if k = 0 then i0 else if k = 1 then i1 else if k = 2 then i2 else if k = 3 then i3 else i4, ?_, fun k q h => by simp at h⟩
  intro k q hq
  match k, hq with
  | 0, hq => cases hq; exact k0
  | 1, hq => cases hq; exact k1
  | 2, hq => cases hq; exact k2
  | 3, hq => cases hq; exact k3
  | 4, hq => cases hq; exact k4
  | k + 5, hq => simp [rfCl] at hq
/-- at least 1210 slots more than n0 in the book -/
def rf_Big (n0 : Nat) : State → Prop := fun t => n0 + 1210 ≤ t.slotsUsed
def rf_rm5 : Room := { frames := 4, cells := 100, slots := 5000, locals := 60 }
def rf_rm6 : Room := { frames := 6, cells := 200, slots := 10000, locals := 90 }
def rf_rmL : Room := { frames := 12, cells := 1000, slots := 20000, locals := 430 }
def rf_N (U : State) : Prop := va_Nw (.methodLinkNest RX6 9 yX5_init "Splitpointer") U ∧ va_Nw (.methodLinkNest RX5 11 yX1_init "Splitpointer") U ∧ va_Nw (.methodLinkNest RX5 20 yX4_init "Splitpointer") U ∧ va_Nw (.methodLinkNest RX5 27 yX2_init "Splitpointer") U
theorem rf_N.warm {s U : State} (hW : s.WarmedH U.vm) (h : rf_N s) : rf_N U := ⟨va_Nw.warmM hW h.1, va_Nw.warmM hW h.2.1, va_Nw.warmM hW h.2.2.1, va_Nw.warmM hW h.2.2.2⟩
def rf_P5 (dC : Nat → ClassId) (dI : Nat → Nat → Nat) (h0 n0 : Nat) : Array Value → State → Prop := fun a U => a = [Value.ref h0].toArray ∧ n0 ≤ U.slotsUsed ∧ va_P (dC, dI) rfCl [(h0, .inr (4, [.null, .null, .null, .null, .null, .null, .null, .null, .int 0, .int 0, .int 0, .int 0, .int 0, .int 0]))] U.heap ∧ va_K (dC, dI) rfCl [] U ∧ va_D (fun _ => True) [(h0, .inr (4, [.null, .null, .null, .null, .null, .null, .null, .null, .int 0, .int 0, .int 0, .int 0, .int 0, .int 0]))] ∧ rf_N U
set_option maxHeartbeats 4000000 in
set_option maxRecDepth 100000 in
/-- TableFile(), as far as its third row of 64: by then 1248 slots are made in arrays alone -/
theorem rf_tf (l : Launch) (dC : Nat → ClassId) (dI : Nat → Nat → Nat) (h0 n0 : Nat) :
    ∀ p e s m args below meth c s₁, BodyLoose p l yX5_init (headSpec (rfW yX5_init cX5_init 1 none) rf_rm5) cX5_init 1 none e s m args below meth c s₁ → c.maxLocals = 1 → rf_P5 dC dI h0 n0 args s →
      W p l e rf_rm5 s m args below meth c s.heap [] 0 0 (rf_Big n0) (entryFrame m args 1) := by
  intro p e s m args below meth c s₁ B hml hv
  obtain ⟨rfl, hn0, hP, hK, hD0, hN⟩ := hv
  have hx := B.exec
  have hb := B.bytes
  have hr := B.returns
  have hts0 := atoms_spec (ws := rfW yX5_init cX5_init 1 none) B.pre
  have hts := fun (w : Cond) (h : w ∈ rfT) => hts0 w (List.mem_cons_of_mem _ h)
  have hown : s.vm.findClass RX5 = some m.cls := findClass_of_methodNamed B.named
  have hlocks := B.notSynchronized
  have hin : meth.name = "<init>" := (name_of_methodNamed B.named B.method).1
  have hD := hD0.self (sz := s.heap.size)
  obtain ⟨A, hAe⟩ : ∃ A, A = va_A [(h0, .inr (4, [.null, .null, .null, .null, .null, .null, .null, .null, .int 0, .int 0, .int 0, .int 0, .int 0, .int 0]))] s.heap.size := ⟨_, rfl⟩
  rw [← hAe] at hD
  have hA : ∀ q : Nat, s.heap.size ≤ q → A q := fun q h => by rw [hAe]; exact Or.inr h
  have hS : va_S A s.heap s.heap [] := va_S.rf
  have hl := lv_entry ([.ref h0]) (n := 1) (Nat.le_of_ble_eq_true rfl)
  rw [lg_entry_eq]
  generalize (lg_sl ([.ref h0]) ++ List.replicate (1 - (lg_sl ([.ref h0])).length) Slot.unset).toArray = ls at hl ⊢
  have hl : lv_has ls 1 [(0, .ref h0)] := hl
  refine lv_aload_n hx hb dX5_init_0 rfl (lv_at hl 0 rfl) ?_
  refine W.objInit hx hb hown (hts _ k_oi_X5) (hts _ k_oi_i) (hts _ k_oi_c) rfl (by rw [hml]; exact hl.1) rfl dX5_init_1 (Nat.le_of_ble_eq_true rfl) (Nat.le_of_ble_eq_true rfl) ?_
  refine W.eq (g2 := F0 m 4 ls []) rfl ?_
  refine lv_aload_n hx hb dX5_init_4 rfl (lv_at hl 0 rfl) ?_
  have h_1 : 0 + 1 ≤ 100 := by decide
  have h_2 : 0 + 2 ≤ 5000 := by decide
  refine va_new (ci := 0) (fs := [.int 0, .int 0]) (C := RX1) (T := TX1) (N := 2) hx hb hts inX1 tyX1 tyX1_ok hown (hts _ k_cl_X5_9) (hts _ k_able_X1) (hts _ k_ini_X1) hK hP hD hS hA rfl (fun j hj => by rcases (show j = 0 ∨ j = 1 by omega) with rfl | rfl <;> rfl) h_1 h_2 dX5_init_5 (fun q1 H hP hD hS => ?_)
  refine W.widen (k := 1) (n := 2) (by omega) (by omega) ?_
  refine lv_dup hx hb dX5_init_8 rfl ?_
  have hP := hP.sub (ws' := [(h0, .inr (4, [.null, .null, .null, .null, .null, .null, .null, .null, .int 0, .int 0, .int 0, .int 0, .int 0, .int 0]))]) [0] rfl
  have hD := hD.sub (ws' := [(h0, .inr (4, [.null, .null, .null, .null, .null, .null, .null, .null, .int 0, .int 0, .int 0, .int 0, .int 0, .int 0]))]) [0] (by decide) rfl
  have hFc := va_free (wc := []) hD hS hA [] rfl
  have h_3 : 1 + 0 ≤ 100 := by decide
  have h_4 : 2 + 0 ≤ 5000 := by decide
  refine va_callv (va_runIN (As := []) (rest := [.ref q1, .ref h0]) ⟨hx, hb, hml, hown, hts⟩ (rc_X1 l dC dI q1 H.size) ⟨va_cnB 0 hts (rf_good k_code_X1) rfl rfl rfl hN.2.1 (hts _ k_ini_X1) (by decide +kernel) ⟨Nat.le_of_ble_eq_true rfl, Nat.le_of_ble_eq_true rfl⟩, rfl, hts _ k_inst_X1⟩ ⟨fun a U g mk q => by obtain ⟨q0, q1⟩ := q; exact ⟨q0, q1⟩, fun U hU hW => ⟨rfl, congrArg Array.size hU⟩⟩ rfl rfl hl.1 rfl (lv_room (Nat.le_of_ble_eq_true rfl)) dX5_init_9 ⟨h_3, h_4⟩) hS (fun q _ h => hFc q h) hFc (fun u t H1 locs ht hvm hw hB hz1 hk1 hS => ?_)
  have hP1 : va_P (dC, dI) rfCl [] H1 := fun k q h => by simp at h
  have hD1 : va_D (va_A [] H.size) [] := ⟨fun i j p q h => by simp at h, fun k q h => by simp at h⟩
  obtain ⟨hP, hD⟩ := va_join (wr := [(h0, .inr (4, [.null, .null, .null, .null, .null, .null, .null, .null, .int 0, .int 0, .int 0, .int 0, .int 0, .int 0]))]) (w1 := []) hP hD [] [0] rfl rfl (by decide) (by decide) hk1 hFc hP1 hD1
  generalize H1 = H at hP hS ⊢
  have hP : va_P (dC, dI) rfCl [(h0, .inr (4, [.null, .null, .null, .null, .null, .null, .null, .null, .int 0, .int 0, .int 0, .int 0, .int 0, .int 0]))] H := hP
  have hD : va_D A [(h0, .inr (4, [.null, .null, .null, .null, .null, .null, .null, .null, .int 0, .int 0, .int 0, .int 0, .int 0, .int 0]))] := hD
  refine W.widen (k := 1) (n := 2) (by omega) (by omega) ?_
  refine va_putF (D := (dC, dI)) (ci := 4) (v := .ref q1) (ty := .object "Splitpointer$Hashing") (C := RX5) (T := TX5) (N := 14) hx hb hts inX5 tyX5 tyX5_ok nmX5 hown hK hP hD hS 0 rfl rfl 0 (by decide) (hts _ k_fl_X5_12) (fun _ h9 => h9) rfl hin rfl (by decide +kernel) rfl rfl (Nat.le_of_ble_eq_true rfl) dX5_init_12 (fun H locs hP hD hS => ?_)
  have hP : va_P (dC, dI) rfCl [(h0, .inr (4, [.ref q1, .null, .null, .null, .null, .null, .null, .null, .int 0, .int 0, .int 0, .int 0, .int 0, .int 0]))] H := hP
  have hD : va_D A [(h0, .inr (4, [.ref q1, .null, .null, .null, .null, .null, .null, .null, .int 0, .int 0, .int 0, .int 0, .int 0, .int 0]))] := hD
  refine lv_aload_n hx hb dX5_init_15 rfl (lv_at hl 0 rfl) ?_
  have h_1 : 1 + 1 ≤ 100 := by decide
  have h_2 : 2 + 2 ≤ 5000 := by decide
  refine va_new (ci := 3) (fs := [.int 0, .int 0]) (C := RX4) (T := TX4) (N := 2) hx hb hts inX4 tyX4 tyX4_ok hown (hts _ k_cl_X5_18) (hts _ k_able_X4) (hts _ k_ini_X4) hK hP hD hS hA rfl (fun j hj => by rcases (show j = 0 ∨ j = 1 by omega) with rfl | rfl <;> rfl) h_1 h_2 dX5_init_16 (fun q2 H hP hD hS => ?_)
  refine W.widen (k := 2) (n := 4) (by omega) (by omega) ?_
  refine lv_dup hx hb dX5_init_19 rfl ?_
  have hP := hP.sub (ws' := [(h0, .inr (4, [.ref q1, .null, .null, .null, .null, .null, .null, .null, .int 0, .int 0, .int 0, .int 0, .int 0, .int 0]))]) [0] rfl
  have hD := hD.sub (ws' := [(h0, .inr (4, [.ref q1, .null, .null, .null, .null, .null, .null, .null, .int 0, .int 0, .int 0, .int 0, .int 0, .int 0]))]) [0] (by decide) rfl
  have hFc := va_free (wc := []) hD hS hA [] rfl
  have h_3 : 2 + 0 ≤ 100 := by decide
  have h_4 : 4 + 0 ≤ 5000 := by decide
  refine va_callv (va_runIN (As := []) (rest := [.ref q2, .ref h0]) ⟨hx, hb, hml, hown, hts⟩ (rc_X4 l dC dI q2 H.size) ⟨va_cnB 0 hts (rf_good k_code_X4) rfl rfl rfl hN.2.2.1 (hts _ k_ini_X4) (by decide +kernel) ⟨Nat.le_of_ble_eq_true rfl, Nat.le_of_ble_eq_true rfl⟩, rfl, hts _ k_inst_X4⟩ ⟨fun a U g mk q => by obtain ⟨q0, q1⟩ := q; exact ⟨q0, q1⟩, fun U hU hW => ⟨rfl, congrArg Array.size hU⟩⟩ rfl rfl hl.1 rfl (lv_room (Nat.le_of_ble_eq_true rfl)) dX5_init_20 ⟨h_3, h_4⟩) hS (fun q _ h => hFc q h) hFc (fun u t H1 locs ht hvm hw hB hz1 hk1 hS => ?_)
  have hP1 : va_P (dC, dI) rfCl [] H1 := fun k q h => by simp at h
  have hD1 : va_D (va_A [] H.size) [] := ⟨fun i j p q h => by simp at h, fun k q h => by simp at h⟩
  obtain ⟨hP, hD⟩ := va_join (wr := [(h0, .inr (4, [.ref q1, .null, .null, .null, .null, .null, .null, .null, .int 0, .int 0, .int 0, .int 0, .int 0, .int 0]))]) (w1 := []) hP hD [] [0] rfl rfl (by decide) (by decide) hk1 hFc hP1 hD1
  generalize H1 = H at hP hS ⊢
  have hP : va_P (dC, dI) rfCl [(h0, .inr (4, [.ref q1, .null, .null, .null, .null, .null, .null, .null, .int 0, .int 0, .int 0, .int 0, .int 0, .int 0]))] H := hP
  have hD : va_D A [(h0, .inr (4, [.ref q1, .null, .null, .null, .null, .null, .null, .null, .int 0, .int 0, .int 0, .int 0, .int 0, .int 0]))] := hD
  refine W.widen (k := 2) (n := 4) (by omega) (by omega) ?_
  refine va_putF (D := (dC, dI)) (ci := 4) (v := .ref q2) (ty := .object "Splitpointer$Shape") (C := RX5) (T := TX5) (N := 14) hx hb hts inX5 tyX5 tyX5_ok nmX5 hown hK hP hD hS 0 rfl rfl 1 (by decide) (hts _ k_fl_X5_21) (fun _ h9 => h9) rfl hin rfl (by decide +kernel) rfl rfl (Nat.le_of_ble_eq_true rfl) dX5_init_23 (fun H locs hP hD hS => ?_)
  have hP : va_P (dC, dI) rfCl [(h0, .inr (4, [.ref q1, .ref q2, .null, .null, .null, .null, .null, .null, .int 0, .int 0, .int 0, .int 0, .int 0, .int 0]))] H := hP
  have hD : va_D A [(h0, .inr (4, [.ref q1, .ref q2, .null, .null, .null, .null, .null, .null, .int 0, .int 0, .int 0, .int 0, .int 0, .int 0]))] := hD
  refine lv_aload_n hx hb dX5_init_26 rfl (lv_at hl 0 rfl) ?_
  have h_1 : 2 + 1 ≤ 100 := by decide
  have h_2 : 4 + 5 ≤ 5000 := by decide
  refine va_new (ci := 1) (fs := [.null, .null, .null, .null, .null]) (C := RX2) (T := TX2) (N := 5) hx hb hts inX2 tyX2 tyX2_ok hown (hts _ k_cl_X5_25) (hts _ k_able_X2) (hts _ k_ini_X2) hK hP hD hS hA rfl (fun j hj => by rcases (show j = 0 ∨ j = 1 ∨ j = 2 ∨ j = 3 ∨ j = 4 by omega) with rfl | rfl | rfl | rfl | rfl <;> rfl) h_1 h_2 dX5_init_27 (fun q3 H hP hD hS => ?_)
  refine W.widen (k := 3) (n := 9) (by omega) (by omega) ?_
  refine lv_dup hx hb dX5_init_30 rfl ?_
  have hP : va_P (dC, dI) rfCl [(h0, .inr (4, [.ref q1, .ref q2, .null, .null, .null, .null, .null, .null, .int 0, .int 0, .int 0, .int 0, .int 0, .int 0])), (q3, .inr (1, [.null, .null, .null, .null, .null]))] H := hP
  have hD : va_D A [(h0, .inr (4, [.ref q1, .ref q2, .null, .null, .null, .null, .null, .null, .int 0, .int 0, .int 0, .int 0, .int 0, .int 0])), (q3, .inr (1, [.null, .null, .null, .null, .null]))] := hD
  have hPc := hP.sub (ws' := [(q3, .inr (1, [.null, .null, .null, .null, .null]))]) [1] rfl
  have hDc := hD.sub (ws' := [(q3, .inr (1, [.null, .null, .null, .null, .null]))]) [1] (by decide) rfl
  have hKc := hK.sub (tys' := []) [] rfl
  have hFc := va_free (wc := [(q3, .inr (1, [.null, .null, .null, .null, .null]))]) hD hS hA [1] rfl
  have h_3 : 3 + 10 ≤ 100 := by decide
  have h_4 : 9 + 1061 ≤ 5000 := by decide
  refine va_callv (va_runIN (As := []) (rest := [.ref q3, .ref h0]) ⟨hx, hb, hml, hown, hts⟩ (rc_X2 l dC dI q3 H.size) ⟨va_cnB 0 hts (rf_good k_code_X2) rfl rfl rfl hN.2.2.2 (hts _ k_ini_X2) (by decide +kernel) ⟨Nat.le_of_ble_eq_true rfl, Nat.le_of_ble_eq_true rfl⟩, rfl, hts _ k_inst_X2⟩ ⟨fun a U g mk q => by obtain ⟨q0, q1, qP, qK, qD⟩ := q; exact ⟨q0, q1, qP, va_K.moved (u := U) (U := U.calling g mk a) (Vm.Alike.refl U.vm) qK, qD⟩, fun U hU hW => ⟨rfl, by rw [hU], by rw [hU]; exact hPc, va_K.moved hW.alike hKc, hDc.weaken (fun _ _ _ _ => trivial)⟩⟩ rfl rfl hl.1 rfl (lv_room (Nat.le_of_ble_eq_true rfl)) dX5_init_31 ⟨h_3, h_4⟩) hS (fun q _ h => hFc q h) hFc (fun u t H1 locs ht hvm hw hB hz1 hk1 hS => ?_)
  obtain ⟨a1, a2, a3, a4, a5, cA1, cA2, cA3, cA4, cA5, hP1, hD1⟩ := hB
  rw [ht] at hP1
  obtain ⟨hP, hD⟩ := va_join (wr := [(h0, .inr (4, [.ref q1, .ref q2, .null, .null, .null, .null, .null, .null, .int 0, .int 0, .int 0, .int 0, .int 0, .int 0]))]) (w1 := [(a1, .inl (cA1, (384, .inl (fun _ => 0)))), (a2, .inl (cA2, (384, .inl (fun _ => 0)))), (a3, .inl (cA3, (96, .inl (fun _ => 0)))), (a4, .inl (cA4, (96, .inl (fun _ => 0)))), (a5, .inl (cA5, (96, .inl (fun _ => 0))))]) hP hD [1] [0] rfl rfl (by decide) (by decide) hk1 hFc hP1 hD1
  generalize H1 = H at hP hS ⊢
  have hP : va_P (dC, dI) rfCl [(h0, .inr (4, [.ref q1, .ref q2, .null, .null, .null, .null, .null, .null, .int 0, .int 0, .int 0, .int 0, .int 0, .int 0])), (a1, .inl (cA1, (384, .inl (fun _ => 0)))), (a2, .inl (cA2, (384, .inl (fun _ => 0)))), (a3, .inl (cA3, (96, .inl (fun _ => 0)))), (a4, .inl (cA4, (96, .inl (fun _ => 0)))), (a5, .inl (cA5, (96, .inl (fun _ => 0))))] H := hP
  have hD : va_D A [(h0, .inr (4, [.ref q1, .ref q2, .null, .null, .null, .null, .null, .null, .int 0, .int 0, .int 0, .int 0, .int 0, .int 0])), (a1, .inl (cA1, (384, .inl (fun _ => 0)))), (a2, .inl (cA2, (384, .inl (fun _ => 0)))), (a3, .inl (cA3, (96, .inl (fun _ => 0)))), (a4, .inl (cA4, (96, .inl (fun _ => 0)))), (a5, .inl (cA5, (96, .inl (fun _ => 0))))] := hD
  refine W.widen (k := 13) (n := 1070) (by omega) (by omega) ?_
  refine va_putF (D := (dC, dI)) (ci := 4) (v := .ref q3) (ty := .object "Splitpointer$Pages") (C := RX5) (T := TX5) (N := 14) hx hb hts inX5 tyX5 tyX5_ok nmX5 hown hK hP hD hS 0 rfl rfl 2 (by decide) (hts _ k_fl_X5_28) (fun _ h9 => h9) rfl hin rfl (by decide +kernel) rfl rfl (Nat.le_of_ble_eq_true rfl) dX5_init_34 (fun H locs hP hD hS => ?_)
  have hP : va_P (dC, dI) rfCl [(h0, .inr (4, [.ref q1, .ref q2, .ref q3, .null, .null, .null, .null, .null, .int 0, .int 0, .int 0, .int 0, .int 0, .int 0])), (a1, .inl (cA1, (384, .inl (fun _ => 0)))), (a2, .inl (cA2, (384, .inl (fun _ => 0)))), (a3, .inl (cA3, (96, .inl (fun _ => 0)))), (a4, .inl (cA4, (96, .inl (fun _ => 0)))), (a5, .inl (cA5, (96, .inl (fun _ => 0))))] H := hP
  have hD : va_D A [(h0, .inr (4, [.ref q1, .ref q2, .ref q3, .null, .null, .null, .null, .null, .int 0, .int 0, .int 0, .int 0, .int 0, .int 0])), (a1, .inl (cA1, (384, .inl (fun _ => 0)))), (a2, .inl (cA2, (384, .inl (fun _ => 0)))), (a3, .inl (cA3, (96, .inl (fun _ => 0)))), (a4, .inl (cA4, (96, .inl (fun _ => 0)))), (a5, .inl (cA5, (96, .inl (fun _ => 0))))] := hD
  refine lv_aload_n hx hb dX5_init_37 rfl (lv_at hl 0 rfl) ?_
  have h_1 : 13 + 1 ≤ 100 := by decide
  have h_2 : 1070 + 1 ≤ 5000 := by decide
  refine va_new (ci := 2) (fs := [.null]) (C := RX3) (T := TX3) (N := 1) hx hb hts inX3 tyX3 tyX3_ok hown (hts _ k_cl_X5_32) (hts _ k_able_X3) (hts _ k_ini_X3) hK hP hD hS hA rfl (fun j hj => by rcases (show j = 0 by omega) with rfl <;> rfl) h_1 h_2 dX5_init_38 (fun r6 H hP hD hS => ?_)
  have hP : va_P (dC, dI) rfCl [(h0, .inr (4, [.ref q1, .ref q2, .ref q3, .null, .null, .null, .null, .null, .int 0, .int 0, .int 0, .int 0, .int 0, .int 0])), (a1, .inl (cA1, (384, .inl (fun _ => 0)))), (a2, .inl (cA2, (384, .inl (fun _ => 0)))), (a3, .inl (cA3, (96, .inl (fun _ => 0)))), (a4, .inl (cA4, (96, .inl (fun _ => 0)))), (a5, .inl (cA5, (96, .inl (fun _ => 0)))), (r6, .inr (2, [.null]))] H := hP
  have hD : va_D A [(h0, .inr (4, [.ref q1, .ref q2, .ref q3, .null, .null, .null, .null, .null, .int 0, .int 0, .int 0, .int 0, .int 0, .int 0])), (a1, .inl (cA1, (384, .inl (fun _ => 0)))), (a2, .inl (cA2, (384, .inl (fun _ => 0)))), (a3, .inl (cA3, (96, .inl (fun _ => 0)))), (a4, .inl (cA4, (96, .inl (fun _ => 0)))), (a5, .inl (cA5, (96, .inl (fun _ => 0)))), (r6, .inr (2, [.null]))] := hD
  refine W.widen (k := 14) (n := 1071) (by omega) (by omega) ?_
  refine lv_dup hx hb dX5_init_41 rfl ?_
  refine lv_bipush (v := nI 64) hx hb dX5_init_42 (by decide +kernel) ?_
  have hPc := hP.sub (ws' := [(r6, .inr (2, [.null]))]) [6] rfl
  have hDc := hD.sub (ws' := [(r6, .inr (2, [.null]))]) [6] (by decide) rfl
  have hKc := hK.sub (tys' := []) [] rfl
  have hFc := va_free (wc := [(r6, .inr (2, [.null]))]) hD hS hA [6] rfl
  have h_3 : 14 + 1 ≤ 100 := by decide
  have h_4 : 1071 + 64 ≤ 5000 := by decide
  refine va_callv (va_runI (As := [.int (nI 64)]) (rest := [.ref r6, .ref h0]) ⟨hx, hb, hml, hown, hts⟩ (rc_X3 l dC dI r6 H.size 64 (by decide) (by decide)) (cwI 1 hts (rf_good k_code_X3) rfl rfl rfl (hts _ k_ini_X3) (hts _ k_ml_X5) (hts _ k_inst_X3) rfl (by decide +kernel) ⟨Nat.le_of_ble_eq_true rfl, Nat.le_of_ble_eq_true rfl⟩) ⟨fun a U g mk q => by obtain ⟨q0, q1, qP, qK, qD⟩ := q; exact ⟨q0, q1, qP, va_K.moved (u := U) (U := U.calling g mk a) (Vm.Alike.refl U.vm) qK, qD⟩, fun U hU hW => ⟨rfl, by rw [hU], by rw [hU]; exact hPc, va_K.moved hW.alike hKc, hDc.weaken (fun _ _ _ _ => trivial)⟩⟩ rfl rfl hl.1 rfl (lv_room (Nat.le_of_ble_eq_true rfl)) dX5_init_44 ⟨h_3, h_4⟩) hS (fun q _ h => hFc q h) hFc (fun u t H1 locs ht hvm hw hB hz1 hk1 hS => ?_)
  obtain ⟨a6, cA6, hP1, hD1⟩ := hB
  rw [ht] at hP1
  obtain ⟨hP, hD⟩ := va_join (wr := [(h0, .inr (4, [.ref q1, .ref q2, .ref q3, .null, .null, .null, .null, .null, .int 0, .int 0, .int 0, .int 0, .int 0, .int 0])), (a1, .inl (cA1, (384, .inl (fun _ => 0)))), (a2, .inl (cA2, (384, .inl (fun _ => 0)))), (a3, .inl (cA3, (96, .inl (fun _ => 0)))), (a4, .inl (cA4, (96, .inl (fun _ => 0)))), (a5, .inl (cA5, (96, .inl (fun _ => 0))))]) (w1 := [(r6, .inr (2, [.ref a6])), (a6, .inl (cA6, (64, .inl (fun _ => 0))))]) hP hD [6] [0, 1, 2, 3, 4, 5] rfl rfl (by decide) (by decide) hk1 hFc hP1 hD1
  generalize H1 = H at hP hS ⊢
  have hP : va_P (dC, dI) rfCl [(h0, .inr (4, [.ref q1, .ref q2, .ref q3, .null, .null, .null, .null, .null, .int 0, .int 0, .int 0, .int 0, .int 0, .int 0])), (a1, .inl (cA1, (384, .inl (fun _ => 0)))), (a2, .inl (cA2, (384, .inl (fun _ => 0)))), (a3, .inl (cA3, (96, .inl (fun _ => 0)))), (a4, .inl (cA4, (96, .inl (fun _ => 0)))), (a5, .inl (cA5, (96, .inl (fun _ => 0)))), (a6, .inl (cA6, (64, .inl (fun _ => 0))))] H := hP.sub [0, 1, 2, 3, 4, 5, 7] rfl
  have hD : va_D A [(h0, .inr (4, [.ref q1, .ref q2, .ref q3, .null, .null, .null, .null, .null, .int 0, .int 0, .int 0, .int 0, .int 0, .int 0])), (a1, .inl (cA1, (384, .inl (fun _ => 0)))), (a2, .inl (cA2, (384, .inl (fun _ => 0)))), (a3, .inl (cA3, (96, .inl (fun _ => 0)))), (a4, .inl (cA4, (96, .inl (fun _ => 0)))), (a5, .inl (cA5, (96, .inl (fun _ => 0)))), (a6, .inl (cA6, (64, .inl (fun _ => 0))))] := hD.sub [0, 1, 2, 3, 4, 5, 7] (by decide) rfl
  refine W.widen (k := 15) (n := 1135) (by omega) (by omega) ?_
  refine va_putF (D := (dC, dI)) (ci := 4) (v := .ref r6) (ty := .object "Splitpointer$Row") (C := RX5) (T := TX5) (N := 14) hx hb hts inX5 tyX5 tyX5_ok nmX5 hown hK hP hD hS 0 rfl rfl 3 (by decide) (hts _ k_fl_X5_37) (fun _ h9 => h9) rfl hin rfl (by decide +kernel) rfl rfl (Nat.le_of_ble_eq_true rfl) dX5_init_47 (fun H locs hP hD hS => ?_)
  have hP : va_P (dC, dI) rfCl [(h0, .inr (4, [.ref q1, .ref q2, .ref q3, .ref r6, .null, .null, .null, .null, .int 0, .int 0, .int 0, .int 0, .int 0, .int 0])), (a1, .inl (cA1, (384, .inl (fun _ => 0)))), (a2, .inl (cA2, (384, .inl (fun _ => 0)))), (a3, .inl (cA3, (96, .inl (fun _ => 0)))), (a4, .inl (cA4, (96, .inl (fun _ => 0)))), (a5, .inl (cA5, (96, .inl (fun _ => 0)))), (a6, .inl (cA6, (64, .inl (fun _ => 0))))] H := hP
  have hD : va_D A [(h0, .inr (4, [.ref q1, .ref q2, .ref q3, .ref r6, .null, .null, .null, .null, .int 0, .int 0, .int 0, .int 0, .int 0, .int 0])), (a1, .inl (cA1, (384, .inl (fun _ => 0)))), (a2, .inl (cA2, (384, .inl (fun _ => 0)))), (a3, .inl (cA3, (96, .inl (fun _ => 0)))), (a4, .inl (cA4, (96, .inl (fun _ => 0)))), (a5, .inl (cA5, (96, .inl (fun _ => 0)))), (a6, .inl (cA6, (64, .inl (fun _ => 0))))] := hD
  refine lv_aload_n hx hb dX5_init_50 rfl (lv_at hl 0 rfl) ?_
  have h_1 : 15 + 1 ≤ 100 := by decide
  have h_2 : 1135 + 1 ≤ 5000 := by decide
  refine va_new (ci := 2) (fs := [.null]) (C := RX3) (T := TX3) (N := 1) hx hb hts inX3 tyX3 tyX3_ok hown (hts _ k_cl_X5_32) (hts _ k_able_X3) (hts _ k_ini_X3) hK hP hD hS hA rfl (fun j hj => by rcases (show j = 0 by omega) with rfl <;> rfl) h_1 h_2 dX5_init_51 (fun r7 H hP hD hS => ?_)
  have hP : va_P (dC, dI) rfCl [(h0, .inr (4, [.ref q1, .ref q2, .ref q3, .ref r6, .null, .null, .null, .null, .int 0, .int 0, .int 0, .int 0, .int 0, .int 0])), (a1, .inl (cA1, (384, .inl (fun _ => 0)))), (a2, .inl (cA2, (384, .inl (fun _ => 0)))), (a3, .inl (cA3, (96, .inl (fun _ => 0)))), (a4, .inl (cA4, (96, .inl (fun _ => 0)))), (a5, .inl (cA5, (96, .inl (fun _ => 0)))), (a6, .inl (cA6, (64, .inl (fun _ => 0)))), (r7, .inr (2, [.null]))] H := hP
  have hD : va_D A [(h0, .inr (4, [.ref q1, .ref q2, .ref q3, .ref r6, .null, .null, .null, .null, .int 0, .int 0, .int 0, .int 0, .int 0, .int 0])), (a1, .inl (cA1, (384, .inl (fun _ => 0)))), (a2, .inl (cA2, (384, .inl (fun _ => 0)))), (a3, .inl (cA3, (96, .inl (fun _ => 0)))), (a4, .inl (cA4, (96, .inl (fun _ => 0)))), (a5, .inl (cA5, (96, .inl (fun _ => 0)))), (a6, .inl (cA6, (64, .inl (fun _ => 0)))), (r7, .inr (2, [.null]))] := hD
  refine W.widen (k := 16) (n := 1136) (by omega) (by omega) ?_
  refine lv_dup hx hb dX5_init_54 rfl ?_
  refine lv_bipush (v := nI 64) hx hb dX5_init_55 (by decide +kernel) ?_
  have hPc := hP.sub (ws' := [(r7, .inr (2, [.null]))]) [7] rfl
  have hDc := hD.sub (ws' := [(r7, .inr (2, [.null]))]) [7] (by decide) rfl
  have hKc := hK.sub (tys' := []) [] rfl
  have hFc := va_free (wc := [(r7, .inr (2, [.null]))]) hD hS hA [7] rfl
  have h_3 : 16 + 1 ≤ 100 := by decide
  have h_4 : 1136 + 64 ≤ 5000 := by decide
  refine va_callv (va_runI (As := [.int (nI 64)]) (rest := [.ref r7, .ref h0]) ⟨hx, hb, hml, hown, hts⟩ (rc_X3 l dC dI r7 H.size 64 (by decide) (by decide)) (cwI 1 hts (rf_good k_code_X3) rfl rfl rfl (hts _ k_ini_X3) (hts _ k_ml_X5) (hts _ k_inst_X3) rfl (by decide +kernel) ⟨Nat.le_of_ble_eq_true rfl, Nat.le_of_ble_eq_true rfl⟩) ⟨fun a U g mk q => by obtain ⟨q0, q1, qP, qK, qD⟩ := q; exact ⟨q0, q1, qP, va_K.moved (u := U) (U := U.calling g mk a) (Vm.Alike.refl U.vm) qK, qD⟩, fun U hU hW => ⟨rfl, by rw [hU], by rw [hU]; exact hPc, va_K.moved hW.alike hKc, hDc.weaken (fun _ _ _ _ => trivial)⟩⟩ rfl rfl hl.1 rfl (lv_room (Nat.le_of_ble_eq_true rfl)) dX5_init_57 ⟨h_3, h_4⟩) hS (fun q _ h => hFc q h) hFc (fun u t H1 locs ht hvm hw hB hz1 hk1 hS => ?_)
  obtain ⟨a7, cA7, hP1, hD1⟩ := hB
  rw [ht] at hP1
  obtain ⟨hP, hD⟩ := va_join (wr := [(h0, .inr (4, [.ref q1, .ref q2, .ref q3, .ref r6, .null, .null, .null, .null, .int 0, .int 0, .int 0, .int 0, .int 0, .int 0])), (a1, .inl (cA1, (384, .inl (fun _ => 0)))), (a2, .inl (cA2, (384, .inl (fun _ => 0)))), (a3, .inl (cA3, (96, .inl (fun _ => 0)))), (a4, .inl (cA4, (96, .inl (fun _ => 0)))), (a5, .inl (cA5, (96, .inl (fun _ => 0)))), (a6, .inl (cA6, (64, .inl (fun _ => 0))))]) (w1 := [(r7, .inr (2, [.ref a7])), (a7, .inl (cA7, (64, .inl (fun _ => 0))))]) hP hD [7] [0, 1, 2, 3, 4, 5, 6] rfl rfl (by decide) (by decide) hk1 hFc hP1 hD1
  generalize H1 = H at hP hS ⊢
  have hP : va_P (dC, dI) rfCl [(h0, .inr (4, [.ref q1, .ref q2, .ref q3, .ref r6, .null, .null, .null, .null, .int 0, .int 0, .int 0, .int 0, .int 0, .int 0])), (a1, .inl (cA1, (384, .inl (fun _ => 0)))), (a2, .inl (cA2, (384, .inl (fun _ => 0)))), (a3, .inl (cA3, (96, .inl (fun _ => 0)))), (a4, .inl (cA4, (96, .inl (fun _ => 0)))), (a5, .inl (cA5, (96, .inl (fun _ => 0)))), (a6, .inl (cA6, (64, .inl (fun _ => 0)))), (a7, .inl (cA7, (64, .inl (fun _ => 0))))] H := hP.sub [0, 1, 2, 3, 4, 5, 6, 8] rfl
  have hD : va_D A [(h0, .inr (4, [.ref q1, .ref q2, .ref q3, .ref r6, .null, .null, .null, .null, .int 0, .int 0, .int 0, .int 0, .int 0, .int 0])), (a1, .inl (cA1, (384, .inl (fun _ => 0)))), (a2, .inl (cA2, (384, .inl (fun _ => 0)))), (a3, .inl (cA3, (96, .inl (fun _ => 0)))), (a4, .inl (cA4, (96, .inl (fun _ => 0)))), (a5, .inl (cA5, (96, .inl (fun _ => 0)))), (a6, .inl (cA6, (64, .inl (fun _ => 0)))), (a7, .inl (cA7, (64, .inl (fun _ => 0))))] := hD.sub [0, 1, 2, 3, 4, 5, 6, 8] (by decide) rfl
  refine W.widen (k := 17) (n := 1200) (by omega) (by omega) ?_
  refine va_putF (D := (dC, dI)) (ci := 4) (v := .ref r7) (ty := .object "Splitpointer$Row") (C := RX5) (T := TX5) (N := 14) hx hb hts inX5 tyX5 tyX5_ok nmX5 hown hK hP hD hS 0 rfl rfl 4 (by decide) (hts _ k_fl_X5_41) (fun _ h9 => h9) rfl hin rfl (by decide +kernel) rfl rfl (Nat.le_of_ble_eq_true rfl) dX5_init_60 (fun H locs hP hD hS => ?_)
  have hP : va_P (dC, dI) rfCl [(h0, .inr (4, [.ref q1, .ref q2, .ref q3, .ref r6, .ref r7, .null, .null, .null, .int 0, .int 0, .int 0, .int 0, .int 0, .int 0])), (a1, .inl (cA1, (384, .inl (fun _ => 0)))), (a2, .inl (cA2, (384, .inl (fun _ => 0)))), (a3, .inl (cA3, (96, .inl (fun _ => 0)))), (a4, .inl (cA4, (96, .inl (fun _ => 0)))), (a5, .inl (cA5, (96, .inl (fun _ => 0)))), (a6, .inl (cA6, (64, .inl (fun _ => 0)))), (a7, .inl (cA7, (64, .inl (fun _ => 0))))] H := hP
  have hD : va_D A [(h0, .inr (4, [.ref q1, .ref q2, .ref q3, .ref r6, .ref r7, .null, .null, .null, .int 0, .int 0, .int 0, .int 0, .int 0, .int 0])), (a1, .inl (cA1, (384, .inl (fun _ => 0)))), (a2, .inl (cA2, (384, .inl (fun _ => 0)))), (a3, .inl (cA3, (96, .inl (fun _ => 0)))), (a4, .inl (cA4, (96, .inl (fun _ => 0)))), (a5, .inl (cA5, (96, .inl (fun _ => 0)))), (a6, .inl (cA6, (64, .inl (fun _ => 0)))), (a7, .inl (cA7, (64, .inl (fun _ => 0))))] := hD
  refine lv_aload_n hx hb dX5_init_63 rfl (lv_at hl 0 rfl) ?_
  have h_1 : 17 + 1 ≤ 100 := by decide
  have h_2 : 1200 + 1 ≤ 5000 := by decide
  refine va_new (ci := 2) (fs := [.null]) (C := RX3) (T := TX3) (N := 1) hx hb hts inX3 tyX3 tyX3_ok hown (hts _ k_cl_X5_32) (hts _ k_able_X3) (hts _ k_ini_X3) hK hP hD hS hA rfl (fun j hj => by rcases (show j = 0 by omega) with rfl <;> rfl) h_1 h_2 dX5_init_64 (fun r8 H hP hD hS => ?_)
  have hP : va_P (dC, dI) rfCl [(h0, .inr (4, [.ref q1, .ref q2, .ref q3, .ref r6, .ref r7, .null, .null, .null, .int 0, .int 0, .int 0, .int 0, .int 0, .int 0])), (a1, .inl (cA1, (384, .inl (fun _ => 0)))), (a2, .inl (cA2, (384, .inl (fun _ => 0)))), (a3, .inl (cA3, (96, .inl (fun _ => 0)))), (a4, .inl (cA4, (96, .inl (fun _ => 0)))), (a5, .inl (cA5, (96, .inl (fun _ => 0)))), (a6, .inl (cA6, (64, .inl (fun _ => 0)))), (a7, .inl (cA7, (64, .inl (fun _ => 0)))), (r8, .inr (2, [.null]))] H := hP
  have hD : va_D A [(h0, .inr (4, [.ref q1, .ref q2, .ref q3, .ref r6, .ref r7, .null, .null, .null, .int 0, .int 0, .int 0, .int 0, .int 0, .int 0])), (a1, .inl (cA1, (384, .inl (fun _ => 0)))), (a2, .inl (cA2, (384, .inl (fun _ => 0)))), (a3, .inl (cA3, (96, .inl (fun _ => 0)))), (a4, .inl (cA4, (96, .inl (fun _ => 0)))), (a5, .inl (cA5, (96, .inl (fun _ => 0)))), (a6, .inl (cA6, (64, .inl (fun _ => 0)))), (a7, .inl (cA7, (64, .inl (fun _ => 0)))), (r8, .inr (2, [.null]))] := hD
  refine W.widen (k := 18) (n := 1201) (by omega) (by omega) ?_
  refine lv_dup hx hb dX5_init_67 rfl ?_
  refine lv_bipush (v := nI 64) hx hb dX5_init_68 (by decide +kernel) ?_
  have hPc := hP.sub (ws' := [(r8, .inr (2, [.null]))]) [8] rfl
  have hDc := hD.sub (ws' := [(r8, .inr (2, [.null]))]) [8] (by decide) rfl
  have hKc := hK.sub (tys' := []) [] rfl
  have hFc := va_free (wc := [(r8, .inr (2, [.null]))]) hD hS hA [8] rfl
  have h_3 : 18 + 1 ≤ 100 := by decide
  have h_4 : 1201 + 64 ≤ 5000 := by decide
  refine va_callv (va_runI (As := [.int (nI 64)]) (rest := [.ref r8, .ref h0]) ⟨hx, hb, hml, hown, hts⟩ (rc_X3 l dC dI r8 H.size 64 (by decide) (by decide)) (cwI 1 hts (rf_good k_code_X3) rfl rfl rfl (hts _ k_ini_X3) (hts _ k_ml_X5) (hts _ k_inst_X3) rfl (by decide +kernel) ⟨Nat.le_of_ble_eq_true rfl, Nat.le_of_ble_eq_true rfl⟩) ⟨fun a U g mk q => by obtain ⟨q0, q1, qP, qK, qD⟩ := q; exact ⟨q0, q1, qP, va_K.moved (u := U) (U := U.calling g mk a) (Vm.Alike.refl U.vm) qK, qD⟩, fun U hU hW => ⟨rfl, by rw [hU], by rw [hU]; exact hPc, va_K.moved hW.alike hKc, hDc.weaken (fun _ _ _ _ => trivial)⟩⟩ rfl rfl hl.1 rfl (lv_room (Nat.le_of_ble_eq_true rfl)) dX5_init_70 ⟨h_3, h_4⟩) hS (fun q _ h => hFc q h) hFc (fun u t H1 locs ht hvm hw hB hz1 hk1 hS => ?_)
  obtain ⟨a8, cA8, hP1, hD1⟩ := hB
  rw [ht] at hP1
  obtain ⟨hP, hD⟩ := va_join (wr := [(h0, .inr (4, [.ref q1, .ref q2, .ref q3, .ref r6, .ref r7, .null, .null, .null, .int 0, .int 0, .int 0, .int 0, .int 0, .int 0])), (a1, .inl (cA1, (384, .inl (fun _ => 0)))), (a2, .inl (cA2, (384, .inl (fun _ => 0)))), (a3, .inl (cA3, (96, .inl (fun _ => 0)))), (a4, .inl (cA4, (96, .inl (fun _ => 0)))), (a5, .inl (cA5, (96, .inl (fun _ => 0)))), (a6, .inl (cA6, (64, .inl (fun _ => 0)))), (a7, .inl (cA7, (64, .inl (fun _ => 0))))]) (w1 := [(r8, .inr (2, [.ref a8])), (a8, .inl (cA8, (64, .inl (fun _ => 0))))]) hP hD [8] [0, 1, 2, 3, 4, 5, 6, 7] rfl rfl (by decide) (by decide) hk1 hFc hP1 hD1
  generalize H1 = H at hP hS ⊢
  have hP : va_P (dC, dI) rfCl [(h0, .inr (4, [.ref q1, .ref q2, .ref q3, .ref r6, .ref r7, .null, .null, .null, .int 0, .int 0, .int 0, .int 0, .int 0, .int 0])), (a1, .inl (cA1, (384, .inl (fun _ => 0)))), (a2, .inl (cA2, (384, .inl (fun _ => 0)))), (a3, .inl (cA3, (96, .inl (fun _ => 0)))), (a4, .inl (cA4, (96, .inl (fun _ => 0)))), (a5, .inl (cA5, (96, .inl (fun _ => 0)))), (a6, .inl (cA6, (64, .inl (fun _ => 0)))), (a7, .inl (cA7, (64, .inl (fun _ => 0)))), (a8, .inl (cA8, (64, .inl (fun _ => 0))))] H := hP.sub [0, 1, 2, 3, 4, 5, 6, 7, 9] rfl
  have hD : va_D A [(h0, .inr (4, [.ref q1, .ref q2, .ref q3, .ref r6, .ref r7, .null, .null, .null, .int 0, .int 0, .int 0, .int 0, .int 0, .int 0])), (a1, .inl (cA1, (384, .inl (fun _ => 0)))), (a2, .inl (cA2, (384, .inl (fun _ => 0)))), (a3, .inl (cA3, (96, .inl (fun _ => 0)))), (a4, .inl (cA4, (96, .inl (fun _ => 0)))), (a5, .inl (cA5, (96, .inl (fun _ => 0)))), (a6, .inl (cA6, (64, .inl (fun _ => 0)))), (a7, .inl (cA7, (64, .inl (fun _ => 0)))), (a8, .inl (cA8, (64, .inl (fun _ => 0))))] := hD.sub [0, 1, 2, 3, 4, 5, 6, 7, 9] (by decide) rfl
  refine W.widen (k := 19) (n := 1265) (by omega) (by omega) ?_
  rw [hAe] at hD
  intro T hT X
  refine ⟨_, Steps.refl _, ?_⟩
  show n0 + 1210 ≤ T.slotsUsed
  have hn := rf_nodup _ hD
  have hu := rf_used X [(a1, 384), (a2, 384), (a3, 96), (a4, 96), (a5, 96), (a6, 64), (a7, 64), (a8, 64)] ?_ (List.nodup_cons.mp hn).2
  · have he : (([(a1, 384), (a2, 384), (a3, 96), (a4, 96), (a5, 96), (a6, 64), (a7, 64), (a8, 64)] : List (Nat × Nat)).map (fun a => a.2)).sum = 1248 := rfl
    rw [he] at hu
    omega
  · intro a ha
    rw [hT]
    simp only [List.mem_cons, List.not_mem_nil, or_false] at ha
    rcases ha with rfl | rfl | rfl | rfl | rfl | rfl | rfl | rfl
    · exact ⟨rf_new hD rfl 1 rfl (by decide), rf_arr hP 1 rfl⟩
    · exact ⟨rf_new hD rfl 2 rfl (by decide), rf_arr hP 2 rfl⟩
    · exact ⟨rf_new hD rfl 3 rfl (by decide), rf_arr hP 3 rfl⟩
    · exact ⟨rf_new hD rfl 4 rfl (by decide), rf_arr hP 4 rfl⟩
    · exact ⟨rf_new hD rfl 5 rfl (by decide), rf_arr hP 5 rfl⟩
    · exact ⟨rf_new hD rfl 6 rfl (by decide), rf_arr hP 6 rfl⟩
    · exact ⟨rf_new hD rfl 7 rfl (by decide), rf_arr hP 7 rfl⟩
    · exact ⟨rf_new hD rfl 8 rfl (by decide), rf_arr hP 8 rfl⟩
def rf_P6 (n0 : Nat) : Array Value → State → Prop := fun a U => ∃ h0 : Nat, a = [Value.ref h0].toArray ∧ n0 ≤ U.slotsUsed ∧ rf_N U
set_option maxHeartbeats 4000000 in
set_option maxRecDepth 100000 in
/-- Splitpointer(), into its first TableFile() -/
theorem rf_sp (l : Launch) (n0 : Nat) :
    ∀ p e s m args below meth c s₁, BodyLoose p l yX6_init (headSpec (rfW yX6_init cX6_init 1 none) rf_rm6) cX6_init 1 none e s m args below meth c s₁ → c.maxLocals = 1 → rf_P6 n0 args s →
      W p l e rf_rm6 s m args below meth c s.heap [] 0 0 (rf_Big n0) (entryFrame m args 1) := by
  intro p e s m args below meth c s₁ B hml hv
  obtain ⟨h0, rfl, hn0, hN⟩ := hv
  have hx := B.exec
  have hb := B.bytes
  have hr := B.returns
  have hts0 := atoms_spec (ws := rfW yX6_init cX6_init 1 none) B.pre
  have hts := fun (w : Cond) (h : w ∈ rfT) => hts0 w (List.mem_cons_of_mem _ h)
  have hown : s.vm.findClass RX6 = some m.cls := findClass_of_methodNamed B.named
  have hlocks := B.notSynchronized
  have hin : meth.name = "<init>" := (name_of_methodNamed B.named B.method).1
  obtain ⟨dC, dI, hK⟩ := rf_known hts
  have hA : ∀ q : Nat, s.heap.size ≤ q → (fun q : Nat => s.heap.size ≤ q) q := fun _ h => h
  have hS : va_S (fun q : Nat => s.heap.size ≤ q) s.heap s.heap [] := va_S.rf
  have hP : va_P (dC, dI) rfCl [] s.heap := fun k q h => by simp at h
  have hD : va_D (fun q : Nat => s.heap.size ≤ q) [] := ⟨fun i j p q h => by simp at h, fun k q h => by simp at h⟩
  have hl := lv_entry ([.ref h0]) (n := 1) (Nat.le_of_ble_eq_true rfl)
  rw [lg_entry_eq]
  generalize (lg_sl ([.ref h0]) ++ List.replicate (1 - (lg_sl ([.ref h0])).length) Slot.unset).toArray = ls at hl ⊢
  have hl : lv_has ls 1 [(0, .ref h0)] := hl
  refine lv_aload_n hx hb dX6_init_0 rfl (lv_at hl 0 rfl) ?_
  refine W.objInit hx hb hown (hts _ k_oi_X6) (hts _ k_oi_i) (hts _ k_oi_c) rfl (by rw [hml]; exact hl.1) rfl dX6_init_1 (Nat.le_of_ble_eq_true rfl) (Nat.le_of_ble_eq_true rfl) ?_
  refine W.eq (g2 := F0 m 4 ls []) rfl ?_
  refine lv_aload_n hx hb dX6_init_4 rfl (lv_at hl 0 rfl) ?_
  have h_1 : 0 + 1 ≤ 200 := by decide
  have h_2 : 0 + 14 ≤ 10000 := by decide
  refine va_new (ci := 4) (fs := [.null, .null, .null, .null, .null, .null, .null, .null, .int 0, .int 0, .int 0, .int 0, .int 0, .int 0]) (C := RX5) (T := TX5) (N := 14) hx hb hts inX5 tyX5 tyX5_ok hown (hts _ k_cl_X6_7) (hts _ k_able_X5) (hts _ k_ini_X5) hK hP hD hS hA rfl (fun j hj => by rcases (show j = 0 ∨ j = 1 ∨ j = 2 ∨ j = 3 ∨ j = 4 ∨ j = 5 ∨ j = 6 ∨ j = 7 ∨ j = 8 ∨ j = 9 ∨ j = 10 ∨ j = 11 ∨ j = 12 ∨ j = 13 by omega) with rfl | rfl | rfl | rfl | rfl | rfl | rfl | rfl | rfl | rfl | rfl | rfl | rfl | rfl <;> rfl) h_1 h_2 dX6_init_5 (fun q H hP hD hS => ?_)
  have hP : va_P (dC, dI) rfCl [(q, .inr (4, [.null, .null, .null, .null, .null, .null, .null, .null, .int 0, .int 0, .int 0, .int 0, .int 0, .int 0]))] H := hP
  have hD : va_D (fun q : Nat => s.heap.size ≤ q) [(q, .inr (4, [.null, .null, .null, .null, .null, .null, .null, .null, .int 0, .int 0, .int 0, .int 0, .int 0, .int 0]))] := hD
  refine lv_dup hx hb dX6_init_8 rfl ?_
  intro T hT X
  have hpl : e.platform.magicAccessors = ({} : Platform).magicAccessors := by rw [X.admits.platform]
  obtain ⟨mk, methM, cM, kP, vm₁, hnamed, hmethM, hcodeM, -, hlocalsM, -, hkP, -, hW₁, hstep₁⟩ := Steps.initColdArgsNest (e := e) (maxL := 1) (bytes := cX5_init) X.here hx X.warmed hpl hown (t := yX5_init) rfl (by decide) (va_Nw.use (A := [Value.ref h0].toArray) rfl hN.1) (hts _ k_inst_X5) (hts _ k_code_X5) (f := F0 m 9 ls [.ref q, .ref q, .ref h0]) (a := q) (argsL := []) (rest := [.ref q, .ref h0]) rfl (fun sig h => by cases h; rfl) rfl (by rw [hb]; exact dX6_init_9)
  have X₁ := X.noted hW₁
  have hu0 : s.slotsUsed ≤ T.slotsUsed := rf_used0 X
  obtain ⟨t, ht, hq⟩ := rf_into X₁ (g := F0 m 9 ls [.ref q, .ref h0]) rfl (by rw [hml]; exact hl.1) (by rw [hb]; exact dX6_init_9) (lv_room (rest := [.ref q, .ref h0]) (Nat.le_of_ble_eq_true rfl)) (X₁.named hnamed) (a := (Value.ref q :: []).toArray) (ws := rfW yX5_init cX5_init 1 none) (rm := rf_rm5) rfl
    (pay_in hts (rf_good k_code_X5)) (fun a' U hW => word_at hW (Or.inl (by first | rfl | simp [Cond.onTables, Cond.keeps, Cond.steady])) (hts _ k_ini_X5))
    (by decide) (by decide) (by decide) (by decide) (Pc := rf_P5 dC dI q n0)
    ⟨rfl, Nat.le_trans hn0 hu0, (show va_P (dC, dI) rfCl [(q, .inr (4, [.null, .null, .null, .null, .null, .null, .null, .null, .int 0, .int 0, .int 0, .int 0, .int 0, .int 0]))] T.heap by rw [hT]; exact hP), va_K.moved (u := s) (U := (T.setVm vm₁).calling (F0 m 9 ls [.ref q, .ref h0]) mk (Value.ref q :: []).toArray) hW₁.alike hK, hD.weaken (fun _ _ _ _ => trivial), rf_N.warm hW₁ hN⟩
    (rf_body (y := yX5_init) (Q := rf_Big n0) (by decide) rfl (rf_tf l dC dI q n0))
  exact ⟨t, hstep₁ _ fun acts => by rw [doInvoke_state]; exact ht, hq⟩
def rf_PL (n0 : Nat) : Array Value → State → Prop := fun a U => ∃ b : Nat, a = [Value.ref b].toArray ∧ n0 = U.slotsUsed
set_option maxHeartbeats 4000000 in
set_option maxRecDepth 100000 in
/-- the law, into 'new Splitpointer()' -/
theorem rf_law (l : Launch) (n0 : Nat) :
    ∀ p e s m args below meth c s₁, BodyLoose p l x (headSpec (Cond.code x code maxLocals ret :: tables_1) rf_rmL) code maxLocals ret e s m args below meth c s₁ → c.maxLocals = maxLocals → rf_PL n0 args s →
      W p l e rf_rmL s m args below meth c s.heap [] 0 0 (rf_Big n0) (entryFrame m args maxLocals) := by
  intro p e s m args below meth c s₁ B hml hv
  obtain ⟨b, rfl, hn0⟩ := hv
  have hx := B.exec
  have hb := B.bytes
  have hts0 := atoms_spec (ws := Cond.code x code maxLocals ret :: tables_1) B.pre
  have hts := fun (w : Cond) (h : w ∈ rfT) => hts0 w (List.mem_cons_of_mem _ (rf_in1 h))
  have hN : rf_N s := ⟨va_Nw.of rfl (hts0 _ (List.mem_cons_of_mem _ k_nest_X6_9)), va_Nw.of rfl (hts0 _ (List.mem_cons_of_mem _ k_nest_X5_11)), va_Nw.of rfl (hts0 _ (List.mem_cons_of_mem _ k_nest_X5_20)), va_Nw.of rfl (hts0 _ (List.mem_cons_of_mem _ k_nest_X5_27))⟩
  have hown : s.vm.findClass rf_RL = some m.cls := findClass_of_methodNamed B.named
  have hml6 : c.maxLocals = 6 := hml
  have hl := lv_entry ([.ref b]) (n := 6) (Nat.le_of_ble_eq_true rfl)
  refine W.eq (lg_entry_eq m [.ref b] 6) ?_
  generalize (lg_sl ([.ref b]) ++ List.replicate (6 - (lg_sl ([.ref b])).length) Slot.unset).toArray = ls at hl ⊢
  have hl : lv_has ls 6 [(0, .ref b)] := hl
  refine W.newc hx hb hown (hts _ k_cl_L_9) (hts _ k_able_X6) (hts _ k_ini_X6) rfl dL_law_0 (by decide) (by decide) (fun cC kC h1 h2 h3 h4 => ?_)
  refine W.eq (g2 := F0 m 3 ls [.ref s.heap.size]) rfl ?_
  refine lv_dup hx hb dL_law_3 rfl ?_
  intro T hT X
  have hpl : e.platform.magicAccessors = ({} : Platform).magicAccessors := by rw [X.admits.platform]
  obtain ⟨mk, methM, cM, kP, vm₁, hnamed, hmethM, hcodeM, -, hlocalsM, -, hkP, -, hW₁, hstep₁⟩ := Steps.initColdArgs (e := e) (maxL := 1) (bytes := cX6_init) X.here hx X.warmed hpl hown (t := yX6_init) rfl (by decide) (hts _ k_ml_L) (hts _ k_inst_X6) (hts _ k_code_X6) (f := F0 m 4 ls [.ref s.heap.size, .ref s.heap.size]) (a := s.heap.size) (argsL := []) (rest := [.ref s.heap.size]) rfl (fun sig h => by cases h; rfl) rfl (by rw [hb]; exact dL_law_4)
  have X₁ := X.noted hW₁
  have hu0 : s.slotsUsed ≤ T.slotsUsed := rf_used0 X
  obtain ⟨t, ht, hq⟩ := rf_into X₁ (g := F0 m 4 ls [.ref s.heap.size]) rfl (by rw [hml6]; exact hl.1) (by rw [hb]; exact dL_law_4) (lv_room (rest := [.ref s.heap.size]) (Nat.le_of_ble_eq_true rfl)) (X₁.named hnamed) (a := (Value.ref s.heap.size :: []).toArray) (ws := rfW yX6_init cX6_init 1 none) (rm := rf_rm6) rfl
    (pay_in hts (rf_good k_code_X6)) (fun a' U hW => word_at hW (Or.inl (by first | rfl | simp [Cond.onTables, Cond.keeps, Cond.steady])) (hts _ k_ini_X6))
    (by decide) (by decide) (by decide) (by decide) (Pc := rf_P6 n0)
    ⟨s.heap.size, rfl, by rw [hn0]; exact hu0, rf_N.warm hW₁ hN⟩
    (rf_body (y := yX6_init) (Q := rf_Big n0) (by decide) rfl (rf_sp l n0))
  exact ⟨t, hstep₁ _ fun acts => by rw [doInvoke_state]; exact ht, hq⟩
