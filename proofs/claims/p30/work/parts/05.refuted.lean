theorem rf_within (tb : Tables) (e : Env) (below : List Frame) (s t : State) (n0 n : Nat) (o : Outcome) (h : Steps tb e below s t) (hb : rf_Big n0 t) (hend : Ended (stepsAlone tb e n s) below o) : n0 + 1210 ≤ (stepsAlone tb e n s).slotsUsed := by
  obtain ⟨k, hk, hw⟩ := h
  rcases Nat.lt_or_ge n k with hlt | hge
  · exact absurd (hw n hlt) hend.not_within
  · have h1 := (stepsAlone_heap_grows_add tb e k (n - k) s).2
    rw [show k + (n - k) = n by omega, hk] at h1
    exact Nat.le_trans hb h1
/-- a machine with more heap -/
def rf_e (e0 : Env) (a b : Nat) : Env := { e0 with platform := { e0.platform with maxCells := a + e0.platform.maxCells, maxSlots := b + e0.platform.maxSlots } }
theorem rf_admits {l : Launch} {e0 : Env} (a b : Nat) (h : l.admits e0) : l.admits (rf_e e0 a b) := by
  obtain ⟨d1, d2, d3, d4, d5, d6, d7, d8, d9, d10, d11, d12, d13, d14, d15, d16, d17⟩ := h
  exact ⟨d1, d2, d3, d4, congrArg (fun P : Platform => { P with maxCells := a + e0.platform.maxCells, maxSlots := b + e0.platform.maxSlots }) d5, d6, Nat.le_trans d7 (Nat.le_add_left _ _), Nat.le_trans d8 (Nat.le_add_left _ _), d9, d10, d11, d12, d13, d14, d15, d16, d17⟩
theorem rf_room {s : State} {e0 : Env} {r0 r : Room} (h0 : s.hasRoom e0.platform r0 = true) (r1 : r.frames = r0.frames) (r2 : r.locals = r0.locals) (r3 : r.cells ≤ 100000) (r4 : r.slots ≤ 100000) : s.hasRoom (rf_e e0 (s.heap.size + 100000) (s.slotsUsed + 100000)).platform r = true := by
  have hb0 := State.hasRoom_plain h0
  have h9 := State.hasRoom_stack h0
  have h8 := State.hasRoom_real h0
  have ht : s.slotsTrue = true := by
    simp only [State.hasRoom, Bool.and_eq_true] at h0
    exact h0.2
  refine State.hasRoom_of hb0 ?_ ?_ ?_ ?_ ht ?_
  · rw [r1]; exact h9.1
  · rw [r2]; exact h9.2.2.1
  · show s.heap.size + r.cells ≤ s.heap.size + 100000 + e0.platform.maxCells
    omega
  · show s.slotsUsed + r.slots ≤ s.slotsUsed + 100000 + e0.platform.maxSlots
    omega
  · rw [r2]; exact h8
theorem rf_app {ts : List Cond} {r r' : Room} {x : MethodName} {pl pl' : Platform} {s : State} {m : MethodId} {args : Array Value} {below : List Frame} (hf : s.frames = .invoking m args :: below) (h : (headSpec ts r).applies x pl s = true) (hr : s.hasRoom pl' r' = true) : (headSpec ts r').applies x pl' s = true := by
  obtain ⟨q1, q2, q3, q4, q5, q6, q7, q8⟩ := (Spec.applies_iff hf).mp h
  exact (Spec.applies_iff hf).mpr ⟨q1, q2, q3, q4, q5, q6, hr, q8⟩
theorem rf_roomOf {ts : List Cond} {r : Room} {x : MethodName} {pl : Platform} {s : State} {m : MethodId} {args : Array Value} {below : List Frame} (hf : s.frames = .invoking m args :: below) (h : (headSpec ts r).applies x pl s = true) : s.hasRoom pl r = true ∧ s.goesOn := by
  obtain ⟨q1, q2, q3, q4, q5, q6, q7, q8⟩ := (Spec.applies_iff hf).mp h
  exact ⟨q7, q1, q2, q3⟩
theorem rf_args {args : Array Value} {s : State} (hpre : (Cond.and given_1 narrow_1).before args s = true) (hrest : rest_1_c.before args s = true) : ∃ b : Nat, args = [Value.ref b].toArray := by
  have hs := flat_of_before _ hpre
  have hq := flat_of_before _ hrest
  have hc : (Cond.count 1).before args s = true := hs _ (by decide +kernel)
  have harr : (Cond.arrayOf (.arg 0) .int).before args s = true := hs _ (by decide +kernel)
  have hlen : (Cond.isInt (.length (.arg 0))).before args s = true := hq _ (by decide +kernel)
  have hall : (Cond.all (.arg 0) (.isInt (.elem (.arg 0) (.index 0)))).before args s = true := hq _ (by decide +kernel)
  obtain ⟨b, xs, hb, hx⟩ := State.ints_of_pre rfl harr hlen hall
  exact ⟨b, Cond.one_arg hc (show args[0]? = some (.ref b) from hb)⟩
theorem rf_frame {s t : State} {o : Outcome} {L : List Loc} {k n : Nat} (h : Framed s o t L k n) : t.slotsUsed ≤ s.slotsUsed + n := by
  obtain ⟨-, -, h3⟩ := h
  have h4 : t.slotsUsed = s.slotsUsed + _ := h3.2.2.2.1
  have h5 := h3.2.2.2.2.1
  rw [h4]
  exact Nat.add_le_add_left h5 _
/-- from a start of the law, on a machine with more heap: 'new Splitpointer()' makes 1210 slots and more -/
theorem rf_start {l : Launch} {p : Program} {e : Env} {s : State} {m : MethodId} {args : Array Value} {below : List Frame} (ha : l.admits e) (hcas : FairCas e.choices) (hclk : FairClock e.choices) (hf : s.frames = .invoking m args :: below)
    (happ : (headSpec (Cond.code x code maxLocals ret :: tables_1) rf_rmL).applies x e.platform s = true) (hargs : ∃ b : Nat, args = [Value.ref b].toArray) : ∃ t, Steps p.tables e below s t ∧ rf_Big s.slotsUsed t := by
  obtain ⟨b, hb⟩ := hargs
  obtain ⟨t, hst, hbig⟩ := rf_body (y := x) (ws := Cond.code x code maxLocals ret :: tables_1) (rm := rf_rmL) (Pc := rf_PL s.slotsUsed) (Q := rf_Big s.slotsUsed) (by decide) rfl (rf_law l s.slotsUsed) p e ha hcas hclk s m args below hf ((Spec.applies_iff_loose hf).mp happ).1 ⟨b, hb, rfl⟩
  exact ⟨t, Steps.head (rf_roomOf hf happ).2 ⟨[.invoking m args], hf, by simp, by simp⟩ hst, hbig⟩
/-- THE REFUTATION: where a start is there that the Statement's witness promises, the first limb of the claim is false: 'new Splitpointer()', the law's first act, makes more than the 1209 slots that the claim's frame allows -/
theorem p30_refuted (hw : WitnessClaimed_1) : ¬ Claimed_1_1 := by
  intro hC
  obtain ⟨p, e0, s, m, args, below, hL, hWd, had, hleast, hcas, hclk, hf, hargs, hheap, happ, hcalls, hrest, hpre⟩ := hw
  have hroom0 := (rf_roomOf hf happ).1
  have had9 := rf_admits (s.heap.size + 100000) (s.slotsUsed + 100000) had
  have hroom1 := rf_room (r := room_1) hroom0 rfl rfl (Nat.le_of_ble_eq_true rfl) (Nat.le_of_ble_eq_true rfl)
  have hroomL := rf_room (r := rf_rmL) hroom0 rfl rfl (Nat.le_of_ble_eq_true rfl) (Nat.le_of_ble_eq_true rfl)
  obtain ⟨t, hst, hbig⟩ := rf_start (p := p) had9 hcas hclk hf (rf_app hf happ hroomL) (rf_args hpre hrest)
  obtain ⟨n, o, hwithin, hrun, hend, hpost, hfr⟩ := hC launch0 rfl hL hWd p _ had9 hcas hclk s m args below hf hargs hheap (rf_app hf happ hroom1) ⟨hcalls, hrest, hpre⟩
  have h1 := rf_within p.tables _ below s t s.slotsUsed n o hst hbig hend
  have h2 := rf_frame hfr
  omega
