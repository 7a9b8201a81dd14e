/-! the walk of a body that doesn't end: from an invocation to any state on its way; sums of slots -/
theorem rf_weaken {tb : Tables} {e : Env} {mid below : List Frame} {s t : State} (h : Steps tb e (mid ++ below) s t) : Steps tb e below s t := by
  obtain ⟨n, hn, hw⟩ := h
  exact ⟨n, hn, fun k hk => (hw k hk).weaken⟩
theorem rf_set : ∀ (L : List Nat) (i n : Nat), L[i]? = some n → (L.set i 0).sum + n = L.sum
  | [], i, n, h => by simp at h
  | x :: L, 0, n, h => by
    have e : x = n := by simpa using h
    subst e
    simp only [List.set_cons_zero, List.sum_cons]
    omega
  | x :: L, i + 1, n, h => by
    have h1 := rf_set L i n (by simpa using h)
    simp only [List.set_cons_succ, List.sum_cons]
    omega
theorem rf_sum : ∀ (is : List (Nat × Nat)) (L : List Nat), (∀ i ∈ is, L[i.1]? = some i.2) → (is.map (fun i => i.1)).Nodup → (is.map (fun i => i.2)).sum ≤ L.sum
  | [], L, _, _ => Nat.zero_le _
  | (i, n) :: is, L, h, hd => by
    have h0 : L[i]? = some n := h (i, n) List.mem_cons_self
    rw [List.map_cons, List.nodup_cons] at hd
    have h1 := rf_sum is (L.set i 0) (fun j hj => by
      have hm : j.1 ∈ is.map (fun i : Nat × Nat => i.1) := List.mem_map_of_mem (f := fun i : Nat × Nat => i.1) hj
      have hne : i ≠ j.1 := fun q => hd.1 (by rw [q]; exact hm)
      rw [List.getElem?_set_ne hne]
      exact h j (List.mem_cons_of_mem _ hj)) hd.2
    have h2 := rf_set L i n h0
    rw [List.map_cons, List.sum_cons]
    omega
section RFB
variable {p : Program} {l : Launch} {e : Env} {R : Room} {s : State} {m : MethodId} {args : Array Value} {below : List Frame} {meth : Method} {c : Code} {T : State} {locs : List Loc} {cells slots : Nat}
theorem rf_used0 (X : Stand p l e R s m args below meth c T locs cells slots) : s.slotsUsed ≤ T.slotsUsed := by
  have h4 : T.slotsUsed = s.slotsUsed + _ := X.same.2.2.2.1
  rw [h4]
  exact Nat.le_add_right _ _
/-- different new cells count in the book of slots -/
theorem rf_used (X : Stand p l e R s m args below meth c T locs cells slots) (as : List (Nat × Nat)) (h1 : ∀ a ∈ as, s.heap.size ≤ a.1 ∧ ∃ cell : Cell, T.heap[a.1]? = some cell ∧ cell.slots.size = a.2) (h2 : (as.map (fun a => a.1)).Nodup) :
    s.slotsUsed + (as.map (fun a => a.2)).sum ≤ T.slotsUsed := by
  have h4 : T.slotsUsed = s.slotsUsed + ((T.heap.toList.drop s.heap.size).map (fun x : Cell => x.slots.size)).sum := X.same.2.2.2.1
  rw [h4]
  refine Nat.add_le_add_left ?_ _
  have h5 := rf_sum (as.map (fun a => (a.1 - s.heap.size, a.2))) ((T.heap.toList.drop s.heap.size).map (fun x : Cell => x.slots.size)) ?_ ?_
  · rw [List.map_map] at h5
    exact h5
  · intro i hi
    obtain ⟨a, ha, rfl⟩ := List.mem_map.mp hi
    obtain ⟨hge, cell, hc, hs⟩ := h1 a ha
    have e1 : s.heap.size + (a.1 - s.heap.size) = a.1 := by omega
    rw [List.getElem?_map, List.getElem?_drop]
    show Option.map _ (T.heap.toList[s.heap.size + (a.1 - s.heap.size)]?) = _
    rw [e1, Array.getElem?_toList, hc]
    exact congrArg some hs
  · rw [List.map_map]
    have h6 : ∀ (as : List (Nat × Nat)), (∀ a ∈ as, s.heap.size ≤ a.1) → (as.map (fun a => a.1)).Nodup → (as.map ((fun i : Nat × Nat => i.1) ∘ fun a => (a.1 - s.heap.size, a.2))).Nodup := by
      intro as
      induction as with
      | nil => intro _ _; exact List.nodup_nil
      | cons x as ih =>
        intro hg hn
        rw [List.map_cons, List.nodup_cons] at hn ⊢
        refine ⟨fun hm => hn.1 ?_, ih (fun a ha => hg a (List.mem_cons_of_mem _ ha)) hn.2⟩
        obtain ⟨y, hy, hxy⟩ := List.mem_map.mp hm
        have hy1 := hg y (List.mem_cons_of_mem _ hy)
        have hx1 := hg x List.mem_cons_self
        have hxy' : y.1 - s.heap.size = x.1 - s.heap.size := hxy
        have e2 : y.1 = x.1 := by omega
        rw [← e2]
        exact List.mem_map_of_mem (f := fun a : Nat × Nat => a.1) hy
    exact h6 as (fun a ha => (h1 a ha).1) h2
end RFB
/-- the way into a body, as far as one goes (after the library's Free/Laws.lean, MetFree.of_bodySF) -/
theorem rf_body {l : Launch} {y : MethodName} {ws ws' : List Cond} {rm : Room} {cc : ByteArray} {maxL : Nat} {ret : Option FieldType} {Pc : Array Value → State → Prop} {Q : State → Prop}
    (hy : plainName y.cls = true) (hw : ws = Cond.code y cc maxL ret :: ws')
    (body : ∀ p e s m args below meth c s₁, BodyLoose p l y (headSpec ws rm) cc maxL ret e s m args below meth c s₁ → c.maxLocals = maxL → Pc args s →
      W p l e rm s m args below meth c s.heap [] 0 0 Q (entryFrame m args maxL)) :
    ∀ (p : Program) (e : Env), l.admits e → FairCas e.choices → FairClock e.choices → ∀ (s : State) (m : MethodId) (args : Array Value) (below : List Frame),
      s.frames = .invoking m args :: below → (headSpec ws rm).appliesLoose y e.platform s = true → Pc args s →
      ∃ t, Steps p.tables e below (stepThread p.tables e s).1 t ∧ Q t := by
  intro p e ha hc hk s m args below hf happ hP
  obtain ⟨hrun, hable, halone, hname, hhears, hinit, hroom, hpre⟩ := (Spec.appliesLoose_iff hf).mp happ
  obtain ⟨meth, c, hmeth, hcode, hbytes, hlocals, hret, hlocks, -, -⟩ := Cond.code_spec hname (atoms_spec (ws := ws) hpre _ (by rw [hw]; exact List.mem_cons_self))
  have hcur := State.cur_lt_of_frames hf
  have hf1 : (s.setFrames (.java (entryFrame m args maxL) :: below)).frames = .java (entryFrame m args maxL) :: below :=
    State.frames_setFrames _ hcur
  have ht1 := State.topJava?_of_frames hf1
  have hplain : (s.setFrames (.java (entryFrame m args maxL) :: below)).plainMethod m := State.plainMethod.of_named (s := s) (plainFor_of_name hy) hname hmeth
  have hAt : At (s.setFrames (.java (entryFrame m args maxL) :: below)) m c below :=
    ⟨by rw [ht1]; rfl, ⟨[], by rw [hf1]; rfl⟩, hrun, by simpa using hable, by simpa using halone,
      by rw [State.code?_eq]; simp [State.setFrames, hmeth, hcode], hplain⟩
  have hstep : (stepThread p.tables e s).1 = (s.setFrames (.java (entryFrame m args maxL) :: below)).setTop (entryFrame m args maxL) := by
    have hfull : e.platform.stackFull (s.setFrames below).me (s.setFrames below).frames c.maxLocals = false := by
      obtain ⟨-, h1, -, h2⟩ := State.hasRoom_stack hroom
      rw [hf, List.length_cons] at h1
      rw [State.localsInUse_invoking hf hmeth hcode] at h2
      have hw := stackUse_le_stackWeight below
      rw [State.frames_setFrames _ hcur]
      exact Platform.stackFull_eq_false (by rw [State.stackLimits_setFrames]; omega) (by rw [State.stackLimits_setFrames]; omega)
    rw [stepThread_invoking hf, (doInvoke_java (s := s.setFrames below) (e := e) (meth := meth) (code := c) hmeth hcode hlocks hfull).1, State.setTop_self ht1]
    simp only [State.pushFrame, State.frames_setFrames _ hcur, State.setFrames_setFrames, hlocals, entryFrame]
  have B : BodyLoose p l y (headSpec ws rm) cc maxL ret e s m args below meth c (s.setFrames (.java (entryFrame m args maxL) :: below)) :=
    ⟨ha, hc, hk, by cases p <;> rfl, hf, hname, hhears, hinit, hroom, hpre, hmeth, hret, hlocks, hbytes, rfl, hAt⟩
  obtain ⟨t, ht, hq⟩ := body p e s m args below meth c _ B hlocals hP (s.setFrames (.java (entryFrame m args maxL) :: below)) rfl (Stand.of_body B)
  exact ⟨t, hstep ▸ ht, hq⟩
section RFI
variable {p : Program} {l : Launch} {e : Env} {R : Room} {s : State} {m : MethodId} {args : Array Value} {below : List Frame} {meth : Method} {c : Code} {U : State} {locs : List Loc} {cells slots : Nat}
/-- a call that one goes into, and not back (after kit/laws/EXCEPTIONS, vx_back, and the library's Steps.callFree) -/
theorem rf_into (X : Stand p l e R s m args below meth c U locs cells slots) {g : JFrame} (hg : g.method = m) (hsize : g.locals.size = c.maxLocals) {ig : Instr} {len : Nat} (hdg : decode c.code g.pc = .ok (ig, len)) (hW : 2 * g.monitorRoom + (g.stack.map fun v => v.category).sum ≤ 8)
    {y : MethodName} {mk : MethodId} (hn : U.methodNamed? y = some mk) {a : Array Value} {ws ws' : List Cond} {rm : Room} {bytes : ByteArray} {maxL : Nat} {ret : Option FieldType} (hw : ws = Cond.code y bytes maxL ret :: ws')
    (hgood : ∀ w ∈ ws, ∀ (a' : Array Value) (U' : State), s.WarmedH U'.vm → w.before a' U' = true) (hinit : ∀ (a' : Array Value) (U' : State), s.WarmedH U'.vm → (Cond.initialized y.cls).before a' U' = true)
    (hframes : rm.frames + 1 ≤ R.frames) (hlocals : 8 + (maxL + 11) + rm.locals ≤ R.locals) (hcells : cells + rm.cells ≤ R.cells) (hslots : slots + rm.slots ≤ R.slots) {Pc : Array Value → State → Prop} {Q : State → Prop} (hPc : Pc a (U.calling g mk a))
    (hB : ∀ (p : Program) (e : Env), l.admits e → FairCas e.choices → FairClock e.choices → ∀ (s : State) (m : MethodId) (args : Array Value) (below : List Frame),
      s.frames = .invoking m args :: below → (headSpec ws rm).appliesLoose y e.platform s = true → Pc args s → ∃ t, Steps p.tables e below (stepThread p.tables e s).1 t ∧ Q t) :
    ∃ t, Steps p.tables e below (doInvoke e (U.setTop g) [] mk a).1 t ∧ Q t := by
  have h1 : (headSpec ws rm).pre.before a U = true := atoms_intro fun w hw => hgood w hw _ _ X.warmed
  have h2 : (Cond.code y bytes maxL ret).before a U = true := hgood _ (by rw [hw]; exact List.mem_cons_self) _ _ X.warmed
  have h3 : (Cond.initialized y.cls).before a U = true := hinit _ _ X.warmed
  obtain ⟨methY, cY, hmY, hcY, -, hlY, -, -, -, -⟩ := Cond.code_spec hn h2
  obtain ⟨kY, hkY, -⟩ := className_of_methodNamed hn
  have hinitY : kY.init = .initialized := Cond.initialized_spec (findClass_of_methodNamed hn) hkY h3
  have h : At U g.method c below := by rw [hg]; exact X.here
  have happ : (headSpec ws rm).appliesLoose y e.platform (U.calling g mk a) = true :=
    Spec.appliesLoose_calling (g := g) h hdg hn hkY hinitY
      (X.room_calling (g := g) (R' := rm) hsize hmY hcY hframes (by rw [hlY]; omega) hcells hslots) h1
  obtain ⟨mid, hmid⟩ := h.above
  have hfr : (U.setTop g).frames = (.java g :: mid) ++ below := by rw [State.frames_setTop' g h.top, hmid]; rfl
  have key : ∀ S : State, (headSpec ws rm).appliesLoose y e.platform (S.pushFrame (.invoking mk a)) = true → ∃ t0, S.threads[S.cur]? = some t0 := by
    intro S happ
    cases h9 : S.threads[S.cur]? with
    | some t0 => exact ⟨t0, rfl⟩
    | none =>
      have h8 : (S.pushFrame (.invoking mk a)).frames = [] := by
        simp [State.frames, State.pushFrame, State.setFrames, Array.getElem?_modify, h9]
      simp [Spec.appliesLoose, h8] at happ
  obtain ⟨t0, ht0⟩ := key (U.setTop g) happ
  have hlt : (U.setTop g).cur < (U.setTop g).threads.size := (Array.getElem?_eq_some_iff.mp ht0).1
  have hf' : (U.calling g mk a).frames = .invoking mk a :: (U.setTop g).frames := State.frames_setFrames _ hlt
  obtain ⟨t, hst, hq⟩ := hB p e X.admits X.cas X.clock (U.calling g mk a) mk a (U.setTop g).frames hf' happ hPc
  have hstep : (stepThread p.tables e (U.calling g mk a)).1 = (doInvoke e (U.setTop g) [] mk a).1 := by
    rw [stepThread_invoking hf', State.calling, State.pushFrame, State.setFrames_setFrames, State.setFrames_self ht0]
  rw [hstep, hfr] at hst
  exact ⟨t, rf_weaken hst, hq⟩
end RFI
