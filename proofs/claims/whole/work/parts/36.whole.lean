/-! THE CLAIM OUT OF ONE WALK OF THE LAW'S BODY. Your part is whole_start (and what it stands on); all else here is the same for every law, but numbers. -/
def R_law : String := "RepairGroupsLaw"
def lw_P (b : Addr) (xs : List Int32) (args : Array Value) (s : State) : Prop := args = #[.ref b] ∧ s.IntsAt b xs ∧ xs.length ≤ 3072 ∧ (Jvm.Cond.and given_1 narrow_1).before args s = true
def lw_Q (_ : Array Value) (s : State) (o : Outcome) (t : State) : Prop := o = .returned (some (.int 1)) ∧ Framed s o t [] 600000 7302250
def lw_Z (below : List Frame) (a : Array Value) (s : State) : State → Prop := fun t => ∃ o, t.status = .running ∧ Ended t below o ∧ lw_Q a s o t
/-- the law's own end, with 1 on the stack, nothing written that was there before, its room as the claim has it -/
theorem lw_ret {p : Program} {l : Launch} {e : Env} {s : State} {m : MethodId} {below : List Frame} {meth : Method} {c : Code} {b : Nat} (hx : p.tables.exec = Jvm.exec) (hb : c.code = code) (hr : meth.sig.returnType = ret) (hlocks : meth.locks = false) {pc : Nat} {H : Heap} {ls : Array Slot} (hdg : decode code pc = .ok (.ireturn, 1)) : W p l e room_1 s m #[Value.ref b] below meth c H [] 600000 7302250 (lw_Z below #[Value.ref b] s) (F0 m pc ls [.int 1]) := by
  intro T hT X
  obtain ⟨fs, hret, hrun, hended, hW, hframe⟩ := X.leave (v := some (.int 1)) (hlocks := hlocks) (fun h => by rw [hr] at h; cases h)
  have hmeth' : T.vm.method? m = some meth := X.method'
  refine ⟨T.setFrames fs, ?_, .returned (some (.int 1)), hrun, hended, rfl, ⟨_, rfl⟩, hW, hframe⟩
  jvm_step X.here [X.here.top, hx, hb, hdg, hmeth', hr, ret, narrow_b1]
  (try refine ⟨rfl, ?_⟩); (try refine ⟨rfl, ?_⟩)
  first | (intro acts; rw [hret _ acts rfl rfl rfl]) | rw [hret _ _ rfl rfl rfl]
  exact Steps.refl _
/-- what holds at the law's entry: the machine, the code, the tables' words (any of lw_tbl by 'hts w (by decide +kernel)'), the script of L ints xs at the cell b, what the Statement gives of the start (any of its parts by flat_of_before) -/
def lw_At (p : Program) (s : State) (m : MethodId) (meth : Method) (c : Code) (b L : Nat) (xs : Nat → Int32) : Prop :=
  p.tables.exec = Jvm.exec ∧ c.code = code ∧ meth.sig.returnType = ret ∧ c.maxLocals = 4 ∧ s.vm.findClass R_law = some m.cls ∧ (∀ w ∈ lw_tbl, w.before #[Value.ref b] s = true) ∧ va_X b L xs s s.heap ∧ b < s.heap.size ∧ meth.locks = false ∧ (Jvm.Cond.and given_1 narrow_1).before #[Value.ref b] s = true
theorem len_small {args : Array Value} {s : State} {t : Term} {v : Value} (h : (Term.length t).eval args s none [] s = some v) : ∃ (a : Nat) (cell : Cell), t.eval args s none [] s = some (.ref a) ∧ s.arrayAt? a = some cell ∧ cell.slots.size < 2 ^ 31 ∧ v = .int cell.slots.size.toInt32 := by
  obtain ⟨a, cell, ht, hat, hv⟩ := Term.length_spec h
  refine ⟨a, cell, ht, hat, ?_, hv⟩
  simp only [Term.eval, ht, hat, Option.bind_eq_bind, Option.bind_some] at h
  by_cases hlt : cell.slots.size < 2147483648
  · exact hlt
  · simp [hlt] at h
/-- a static table of ints -/
theorem at_tab {args : Array Value} {s : State} {tm : Term} {N : Nat} {f : Nat → Int32} {A : Nat → Prop} (hN : N < 2 ^ 31) (harr : (Cond.arrayOf tm .int).before args s = true) (hlen : (Term.length tm).eval args s none [] s = some (.int (Int32.ofNat N))) (hel : ∀ j : Nat, j < N → (Term.elem tm (.int (Int32.ofNat j))).eval args s none [] s = some (.int (f j))) (hA : ∀ a : Nat, a < s.heap.size → ¬ A a) : ∃ t : Nat, tm.eval args s none [] s = some (.ref t) ∧ va_X t N f s s.heap ∧ t < s.heap.size := by
  obtain ⟨t, ht, cell, h1, h2, h3, h4, h5, h6, h7⟩ := va_Tof (ty := .int) (f := fun j => .int (f j)) hN harr hlen hel hA
  obtain ⟨a, cell2, g1, g2, g3, -⟩ := len_small hlen
  obtain rfl : t = a := Value.ref.inj (Option.some.inj (ht.symm.trans g1))
  obtain ⟨g4, -, -, -⟩ := State.arrayAt?_spec g2
  obtain rfl : cell = cell2 := Option.some.inj (h1.symm.trans g4)
  have hs : cell.slots.size = N := by
    have e : nI cell.slots.size = nI N := h5
    have e1 := i_toInt g3
    have e2 := i_toInt hN
    rw [e] at e1
    omega
  exact ⟨t, ht, ⟨cell, h1, h2, h3, hs, h6⟩, (Array.getElem?_eq_some_iff.mp h1).1⟩
theorem at_arr {s : State} {cA : ClassId} {k : Class} {comp : ClassId} {ty : FieldType} (h1 : s.vm.classes[cA]? = some k) (h2 : k.kind = .array comp ty) : ArrOfT s cA ty := fun n z => ⟨fun k h => (by cases h), k, h1, comp, h2⟩
/-- YOUR PART: from the entry, for every script of at most 3072 ints, the law comes to its end with true ('hflags': the launch's flags, for a law that throws: no stack traces) -/
theorem whole_start {p : Program} {e : Env} {s : State} {m : MethodId} {below : List Frame} {meth : Method} {c : Code} (l : Launch) (hflags : l.flags = flags0) {b L : Nat} {xs : Nat → Int32} (hL : L ≤ 3072) (C0 : lw_At p s m meth c b L xs) : W p l e room_1 s m #[Value.ref b] below meth c s.heap [] 0 0 (lw_Z below #[Value.ref b] s) (entryFrame m ([Value.ref b] : List Value).toArray 4) := by
  obtain ⟨hx, hb, hret, hml, hown, hts, hX, hbl, hlocks, hgv⟩ := C0
  have hs := flat_of_before _ hgv
  have hw : ∀ w ∈ ev_ws, w.before #[Value.ref b] s = true := fun w h => hts w (ev_ws_in w h)
  -- the classes
  have hcl : ∀ c : Nat, ∃ x : ClassId × (Nat → Nat), ∀ q, vwCl[c]? = some q → u_Kn s q.1 q.2.1 q.2.2 x.1 x.2 := by
    intro c
    match c with
    | 0 => obtain ⟨cc, is, h⟩ := u_known hw iw_0 (hw _ ki_X0); exact ⟨(cc, is), fun q hq => by cases hq; exact h⟩
    | 1 => obtain ⟨cc, is, h⟩ := u_known hw iw_1 (hw _ ki_X1); exact ⟨(cc, is), fun q hq => by cases hq; exact h⟩
    | 2 => obtain ⟨cc, is, h⟩ := u_known hw iw_2 (hw _ ki_X2); exact ⟨(cc, is), fun q hq => by cases hq; exact h⟩
    | 3 => obtain ⟨cc, is, h⟩ := u_known hw iw_3 (hw _ ki_X3); exact ⟨(cc, is), fun q hq => by cases hq; exact h⟩
    | 4 => obtain ⟨cc, is, h⟩ := u_known hw iw_4 (hw _ ki_X4); exact ⟨(cc, is), fun q hq => by cases hq; exact h⟩
    | 5 => obtain ⟨cc, is, h⟩ := u_known hw iw_5 (hw _ ki_X5); exact ⟨(cc, is), fun q hq => by cases hq; exact h⟩
    | 6 => obtain ⟨cc, is, h⟩ := u_known hw iw_6 (hw _ ki_X6); exact ⟨(cc, is), fun q hq => by cases hq; exact h⟩
    | 7 => obtain ⟨cc, is, h⟩ := u_known hw iw_7 (hw _ ki_X7); exact ⟨(cc, is), fun q hq => by cases hq; exact h⟩
    | 8 => obtain ⟨cc, is, h⟩ := u_known hw iw_8 (hw _ ki_X8); exact ⟨(cc, is), fun q hq => by cases hq; exact h⟩
    | 9 => obtain ⟨cc, is, h⟩ := u_known hw iw_9 (hw _ ki_X9); exact ⟨(cc, is), fun q hq => by cases hq; exact h⟩
    | 10 => obtain ⟨cc, is, h⟩ := u_known hw iw_10 (hw _ ki_X10); exact ⟨(cc, is), fun q hq => by cases hq; exact h⟩
    | 11 => obtain ⟨cc, is, h⟩ := u_known hw iw_11 (hw _ ki_X11); exact ⟨(cc, is), fun q hq => by cases hq; exact h⟩
    | c + 12 => exact ⟨(0, fun _ => 0), fun q hq => by cases hq⟩
  obtain ⟨dd, hdd⟩ := Classical.axiomOfChoice hcl
  -- the classes of arrays
  obtain ⟨cI, kI, pI, i1, i2, i3⟩ := Cond.arrayClass_spec (hw _ kA_int)
  obtain ⟨cC, kC, pC, j1, j2, j3⟩ := Cond.arrayClass_spec (hw _ kA_char)
  obtain ⟨cL, kL, pL, l1, l2, l3⟩ := Cond.arrayClass_spec (hw _ kA_long)
  have oS : (Cond.arrayOver (.object "RepairGroups$Span")).before #[Value.ref b] s = true := hts _ (lw_m1 (List.mem_of_getElem? (i := 92) (by decide +kernel)))
  have oI : (Cond.arrayOver (.array .int)).before #[Value.ref b] s = true := hts _ (lw_m1 (List.mem_of_getElem? (i := 144) (by decide +kernel)))
  have oL : (Cond.arrayOver (.array .long)).before #[Value.ref b] s = true := hts _ (lw_m2 (List.mem_of_getElem? (i := 31) (by decide +kernel)))
  obtain ⟨pS, cS, kS, s1, -, s3, s4, s5⟩ := Cond.arrayOver_spec oS
  obtain ⟨pII, cII, kII, u1, -, u3, u4, u5⟩ := arrayOverA_spec oI
  obtain ⟨pLL, cLL, kLL, v1, -, v3, v4, v5⟩ := arrayOverA_spec oL
  -- the table of classes' forms
  have hA : ∀ a : Nat, a < s.heap.size → ¬ (fun q => s.heap.size ≤ q) a := fun a h h2 => absurd h (Nat.not_lt.mpr h2)
  obtain ⟨t, ht, hT, htl⟩ := at_tab (tm := .static "RepairGroups" "ABOVE" "[I") (N := 7) (f := ev_up) (A := fun q => s.heap.size ≤ q) (by decide) (hs _ (by decide +kernel)) (va_eqt (hs (Cond.eq (.length (.static "RepairGroups" "ABOVE" "[I")) (.int 7)) (by decide +kernel))) (fun j hj => by
    match j, hj with
    | 0, _ => exact va_eqt (hs (Cond.eq (.elem (.static "RepairGroups" "ABOVE" "[I") (.int 0)) (.int (-1))) (by decide +kernel))
    | 1, _ => exact va_eqt (hs (Cond.eq (.elem (.static "RepairGroups" "ABOVE" "[I") (.int 1)) (.int 0)) (by decide +kernel))
    | 2, _ => exact va_eqt (hs (Cond.eq (.elem (.static "RepairGroups" "ABOVE" "[I") (.int 2)) (.int 0)) (by decide +kernel))
    | 3, _ => exact va_eqt (hs (Cond.eq (.elem (.static "RepairGroups" "ABOVE" "[I") (.int 3)) (.int 0)) (by decide +kernel))
    | 4, _ => exact va_eqt (hs (Cond.eq (.elem (.static "RepairGroups" "ABOVE" "[I") (.int 4)) (.int 1)) (by decide +kernel))
    | 5, _ => exact va_eqt (hs (Cond.eq (.elem (.static "RepairGroups" "ABOVE" "[I") (.int 5)) (.int 2)) (by decide +kernel))
    | 6, _ => exact va_eqt (hs (Cond.eq (.elem (.static "RepairGroups" "ABOVE" "[I") (.int 6)) (.int 3)) (by decide +kernel))
    | j + 7, h => exact absurd h (by omega)) hA
  have hZ := va_Zof (A := fun q => s.heap.size ≤ q) (hts (Cond.laysStatic "RepairGroups" "ABOVE" "[I") (lw_m2 (List.mem_of_getElem? (i := 124) (by decide +kernel)))) (hw _ kz_X10) ht hA
  have e0 : (fun i => if i = 1000 then t else b : Nat → Nat) 1000 = t := if_pos rfl
  have e1 : (fun i => if i = 1000 then t else b : Nat → Nat) 1001 = b := if_neg (by decide)
  have hl := lv_entry [Value.ref b] (n := 4) (Nat.le_of_ble_eq_true rfl)
  rw [lg_entry_eq]
  refine law_start (xs := xs) (nm := meth.name) hL (fun _ _ => 0) (fun _ _ => 0) p l e room_1 s m #[Value.ref b] below meth c (fun c => (dd c).1) (fun c => (dd c).2) (fun k => [cI, cC, cL, cII, cLL, cS].getD k 0) (fun i => if i = 1000 then t else b) (fun q => s.heap.size ≤ q) _ ⟨hx, hb, hml, hown, hw, rfl, by decide, by decide, Nat.le_refl _, Nat.le_refl _, fun _ h => h, ⟨⟨fun c q hq => hdd c q hq, ?_⟩, ?_, ?_, ?_, oS, oI, oL⟩, ?_, List.mem_cons_self, ?_⟩ ?_ _ s.heap [] _ (fun _ _ => rfl) (Nat.le_refl _) ⟨?_, ?_, va_S.rf, fun te h => absurd h List.not_mem_nil⟩ ?_
  · intro k q hq
    match k, hq with
    | 0, hq => cases hq; exact ⟨at_arr i2 i3, i1⟩
    | 1, hq => cases hq; exact ⟨at_arr j2 j3, j1⟩
    | 2, hq => cases hq; exact ⟨at_arr l2 l3, l1⟩
    | 3, hq => cases hq; exact ⟨at_arr u3 u4, u5⟩
    | 4, hq => cases hq; exact ⟨at_arr v3 v4, v5⟩
    | 5, hq => cases hq; exact ⟨at_arr s3 s4, kS, pS, s3, s4, s1, s5⟩
    | k + 6, hq => cases hq
  · exact va_Nw.of rfl (hts _ (lw_m2 (List.mem_of_getElem? (i := 106) (by decide +kernel))))
  · exact va_Nw.of rfl (hts _ (lw_m2 (List.mem_of_getElem? (i := 162) (by decide +kernel))))
  · exact va_Nw.of rfl (hts _ (lw_m2 (List.mem_of_getElem? (i := 213) (by decide +kernel))))
  · rw [e0]
    exact hZ
  · intro x hx
    rcases List.mem_cons.mp hx with rfl | hx
    · refine ⟨?_, ?_, ?_, Nat.le_refl _⟩
      · show va_X ((fun i => if i = 1000 then t else b : Nat → Nat) 1000) 7 ev_up s s.heap
        rw [e0]; exact hT
      · show (fun i => if i = 1000 then t else b : Nat → Nat) 1000 < s.heap.size
        rw [e0]; exact htl
      · show ¬ s.heap.size ≤ (fun i => if i = 1000 then t else b : Nat → Nat) 1000
        rw [e0]; exact Nat.not_le.mpr htl
    · obtain rfl := List.mem_singleton.mp hx
      refine ⟨?_, ?_, ?_, (show 1000 ≤ 1001 by decide)⟩
      · show va_X ((fun i => if i = 1000 then t else b : Nat → Nat) 1001) L xs s s.heap
        rw [e1]; exact hX
      · show (fun i => if i = 1000 then t else b : Nat → Nat) 1001 < s.heap.size
        rw [e1]; exact hbl
      · show ¬ s.heap.size ≤ (fun i => if i = 1000 then t else b : Nat → Nat) 1001
        rw [e1]; exact Nat.not_le.mpr hbl
  · intro ad H locs ls pc T σ μ h1 h2 hH
    refine ⟨fun x hdg _ hR => ?_, fun x _ hr _ => (by cases hr), fun _ hr _ => (by cases hr)⟩
    obtain rfl : x = 1 := Value.int.inj (Option.some.inj hR)
    exact va_forget (fun q hq => hH.2.2.1.2.2 q hq) (lw_ret hx hb hret hlocks hdg)
  · exact fun k q hq => by cases hq
  · exact ⟨fun i j p q hi _ _ => (by cases hi), fun k q hq => (by cases hq)⟩
  · exact hl
set_option maxHeartbeats 4000000 in
theorem lw_walk (l : Launch) (hflags : l.flags = flags0) (b : Addr) (xs : List Int32) : MetFree l x (headSpec (Jvm.Cond.code x code maxLocals ret :: tables_1) room_1) (lw_P b xs) (fun _ _ _ _ _ => True) lw_Q := by
  refine MetFree.of_bodyS (code := code) (maxLocals := maxLocals) (ret := ret) (by decide) ?_ ?_
  · intro args s m h hn
    obtain ⟨meth, c, h1, h2, h3, h4, h5, h6, -, -⟩ := Cond.code_spec hn (atoms_spec (ws := Jvm.Cond.code x code maxLocals ret :: tables_1) h _ List.mem_cons_self)
    exact ⟨meth, c, h1, h2, h3, h4, h5, h6⟩
  · intro p e s m args below meth c s₁ B hml0 hP _
    obtain ⟨rfl, hx, hbd, hgv⟩ := hP
    obtain ⟨scr, harrAt, hlist, hof, hsmall⟩ := hx
    obtain ⟨hcb, hkn, -, -⟩ := State.arrayAt?_spec harrAt
    have hown : s.vm.findClass R_law = some m.cls := findClass_of_methodNamed B.named
    have hts0 : ∀ c ∈ (Jvm.Cond.code x code maxLocals ret :: tables_1), c.before #[Value.ref b] s = true := atoms_spec (ws := Jvm.Cond.code x code maxLocals ret :: tables_1) B.pre
    have hts : ∀ w ∈ lw_tbl, w.before #[Value.ref b] s = true := k2_hts_sels lw_privs (fun w hw => hts0 w (List.mem_cons_of_mem _ hw)) lw_privs_ok
    have hml : c.maxLocals = 4 := B.maxLocals_eq (hts0 _ List.mem_cons_self)
    have X₀ : Stand p l e room_1 s m #[Value.ref b] below meth c s₁ [] 0 0 := Stand.of_body B
    have hh0 : s₁.heap = s.heap := by rw [B.state]; rfl
    have hsz : scr.slots.size = xs.length := by rw [← Array.length_toList, hlist, List.length_map]
    have hval : ∀ j : Nat, j < xs.length → scr.slots[j]? = some (.int (xs.getD j 0)) := fun j hj => by
      rw [← Array.getElem?_toList, hlist]
      simp [hj]
    have hbl : b < s.heap.size := (Array.getElem?_eq_some_iff.mp hcb).1
    have hX : va_X b xs.length (fun j => xs.getD j 0) s s.heap := ⟨scr, hcb, hof, hkn, hsz, hval⟩
    have K : W p l e room_1 s m #[Value.ref b] below meth c s₁.heap [] 0 0 (lw_Z below #[Value.ref b] s) (entryFrame m ([Value.ref b] : List Value).toArray 4) := by
      rw [hh0]
      exact whole_start l hflags hbd ⟨B.exec, B.bytes, B.returns, hml, hown, hts, hX, hbl, B.notSynchronized, hgv⟩
    obtain ⟨t, a1, o, b1, b2, b3⟩ := K s₁ rfl X₀
    exact ⟨t, o, a1, b1, b2, b3⟩
theorem lw_pre_spec {args : Array Value} {s : State} (h : (Jvm.Cond.and given_1 narrow_1).before args s = true) (hr : rest_1_c.before args s = true) : ∃ (b : Addr) (xs : List Int32), lw_P b xs args s := by
  have hs := flat_of_before _ h
  have hq := flat_of_before _ hr
  have hc : (Cond.count 1).before args s = true := hs _ (by decide +kernel)
  have harr : (Cond.arrayOf (.arg 0) .int).before args s = true := hs _ (by decide +kernel)
  have hle : (Cond.le (.length (.arg 0)) (.int 3072)).before args s = true := hs _ (by decide +kernel)
  have hlen : (Cond.isInt (.length (.arg 0))).before args s = true := hq _ (by decide +kernel)
  have hall : (Cond.all (.arg 0) (.isInt (.elem (.arg 0) (.index 0)))).before args s = true := hq _ (by decide +kernel)
  obtain ⟨b, xs, hb, hx⟩ := State.ints_of_pre rfl harr hlen hall
  have hsm : xs.length < 2 ^ 31 := hx.choose_spec.2.2.2
  have hev : (Term.length (.arg 0)).eval args s none [] s = some (.int xs.length.toInt32) := hx.length_eval hb
  have hv := Cond.le_ints hev (show (Term.int 3072).eval args s none [] s = some (.int 3072) from rfl)
  have hd : xs.length.toInt32 ≤ 3072 := by
    simpa [Cond.before, Cond.holds, hv] using hle
  have hN : xs.length ≤ 3072 := (Int32.ofNat_le_ofNat hsm (by decide)).mp (show Int32.ofNat xs.length ≤ Int32.ofNat 3072 from hd)
  exact ⟨b, xs, Cond.one_arg hc (show args[0]? = some (.ref b) from hb), hx, hN, h⟩
theorem lw_comes (l : Launch) (hflags : l.flags = flags0) : Comes l x (Jvm.Cond.code x code maxLocals ret :: tables_1) room_1 (fun tb e args s => Calls_1 tb e args s ∧ rest_1 tb e args s ∧ Pre_1 tb e args s)
    (fun _ _ args s o t => lw_Q args s o t) := by
  intro p e ha hc hk s m args below hf hfit hheap happ hpre
  obtain ⟨b, xs, hP⟩ := lw_pre_spec hpre.2.2 hpre.2.1
  obtain ⟨k, o, h1, h2, h3, hQ⟩ := lw_walk l hflags b xs p e ha hc hk s m args below hf ((Spec.applies_iff_loose hf).mp happ).1 hP trivial
  exact ⟨k, o, h1, h2, h3, hQ⟩
theorem lw_frame {s t : State} {o : Outcome} {args : Array Value} (h : Framed s o t [] 600000 7302250) :
    Framed s o t (fieldLocs frame_1_writes args s ++ arrayLocs frame_1_arrays args s ++ staticLocs frame_1_statics s) 600000 7302250 := h
theorem lw_limb (L : Cond) (hL : ∀ (args : Array Value) (s t : State), L.after args s (.returned (some (.int 1))) t = true) :
    ArmFor flags0 classFile x code maxLocals ret World_1 tables_1 room_1 Calls_1 rest_1 Pre_1
      (fun tb e a s o t => postC L tb e a s o t ∧ Framed s o t (fieldLocs frame_1_writes a s ++ arrayLocs frame_1_arrays a s ++ staticLocs frame_1_statics s) 600000 7302250) := by
  intro l hflags _ _ p e ha hc hk s m args below hf hfit hheap happ hpre
  obtain ⟨k, o, h1, h2, h3, rfl, hF⟩ := lw_comes l hflags p e ha hc hk s m args below hf hfit hheap happ hpre
  exact ⟨k, _, h1, h2, h3, hL args s _, lw_frame hF⟩
theorem i_vc : Claimed_1_1 ∧ Claimed_1_2 := ⟨lw_limb limb_1_1 (fun args s t => by simp [limb_1_1, Cond.after, Cond.holds, Cond.value]), lw_limb limb_1_2 (fun args s t => Cond.after_iff.mpr (by
  first | (rw [show limb_1_2 = Cond.eq .result (.int 1) from rfl, Cond.eq_ints (x := 1) (y := 1) rfl rfl]; simp; done) | (simp [limb_1_2, Cond.value, Term.eval]; done)))⟩

