/-! THE ENGINE: one judgement (Ev) over an abstract heap: cells by number, their shapes T, their ints σ, their longs μ -/
abbrev ex_T : Type := (Nat × List (Option (Option Nat))) ⊕ (Nat × Nat × List (Option Nat))
abbrev ex_S : Type := Nat → Nat → Int32
abbrev ex_L : Type := Nat → Nat → Int64
def ev_v (ad : Nat → Nat) : Value → Value
  | .ref i => .ref (ad i)
  | v => v
def ev_l (ad : Nat → Nat) (lv : List (Nat × Value)) : List (Nat × Value) := lv.map fun q => (q.1, ev_v ad q.2)
def ev_s (ad : Nat → Nat) (σ : ex_S) (i k : Nat) : Option (Option Nat) → Value
  | none => .int (σ i k)
  | some r => va_rf (r.map ad)
def ev_a (ad : Nat → Nat) (σ : ex_S) (μ : ex_L) (i ty n : Nat) (fs : List (Option Nat)) : vp_A :=
  (n, if ty = 2 then .inr (.inl (μ i)) else if ty ≤ 1 then .inl (σ i) else .inr (.inr (.inr (.inr (fun j => (fs.getD j none).map ad)))))
def ev_e (ad : Nat → Nat) (cls : Nat → ClassId) (σ : ex_S) (μ : ex_L) (i : Nat) : ex_T → va_E
  | .inl o => .inr (o.1, o.2.mapIdx fun k s => ev_s ad σ i k s)
  | .inr a => .inl (cls a.1, ev_a ad σ μ i a.1 a.2.1 a.2.2)
def ev_w (ad : Nat → Nat) (cls : Nat → ClassId) (T : List ex_T) (σ : ex_S) (μ : ex_L) : va_W := T.mapIdx fun i te => (ad i, ev_e ad cls σ μ i te)
def ev_tys (cls : Nat → ClassId) : List (ClassId × FieldType) := [(cls 0, .int), (cls 1, .char), (cls 2, .long), (cls 3, .array .int), (cls 4, .array .long), (cls 5, .object "RepairGroups$Span")]
def ev_okT (n : Nat) : ex_T → Prop
  | .inl o => ∀ r, some (some r) ∈ o.2 → r < n
  | .inr a => ∀ r, some r ∈ a.2.2 → r < n
def ev_ok (T : List ex_T) : Prop := ∀ te ∈ T, ev_okT T.length te
def ev_okv (n : Nat) : Value → Prop
  | .ref i => i < n ∨ 1000 ≤ i
  | _ => True
def ev_ad (n0 : Nat) (ad0 ad : Nat → Nat) : Prop := ∀ i, i < n0 ∨ 1000 ≤ i → ad i = ad0 i
/-- the class of arrays of arrays of t is there -/
def ev_AO (t : FieldType) (U : State) : Prop := (Cond.arrayOver (.array t)).before #[] U = true
theorem ev_AO.moved {t : FieldType} {u U : State} (hvm : u.vm.Alike U.vm) (h : ev_AO t u) : ev_AO t U := by
  obtain ⟨comp, c, k, h1, h2, h3, h4, h5⟩ := arrayOverA_spec h
  obtain ⟨k2, g1, g2⟩ := hvm.2.2 _ _ h3
  have hi := (Vm.Alike.findIdx?_eq hvm (fun (x : Class) => match x.kind with | .array component _ => component == comp | _ => false) (fun _ => rfl)).trans h2
  have e1 : U.vm.findClass (FieldType.array t).toString = some comp := by rw [hvm.findClass]; exact h1
  have e2 : U.vm.findClass ("[" ++ (FieldType.array t).toString) = some c := by rw [hvm.findClass]; exact h5
  have e3 : k2.kind = .array comp (.array t) := by rw [g2]; exact h4
  unfold ev_AO Cond.before Cond.holds
  simp only [Cond.value]
  rw [e1, Option.bind_some]
  erw [hi]
  simp [g1, e3, e2]
def ev_K (dC : Nat → ClassId) (dI : Nat → Nat → Nat) (cls : Nat → ClassId) (s : State) : Prop :=
  va_K (dC, dI) vwCl (ev_tys cls) s ∧ va_Nw (.methodLinkNest RX4 41 yX10_isNumber RX10) s ∧ va_Nw (.methodLinkNest RX7 29 yX10_numberAt RX10) s ∧ va_Nw (.methodLinkNest RX3 72 yX10_numberAt RX10) s ∧ va_AO "RepairGroups$Span" s ∧ ev_AO .int s ∧ ev_AO .long s
def ev_up : Nat → Int32 := fun j => [(-1 : Int32), 0, 0, 0, 1, 2, 3].getD j 0
abbrev ev_ext : List (Nat × Nat × (Nat → Int32)) := [(1000, 7, ev_up)]
def ev_X (ad : Nat → Nat) (A : Nat → Prop) (ex : List (Nat × Nat × (Nat → Int32))) (s : State) : Prop :=
  va_Z "RepairGroups" "ABOVE" "[I" (.ref (ad 1000)) A s s.heap ∧ (1000, 7, ev_up) ∈ ex ∧ ∀ x ∈ ex, va_X (ad x.1) x.2.1 x.2.2 s s.heap ∧ ad x.1 < s.heap.size ∧ ¬ A (ad x.1) ∧ 1000 ≤ x.1
def ev_H (dC : Nat → ClassId) (dI : Nat → Nat → Nat) (cls : Nat → ClassId) (A : Nat → Prop) (s : State) (ad : Nat → Nat) (T : List ex_T) (σ : ex_S) (μ : ex_L) (H : Heap) (locs : List Loc) : Prop :=
  va_P (dC, dI) vwCl (ev_w ad cls T σ μ) H ∧ va_D A (ev_w ad cls T σ μ) ∧ va_S A s.heap H locs ∧ ev_ok T
def ev_nw (rt : Option FieldType) (x : Int32) : Prop := ∃ ty, rt = some ty ∧ narrow ty (.int x) = .int x
abbrev ev_Q : Type := Option Value → List ex_T → ex_S → ex_L → Prop
/-- how a method ends: at its return, with an answer and a heap that Rq holds of -/
def ev_F (cc : ByteArray) (mc ms : Nat) (rt : Option FieldType) (n0 : Nat) (Rq : ev_Q) (p : Program) (l : Launch) (e : Env) (R : Room) (s : State) (m : MethodId) (args : Array Value) (below : List Frame) (meth : Method) (c : Code) (dC : Nat → ClassId) (dI : Nat → Nat → Nat) (cls : Nat → ClassId) (ad0 : Nat → Nat) (A : Nat → Prop) (Qf : State → Prop) : Prop :=
  ∀ (ad : Nat → Nat) (H : Heap) (locs : List Loc) (ls : Array Slot) (pc : Nat) (T : List ex_T) (σ : ex_S) (μ : ex_L), ev_ad n0 ad0 ad → n0 ≤ T.length → ev_H dC dI cls A s ad T σ μ H locs →
    (∀ x : Int32, decode cc pc = .ok (.ireturn, 1) → ev_nw rt x → Rq (some (.int x)) T σ μ → W p l e R s m args below meth c H locs mc ms Qf (F0 m pc ls [.int x])) ∧
    (∀ x : Int64, decode cc pc = .ok (.lreturn, 1) → rt = some .long → Rq (some (.long x)) T σ μ → W p l e R s m args below meth c H locs mc ms Qf (F0 m pc ls [.long x])) ∧
    (decode cc pc = .ok (.return_, 1) → rt = none → Rq none T σ μ → W p l e R s m args below meth c H locs mc ms Qf (F0 m pc ls []))
def ev_C (own : String) (cc : ByteArray) (nL d mc ms : Nat) (nm : String) (ex : List (Nat × Nat × (Nat → Int32))) (p : Program) (R : Room) (s : State) (m : MethodId) (args : Array Value) (meth : Method) (c : Code) (dC : Nat → ClassId) (dI : Nat → Nat → Nat) (cls : Nat → ClassId) (ad0 : Nat → Nat) (A : Nat → Prop) : Prop :=
  p.tables.exec = Jvm.exec ∧ c.code = cc ∧ c.maxLocals = nL ∧ s.vm.findClass own = some m.cls ∧ (∀ w ∈ ev_ws, w.before args s = true) ∧ meth.name = nm ∧ d ≤ R.frames ∧ 60 * d ≤ R.locals ∧ mc ≤ R.cells ∧ ms ≤ R.slots ∧ (∀ q, s.heap.size ≤ q → A q) ∧ ev_K dC dI cls s ∧ ev_X ad0 A ex s
/-- THE JUDGEMENT -/
def Ev (own : String) (cc : ByteArray) (nL d mc ms : Nat) (nm : String) (rt : Option FieldType) (ex : List (Nat × Nat × (Nat → Int32))) (n0 : Nat) (Rq : ev_Q) (k n pc : Nat) (lv : List (Nat × Value)) (st : List Value) (T : List ex_T) (σ : ex_S) (μ : ex_L) : Prop :=
  ∀ (p : Program) (l : Launch) (e : Env) (R : Room) (s : State) (m : MethodId) (args : Array Value) (below : List Frame) (meth : Method) (c : Code) (dC : Nat → ClassId) (dI : Nat → Nat → Nat) (cls : Nat → ClassId) (ad0 : Nat → Nat) (A : Nat → Prop) (Qf : State → Prop),
    ev_C own cc nL d mc ms nm ex p R s m args meth c dC dI cls ad0 A → ev_F cc mc ms rt n0 Rq p l e R s m args below meth c dC dI cls ad0 A Qf →
    ∀ (ad : Nat → Nat) (H : Heap) (locs : List Loc) (ls : Array Slot), ev_ad n0 ad0 ad → n0 ≤ T.length → ev_H dC dI cls A s ad T σ μ H locs → lv_has ls nL (ev_l ad lv) →
      W p l e R s m args below meth c H locs k n Qf (F0 m pc ls (st.map (ev_v ad)))
-- basics
theorem ev_cat (ad : Nat → Nat) (v : Value) : (ev_v ad v).category = v.category := by cases v <;> rfl
theorem ev_cats (ad : Nat → Nat) (st : List Value) : ((st.map (ev_v ad)).map fun v => v.category) = st.map fun v => v.category := by
  rw [List.map_map]
  exact List.map_congr_left fun v _ => ev_cat ad v
theorem ev_at {ls : Array Slot} {nL : Nat} {ad : Nat → Nat} {lv : List (Nat × Value)} (h : lv_has ls nL (ev_l ad lv)) (q : Nat) {i : Nat} {v : Value} (hk : lv[q]? = some (i, v)) : ls[i]? = some (.val (ev_v ad v)) :=
  lv_at h q (by rw [ev_l, List.getElem?_map, hk]; rfl)
theorem ev_mono {ls : Array Slot} {nL : Nat} {l l' : List (Nat × Value)} (h : lv_has ls nL l) (hs : ∀ q ∈ l', q ∈ l) : lv_has ls nL l' := ⟨h.1, h.2.1, fun q hq => h.2.2 q (hs q hq)⟩
theorem ev_lsub {ls : Array Slot} {nL : Nat} {ad : Nat → Nat} {l l' : List (Nat × Value)} (h : lv_has ls nL (ev_l ad l)) (hs : ∀ q ∈ l', q ∈ l) : lv_has ls nL (ev_l ad l') := by
  refine ev_mono h fun q hq => ?_
  obtain ⟨q0, h0, rfl⟩ := List.mem_map.mp hq
  exact List.mem_map.mpr ⟨q0, hs q0 h0, rfl⟩
def ev_put (i : Nat) (v : Value) : List (Nat × Value) → List (Nat × Value)
  | [] => [(i, v)]
  | q :: r => if q.1 < i then q :: ev_put i v r else (i, v) :: q :: r
theorem ev_put_mem {i : Nat} {v : Value} {q : Nat × Value} : ∀ {l : List (Nat × Value)}, q ∈ ev_put i v l → q = (i, v) ∨ q ∈ l
  | [], h => by
    rcases List.mem_cons.mp h with h | h
    · exact Or.inl h
    · exact absurd h List.not_mem_nil
  | x :: r, h => by
    unfold ev_put at h
    split at h
    · rcases List.mem_cons.mp h with h | h
      · exact Or.inr (by rw [h]; exact List.mem_cons_self)
      · rcases ev_put_mem h with h | h
        · exact Or.inl h
        · exact Or.inr (List.mem_cons_of_mem _ h)
    · rcases List.mem_cons.mp h with h | h
      · exact Or.inl h
      · exact Or.inr h
def ev_st (lv : List (Nat × Value)) (i : Nat) (v : Value) : List (Nat × Value) := ev_put i v (lv.filter fun q => !(q.1 == i) && !(q.1 + 1 == i && q.2.category == 2))
def ev_st2 (lv : List (Nat × Value)) (i : Nat) (v : Value) : List (Nat × Value) := ev_put i v (lv.filter fun q => !(q.1 == i) && (!(q.1 == i + 1) && !(q.1 + 1 == i && q.2.category == 2)))
theorem ev_put_has {ls : Array Slot} {nL i : Nat} {ad : Nat → Nat} {v : Value} {lv : List (Nat × Value)} {f : Nat × Value → Bool} (hf : ∀ q : Nat × Value, f (q.1, ev_v ad q.2) = f q) (h : lv_has ls nL ((i, ev_v ad v) :: (ev_l ad lv).filter f)) : lv_has ls nL (ev_l ad (ev_put i v (lv.filter f))) := by
  refine ev_mono h fun q hq => ?_
  obtain ⟨q0, h0, rfl⟩ := List.mem_map.mp hq
  rcases ev_put_mem h0 with rfl | h0
  · exact List.mem_cons_self
  · obtain ⟨h1, h2⟩ := List.mem_filter.mp h0
    exact List.mem_cons_of_mem _ (List.mem_filter.mpr ⟨List.mem_map.mpr ⟨q0, h1, rfl⟩, (hf q0).trans h2⟩)
theorem ev_st_has {ls : Array Slot} {nL i : Nat} {ad : Nat → Nat} {v : Value} {lv lv' : List (Nat × Value)} (e : ev_st lv i v = lv') (h : lv_has ls nL ((i, ev_v ad v) :: (ev_l ad lv).filter (fun q => !(q.1 == i) && !(q.1 + 1 == i && q.2.category == 2)))) : lv_has ls nL (ev_l ad lv') := by
  rw [← e]
  exact ev_put_has (fun q => by simp only [ev_cat]) h
theorem ev_st2_has {ls : Array Slot} {nL i : Nat} {ad : Nat → Nat} {v : Value} {lv lv' : List (Nat × Value)} (e : ev_st2 lv i v = lv') (h : lv_has ls nL ((i, ev_v ad v) :: (ev_l ad lv).filter (fun q => !(q.1 == i) && (!(q.1 == i + 1) && !(q.1 + 1 == i && q.2.category == 2))))) : lv_has ls nL (ev_l ad lv') := by
  rw [← e]
  exact ev_put_has (fun q => by simp only [ev_cat]) h
-- the world's places
theorem ev_w_get {ad : Nat → Nat} {cls : Nat → ClassId} {T : List ex_T} {σ : ex_S} {μ : ex_L} {i : Nat} {te : ex_T} (h : T[i]? = some te) : (ev_w ad cls T σ μ)[i]? = some (ad i, ev_e ad cls σ μ i te) := by
  rw [ev_w, List.getElem?_mapIdx, h]
  rfl
def srow (σ : ex_S) (i : Nat) (f : Nat → Int32) : ex_S := fun j => if j = i then f else σ j
def sup (σ : ex_S) (i k : Nat) (v : Int32) : ex_S := srow σ i (upd (σ i) k v)
theorem sup_eq {σ : ex_S} {i k : Nat} {v : Int32} : sup σ i k v = srow σ i (upd (σ i) k v) := rfl
def lrow (μ : ex_L) (i : Nat) (f : Nat → Int64) : ex_L := fun j => if j = i then f else μ j
theorem ev_e_srow {ad : Nat → Nat} {cls : Nat → ClassId} {σ : ex_S} {μ : ex_L} {i j : Nat} {f : Nat → Int32} (h : j ≠ i) (te : ex_T) : ev_e ad cls (srow σ i f) μ j te = ev_e ad cls σ μ j te := by
  have e : srow σ i f j = σ j := if_neg h
  cases te with
  | inl o =>
    show Sum.inr (o.1, _) = Sum.inr (o.1, _)
    refine congrArg (fun z => Sum.inr (o.1, z)) ?_
    refine congrArg (fun z => List.mapIdx z o.2) ?_
    funext k s
    cases s with
    | none => show Value.int _ = Value.int _; rw [e]
    | some r => rfl
  | inr a => simp only [ev_e, ev_a, e]
theorem ev_e_lrow {ad : Nat → Nat} {cls : Nat → ClassId} {σ : ex_S} {μ : ex_L} {i j : Nat} {f : Nat → Int64} (h : j ≠ i) (te : ex_T) : ev_e ad cls σ (lrow μ i f) j te = ev_e ad cls σ μ j te := by
  have e : lrow μ i f j = μ j := if_neg h
  cases te with
  | inl o => rfl
  | inr a => simp only [ev_e, ev_a, e]
theorem ev_w_srow {ad : Nat → Nat} {cls : Nat → ClassId} {T : List ex_T} {σ : ex_S} {μ : ex_L} {i : Nat} {f : Nat → Int32} {te : ex_T} (h : T[i]? = some te) : ev_w ad cls T (srow σ i f) μ = (ev_w ad cls T σ μ).set i (ad i, ev_e ad cls (srow σ i f) μ i te) := by
  apply List.ext_getElem?
  intro j
  rw [List.getElem?_set, ev_w, ev_w, List.getElem?_mapIdx, List.getElem?_mapIdx, List.length_mapIdx]
  have hlt := (List.getElem?_eq_some_iff.mp h).1
  by_cases hj : i = j
  · subst hj
    rw [if_pos rfl, if_pos hlt, h]
    rfl
  · rw [if_neg hj]
    refine congrArg (fun z => Option.map z T[j]?) ?_
    funext te'
    rw [ev_e_srow (fun q => hj q.symm)]
theorem ev_w_lrow {ad : Nat → Nat} {cls : Nat → ClassId} {T : List ex_T} {σ : ex_S} {μ : ex_L} {i : Nat} {f : Nat → Int64} {te : ex_T} (h : T[i]? = some te) : ev_w ad cls T σ (lrow μ i f) = (ev_w ad cls T σ μ).set i (ad i, ev_e ad cls σ (lrow μ i f) i te) := by
  apply List.ext_getElem?
  intro j
  rw [List.getElem?_set, ev_w, ev_w, List.getElem?_mapIdx, List.getElem?_mapIdx, List.length_mapIdx]
  have hlt := (List.getElem?_eq_some_iff.mp h).1
  by_cases hj : i = j
  · subst hj
    rw [if_pos rfl, if_pos hlt, h]
    rfl
  · rw [if_neg hj]
    refine congrArg (fun z => Option.map z T[j]?) ?_
    funext te'
    rw [ev_e_lrow (fun q => hj q.symm)]
