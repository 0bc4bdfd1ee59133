/-! MAKING: new cells behind those that are there -/
theorem ev_okv_cg {n : Nat} {ad ad' : Nat → Nat} {v : Value} (ha : ev_ad n ad ad') (h : ev_okv n v) : ev_v ad' v = ev_v ad v := by
  cases v with
  | ref i => exact congrArg Value.ref (ha i h)
  | _ => rfl
theorem ev_l_cg {n : Nat} {ad ad' : Nat → Nat} {lv : List (Nat × Value)} (ha : ev_ad n ad ad') (h : ∀ q ∈ lv, ev_okv n q.2) : ev_l ad' lv = ev_l ad lv :=
  List.map_congr_left fun q hq => by rw [ev_okv_cg ha (h q hq)]
theorem ev_s_cg {n : Nat} {ad ad' : Nat → Nat} {st : List Value} (ha : ev_ad n ad ad') (h : ∀ v ∈ st, ev_okv n v) : st.map (ev_v ad') = st.map (ev_v ad) :=
  List.map_congr_left fun v hv => ev_okv_cg ha (h v hv)
theorem ev_e_cg {n : Nat} {ad ad' : Nat → Nat} {cls : Nat → ClassId} {σ σ' : ex_S} {μ μ' : ex_L} {j : Nat} {te : ex_T} (hte : ev_okT n te) (ha : ∀ i, i < n → ad' i = ad i) (hs : σ' j = σ j) (hm : μ' j = μ j) : ev_e ad' cls σ' μ' j te = ev_e ad cls σ μ j te := by
  have hmap : ∀ r : Option Nat, (∀ x, r = some x → x < n) → r.map ad' = r.map ad := by
    intro r hr
    cases r with
    | none => rfl
    | some x => exact congrArg some (ha x (hr x rfl))
  cases te with
  | inl o =>
    show Sum.inr (o.1, _) = Sum.inr (o.1, _)
    refine congrArg (fun z => Sum.inr (o.1, z)) ?_
    apply List.ext_getElem?
    intro q
    rw [List.getElem?_mapIdx, List.getElem?_mapIdx]
    cases hq : o.2[q]? with
    | none => rfl
    | some sl =>
      cases sl with
      | none => show some (Value.int (σ' j q)) = some (Value.int (σ j q)); rw [hs]
      | some r =>
        show some (va_rf (r.map ad')) = some (va_rf (r.map ad))
        rw [hmap r (fun x hx => hte x (by rw [← hx]; exact List.mem_of_getElem? hq))]
  | inr a =>
    obtain ⟨ty, N, fs⟩ := a
    show Sum.inl (cls ty, ev_a ad' σ' μ' j ty N fs) = Sum.inl (cls ty, ev_a ad σ μ j ty N fs)
    refine congrArg (fun z => Sum.inl (cls ty, z)) ?_
    unfold ev_a
    have hf : (fun q => (fs.getD q none).map ad') = (fun q => (fs.getD q none).map ad) := by
      funext q
      refine hmap _ (fun x hx => hte x ?_)
      rw [List.getD_eq_getElem?_getD] at hx
      cases hq : fs[q]? with
      | none => rw [hq] at hx; cases hx
      | some r =>
        rw [hq] at hx
        dsimp only [Option.getD_some] at hx
        rw [← hx]
        exact List.mem_of_getElem? hq
    rw [hf, hs, hm]
theorem ev_w_app {ad ad' : Nat → Nat} {cls : Nat → ClassId} {T L : List ex_T} {σ σ' : ex_S} {μ μ' : ex_L} (hO : ev_ok T) (ha : ∀ i, i < T.length → ad' i = ad i) (hs : ∀ i, i < T.length → σ' i = σ i) (hm : ∀ i, i < T.length → μ' i = μ i) :
    ev_w ad' cls (T ++ L) σ' μ' = ev_w ad cls T σ μ ++ L.mapIdx (fun i te => (ad' (i + T.length), ev_e ad' cls σ' μ' (i + T.length) te)) := by
  unfold ev_w
  rw [List.mapIdx_append]
  congr 1
  apply List.ext_getElem?
  intro j
  rw [List.getElem?_mapIdx, List.getElem?_mapIdx]
  cases hj : T[j]? with
  | none => rfl
  | some te =>
    have hlt := (List.getElem?_eq_some_iff.mp hj).1
    show some (ad' j, ev_e ad' cls σ' μ' j te) = some (ad j, ev_e ad cls σ μ j te)
    rw [ha j hlt, ev_e_cg (hO te (List.mem_of_getElem? hj)) ha (hs j hlt) (hm j hlt)]
theorem ev_okT_up {n n' : Nat} (h : n ≤ n') {te : ex_T} (ht : ev_okT n te) : ev_okT n' te := by
  cases te with
  | inl o => exact fun r hr => Nat.lt_of_lt_of_le (ht r hr) h
  | inr a => exact fun r hr => Nat.lt_of_lt_of_le (ht r hr) h
theorem ev_ok_app {T L : List ex_T} (h : ev_ok T) (h2 : ∀ te ∈ L, ev_okT (T.length + L.length) te) : ev_ok (T ++ L) := fun te hte => by
  rw [List.length_append]
  rcases List.mem_append.mp hte with q | q
  · exact ev_okT_up (Nat.le_add_right _ _) (h te q)
  · exact h2 te q
theorem ev_ad_one {T : List ex_T} {n0 q : Nat} {ad0 ad : Nat → Nat} (h1 : ev_ad n0 ad0 ad) (h2 : n0 ≤ T.length) (h3 : T.length < 1000) : ev_ad n0 ad0 (fun j => if j = T.length then q else ad j) := fun j hj => by
  show (if j = T.length then q else ad j) = ad0 j
  rw [if_neg (by omega)]
  exact h1 j hj
theorem ev_ad_own {T : List ex_T} {q : Nat} {ad : Nat → Nat} (h3 : T.length < 1000) : ev_ad T.length ad (fun j => if j = T.length then q else ad j) := fun j hj => by
  show (if j = T.length then q else ad j) = ad j
  rw [if_neg (by omega)]
section EVM
variable {own : String} {cc : ByteArray} {nL d mc ms : Nat} {nm : String} {rt : Option FieldType} {ex : List (Nat × Nat × (Nat → Int32))} {n0 : Nat} {Rq : ev_Q} {k n pc : Nat} {lv : List (Nat × Value)} {st : List Value} {T : List ex_T} {σ : ex_S} {μ : ex_L}
def ev_dfl (s : Option (Option Nat)) : Value := match s with
  | none => .int 0
  | some _ => .null
/-- new of an object -/
theorem e_new {idx ci N i : Nat} {C : String} {TT : u_T} {ty0 : Nat → FieldType} {sl : List (Option (Option Nat))} {T' : List ex_T} (hd : decode cc pc = .ok (.new idx, 3)) (hc : vwCl[ci]? = some (C, TT, N)) (hin : ∀ w ∈ u_ws C TT N, w ∈ ev_ws) (hty : ∀ k, k < N → parseFieldDescriptor (TT k).2.2.1 = some (ty0 k))
    (hcl : Cond.classLink own idx C ∈ ev_ws) (hinst : Cond.instantiable C N ∈ ev_ws) (hini : Cond.initialized C ∈ ev_ws) (hsl : ∀ s ∈ sl, s = none ∨ s = some none) (hfs : ∀ j, j < N → defaultValue (ty0 j) = vp_V (sl.map ev_dfl) j) (hi : T.length = i) (hi2 : i < 1000) (hT' : T ++ [.inl (ci, sl)] = T') (hmc : k + 1 ≤ mc) (hms : n + N ≤ ms)
    (hlv : ∀ q ∈ lv, ev_okv T.length q.2) (hst : ∀ v ∈ st, ev_okv T.length v) (K : Ev own cc nL d mc ms nm rt ex n0 Rq (k + 1) (n + N) (pc + 3) lv (.ref i :: st) T' (srow σ i (fun _ => 0)) μ) : Ev own cc nL d mc ms nm rt ex n0 Rq k n pc lv st T σ μ := by
  intro p l e R s m args below meth c dC dI cls ad0 A Qf C0 F ad H locs ls h1 h2 hH hl
  subst hT'
  subst hi
  obtain ⟨c1, c2, c3, c4, c5, c6, c7, c8, c9, c10, c11, c12, c13⟩ := id C0
  refine va_new (D := (dC, dI)) c1 c2 (Ts := ev_ws) c5 hin ty0 hty c4 (c5 _ hcl) (c5 _ hinst) (c5 _ hini) c12.1 hH.1 hH.2.1 hH.2.2.1 c11 hc (fs := sl.map ev_dfl) hfs (by omega) (by omega) hd (fun q H1 hP hD hS => ?_)
  have hae := ev_ad_own (T := T) (q := q) (ad := ad) hi2
  have ew := ev_w_app (L := [.inl (ci, sl)]) (cls := cls) (σ := σ) (σ' := srow σ T.length (fun _ => 0)) (μ := μ) (μ' := μ) hH.2.2.2 (fun j hj => hae j (Or.inl hj)) (fun j hj => srow_obj (by omega)) (fun _ _ => rfl)
  have e1 : [(ex_T)] = [(ex_T)] := rfl
  have es : ([.inl (ci, sl)] : List ex_T).mapIdx (fun i te => ((fun j => if j = T.length then q else ad j) (i + T.length), ev_e (fun j => if j = T.length then q else ad j) cls (srow σ T.length (fun _ => 0)) μ (i + T.length) te)) = [(q, .inr (ci, sl.map ev_dfl))] := by
    show [((if 0 + T.length = T.length then q else ad (0 + T.length)), Sum.inr (ci, sl.mapIdx fun k s => ev_s (fun j => if j = T.length then q else ad j) (srow σ T.length (fun _ => 0)) (0 + T.length) k s))] = _
    rw [Nat.zero_add, if_pos rfl]
    refine congrArg (fun z => [(q, Sum.inr (ci, z))]) ?_
    apply List.ext_getElem?
    intro x
    rw [List.getElem?_mapIdx, List.getElem?_map]
    cases hx : sl[x]? with
    | none => rfl
    | some sx =>
      rcases hsl sx (List.mem_of_getElem? hx) with rfl | rfl
      · show some (Value.int (srow σ T.length (fun _ => 0) T.length x)) = some (Value.int 0)
        rw [srow_same]
      · rfl
  rw [es] at ew
  rw [← ew] at hP hD
  have hO : ev_ok (T ++ [.inl (ci, sl)]) := ev_ok_app hH.2.2.2 (fun te hte => by
    rw [List.mem_singleton.mp hte]
    intro r hr
    rcases hsl _ hr with q | q <;> cases q)
  have kk := K p l e R s m args below meth c dC dI cls ad0 A Qf C0 F _ H1 locs ls (ev_ad_one (T := T) (q := q) h1 h2 hi2) (by rw [List.length_append]; omega) ⟨hP, hD, hS, hO⟩ (by rw [ev_l_cg hae hlv]; exact hl)
  rw [List.map_cons, ev_s_cg hae hst] at kk
  have er : ev_v (fun j => if j = T.length then q else ad j) (.ref T.length) = .ref q := by
    show Value.ref (if T.length = T.length then q else ad T.length) = _
    rw [if_pos rfl]
  rw [er] at kk
  exact kk
/-- what both kinds of new arrays of numbers need -/
theorem ev_newA {q : Nat} {te : ex_T} {σ' : ex_S} {μ' : ex_L} {p : Program} {l : Launch} {e : Env} {R : Room} {s : State} {m : MethodId} {args : Array Value} {below : List Frame} {meth : Method} {c : Code} {dC : Nat → ClassId} {dI : Nat → Nat → Nat} {cls : Nat → ClassId} {ad0 : Nat → Nat} {A : Nat → Prop} {Qf : State → Prop} {ad : Nat → Nat} {H1 : Heap} {locs : List Loc} {ls : Array Slot} {pc' k' n' : Nat} {x : va_E}
    (C0 : ev_C own cc nL d mc ms nm ex p R s m args meth c dC dI cls ad0 A) (F : ev_F cc mc ms rt n0 Rq p l e R s m args below meth c dC dI cls ad0 A Qf) (h1 : ev_ad n0 ad0 ad) (h2 : n0 ≤ T.length) (hOT : ev_ok T) (hi2 : T.length < 1000) (hl : lv_has ls nL (ev_l ad lv)) (hlv : ∀ q ∈ lv, ev_okv T.length q.2) (hst : ∀ v ∈ st, ev_okv T.length v)
    (hs : ∀ i, i < T.length → σ' i = σ i) (hm : ∀ i, i < T.length → μ' i = μ i) (hx : ev_e (fun j => if j = T.length then q else ad j) cls σ' μ' T.length te = x) (hte : ev_okT (T.length + 1) te)
    (hP : va_P (dC, dI) vwCl (ev_w ad cls T σ μ ++ [(q, x)]) H1) (hD : va_D A (ev_w ad cls T σ μ ++ [(q, x)])) (hS : va_S A s.heap H1 locs)
    (K : Ev own cc nL d mc ms nm rt ex n0 Rq k' n' pc' lv (.ref T.length :: st) (T ++ [te]) σ' μ') : W p l e R s m args below meth c H1 locs k' n' Qf (F0 m pc' ls (.ref q :: st.map (ev_v ad))) := by
  have hae := ev_ad_own (T := T) (q := q) (ad := ad) hi2
  have ew := ev_w_app (L := [te]) (cls := cls) (σ := σ) (σ' := σ') (μ := μ) (μ' := μ') hOT (fun j hj => hae j (Or.inl hj)) hs hm
  have es : ([te] : List ex_T).mapIdx (fun i te => ((fun j => if j = T.length then q else ad j) (i + T.length), ev_e (fun j => if j = T.length then q else ad j) cls σ' μ' (i + T.length) te)) = [(q, x)] := by
    show [((if 0 + T.length = T.length then q else ad (0 + T.length)), ev_e _ cls σ' μ' (0 + T.length) te)] = _
    rw [Nat.zero_add, if_pos rfl, hx]
  rw [es] at ew
  rw [← ew] at hP hD
  have hO : ev_ok (T ++ [te]) := ev_ok_app hOT (fun t2 ht2 => by
    rw [List.mem_singleton.mp ht2]
    exact hte)
  have kk := K p l e R s m args below meth c dC dI cls ad0 A Qf C0 F _ H1 locs ls (ev_ad_one (T := T) (q := q) h1 h2 hi2) (by rw [List.length_append]; omega) ⟨hP, hD, hS, hO⟩ (by rw [ev_l_cg hae hlv]; exact hl)
  rw [List.map_cons, ev_s_cg hae hst] at kk
  have er : ev_v (fun j => if j = T.length then q else ad j) (.ref T.length) = .ref q := by
    show Value.ref (if T.length = T.length then q else ad T.length) = _
    rw [if_pos rfl]
  rw [er] at kk
  exact kk
theorem ev_last {tys : List (ClassId × FieldType)} {D : va_G} {cl : List vw_C} {x : ClassId × FieldType} {s : State} (h : va_K D cl (tys ++ [x]) s) : ArrOfT s x.1 x.2 ∧ va_RA s x.1 x.2 := h.2 tys.length x (by rw [List.getElem?_append_right (Nat.le_refl _), Nat.sub_self]; rfl)
theorem e_newAi {i N : Nat} {v : Int32} {T' : List ex_T} (hd : decode cc pc = .ok (.newarray .int, 2)) (hv : ¬ v < 0) (hN : v.toNatClampNeg = N) (hN2 : N ≤ 10000) (hi : T.length = i) (hi2 : i < 1000) (hT' : T ++ [.inr (0, N, [])] = T') (hmc : k + 1 ≤ mc) (hms : n + N ≤ ms) (hlv : ∀ q ∈ lv, ev_okv T.length q.2) (hst : ∀ v ∈ st, ev_okv T.length v)
    (K : Ev own cc nL d mc ms nm rt ex n0 Rq (k + 1) (n + N) (pc + 2) lv (.ref i :: st) T' (srow σ i (fun _ => 0)) μ) : Ev own cc nL d mc ms nm rt ex n0 Rq k n pc lv (.int v :: st) T σ μ := by
  intro p l e R s m args below meth c dC dI cls ad0 A Qf C0 F ad H locs ls h1 h2 hH hl
  subst hT'
  subst hi
  obtain ⟨c1, c2, c3, c4, c5, c6, c7, c8, c9, c10, c11, c12, c13⟩ := id C0
  refine va_newa (D := (dC, dI)) (atype := .int) c1 c2 (c5 _ kA_int) (ty := .int) rfl c12.1 hH.1 hH.2.1 hH.2.2.1 c11 (N' := N) (a0 := (N, .inl (fun _ => 0))) (fun _ => rfl) hv hN (by show N * 4 ≤ _; omega) (by omega) (by omega) hd (fun q cA H1 hK hP hD hS => ?_)
  have hA : cA = cls 0 := by
    have g1 : s.vm.findClass ("[" ++ (FieldType.int).toString) = some cA := (ev_last hK).2
    have g2 : s.vm.findClass ("[" ++ (FieldType.int).toString) = some (cls 0) := (c12.1.2 0 _ rfl).2
    exact Option.some.inj (g1.symm.trans g2)
  subst hA
  exact ev_newA (te := .inr (0, N, [])) (σ' := srow σ T.length (fun _ => 0)) (μ' := μ) C0 F h1 h2 hH.2.2.2 hi2 hl hlv hst (fun j hj => srow_obj (by omega)) (fun _ _ => rfl) (by
    show Sum.inl (cls 0, ev_a _ (srow σ T.length (fun _ => 0)) μ T.length 0 N []) = _
    rw [ev_a_int (Nat.zero_le 1), srow_same]) (fun r hr => absurd hr List.not_mem_nil) hP hD hS K
theorem e_newAc {i N : Nat} {v : Int32} {T' : List ex_T} (hd : decode cc pc = .ok (.newarray .char, 2)) (hv : ¬ v < 0) (hN : v.toNatClampNeg = N) (hN2 : N ≤ 10000) (hi : T.length = i) (hi2 : i < 1000) (hT' : T ++ [.inr (1, N, [])] = T') (hmc : k + 1 ≤ mc) (hms : n + N ≤ ms) (hlv : ∀ q ∈ lv, ev_okv T.length q.2) (hst : ∀ v ∈ st, ev_okv T.length v)
    (K : Ev own cc nL d mc ms nm rt ex n0 Rq (k + 1) (n + N) (pc + 2) lv (.ref i :: st) T' (srow σ i (fun _ => 0)) μ) : Ev own cc nL d mc ms nm rt ex n0 Rq k n pc lv (.int v :: st) T σ μ := by
  intro p l e R s m args below meth c dC dI cls ad0 A Qf C0 F ad H locs ls h1 h2 hH hl
  subst hT'
  subst hi
  obtain ⟨c1, c2, c3, c4, c5, c6, c7, c8, c9, c10, c11, c12, c13⟩ := id C0
  refine va_newa (D := (dC, dI)) (atype := .char) c1 c2 (c5 _ kA_char) (ty := .char) rfl c12.1 hH.1 hH.2.1 hH.2.2.1 c11 (N' := N) (a0 := (N, .inl (fun _ => 0))) (fun _ => rfl) hv hN (by show N * 2 ≤ _; omega) (by omega) (by omega) hd (fun q cA H1 hK hP hD hS => ?_)
  have hA : cA = cls 1 := by
    have g1 : s.vm.findClass ("[" ++ (FieldType.char).toString) = some cA := (ev_last hK).2
    have g2 : s.vm.findClass ("[" ++ (FieldType.char).toString) = some (cls 1) := (c12.1.2 1 _ rfl).2
    exact Option.some.inj (g1.symm.trans g2)
  subst hA
  exact ev_newA (te := .inr (1, N, [])) (σ' := srow σ T.length (fun _ => 0)) (μ' := μ) C0 F h1 h2 hH.2.2.2 hi2 hl hlv hst (fun j hj => srow_obj (by omega)) (fun _ _ => rfl) (by
    show Sum.inl (cls 1, ev_a _ (srow σ T.length (fun _ => 0)) μ T.length 1 N []) = _
    rw [ev_a_int (Nat.le_refl 1), srow_same]) (fun r hr => absurd hr List.not_mem_nil) hP hD hS K
theorem e_newAl {i N : Nat} {v : Int32} {T' : List ex_T} (hd : decode cc pc = .ok (.newarray .long, 2)) (hv : ¬ v < 0) (hN : v.toNatClampNeg = N) (hN2 : N ≤ 10000) (hi : T.length = i) (hi2 : i < 1000) (hT' : T ++ [.inr (2, N, [])] = T') (hmc : k + 1 ≤ mc) (hms : n + N ≤ ms) (hlv : ∀ q ∈ lv, ev_okv T.length q.2) (hst : ∀ v ∈ st, ev_okv T.length v)
    (K : Ev own cc nL d mc ms nm rt ex n0 Rq (k + 1) (n + N) (pc + 2) lv (.ref i :: st) T' (srow σ i (fun _ => 0)) (lrow μ i (fun _ => 0))) : Ev own cc nL d mc ms nm rt ex n0 Rq k n pc lv (.int v :: st) T σ μ := by
  intro p l e R s m args below meth c dC dI cls ad0 A Qf C0 F ad H locs ls h1 h2 hH hl
  subst hT'
  subst hi
  obtain ⟨c1, c2, c3, c4, c5, c6, c7, c8, c9, c10, c11, c12, c13⟩ := id C0
  refine va_newa (D := (dC, dI)) (atype := .long) c1 c2 (c5 _ kA_long) (ty := .long) rfl c12.1 hH.1 hH.2.1 hH.2.2.1 c11 (N' := N) (a0 := (N, .inr (.inl (fun _ => 0)))) (fun _ => rfl) hv hN (by show N * 8 ≤ _; omega) (by omega) (by omega) hd (fun q cA H1 hK hP hD hS => ?_)
  have hA : cA = cls 2 := by
    have g1 : s.vm.findClass ("[" ++ (FieldType.long).toString) = some cA := (ev_last hK).2
    have g2 : s.vm.findClass ("[" ++ (FieldType.long).toString) = some (cls 2) := (c12.1.2 2 _ rfl).2
    exact Option.some.inj (g1.symm.trans g2)
  subst hA
  exact ev_newA (te := .inr (2, N, [])) (σ' := srow σ T.length (fun _ => 0)) (μ' := lrow μ T.length (fun _ => 0)) C0 F h1 h2 hH.2.2.2 hi2 hl hlv hst (fun j hj => srow_obj (by omega)) (fun j hj => lrow_obj (by omega)) (by
    show Sum.inl (cls 2, ev_a _ (srow σ T.length (fun _ => 0)) (lrow μ T.length (fun _ => 0)) T.length 2 N []) = _
    rw [ev_a_long, lrow_same]) (fun r hr => absurd hr List.not_mem_nil) hP hD hS K
/-- new of an array of spans -/
theorem e_newAq {idx i N : Nat} {v : Int32} {T' : List ex_T} (hd : decode cc pc = .ok (.anewarray idx, 3)) (hcl : Cond.classLink own idx "RepairGroups$Span" ∈ ev_ws) (hv : ¬ v < 0) (hN : v.toNatClampNeg = N) (hN2 : N ≤ 10000) (hi : T.length = i) (hi2 : i < 1000) (hT' : T ++ [.inr (5, N, List.replicate N none)] = T') (hmc : k + 1 ≤ mc) (hms : n + N ≤ ms) (hlv : ∀ q ∈ lv, ev_okv T.length q.2) (hst : ∀ v ∈ st, ev_okv T.length v)
    (K : Ev own cc nL d mc ms nm rt ex n0 Rq (k + 1) (n + N) (pc + 3) lv (.ref i :: st) T' (srow σ i (fun _ => 0)) μ) : Ev own cc nL d mc ms nm rt ex n0 Rq k n pc lv (.int v :: st) T σ μ := by
  intro p l e R s m args below meth c dC dI cls ad0 A Qf C0 F ad H locs ls h1 h2 hH hl
  subst hT'
  subst hi
  obtain ⟨c1, c2, c3, c4, c5, c6, c7, c8, c9, c10, c11, c12, c13⟩ := id C0
  refine va_newq (D := (dC, dI)) c1 c2 c4 (c5 _ hcl) c12.2.2.2.2.1 c12.1 hH.1 hH.2.1 hH.2.2.1 c11 hv hN (by omega) (by omega) (by omega) hd (fun q cA H1 hK hP hD hS => ?_)
  have hA : cA = cls 5 := by
    obtain ⟨-, -, -, -, -, g1⟩ := (ev_last hK).2
    obtain ⟨-, -, -, -, -, g2⟩ := (c12.1.2 5 _ rfl).2
    exact Option.some.inj (g1.symm.trans g2)
  subst hA
  exact ev_newA (te := .inr (5, N, List.replicate N none)) (σ' := srow σ T.length (fun _ => 0)) (μ' := μ) C0 F h1 h2 hH.2.2.2 hi2 hl hlv hst (fun j hj => srow_obj (by omega)) (fun _ _ => rfl) (by
    show Sum.inl (cls 5, ev_a _ (srow σ T.length (fun _ => 0)) μ T.length 5 N (List.replicate N none)) = _
    rw [ev_a_ref (by decide)]
    refine congrArg (fun z => Sum.inl (cls 5, N, Sum.inr (Sum.inr (Sum.inr (Sum.inr z))))) (funext fun j => ?_)
    rw [List.getD_eq_getElem?_getD, List.getElem?_replicate]
    split <;> rfl) (fun r hr => by
    have := List.eq_of_mem_replicate hr
    cases this) hP hD hS K
/-- a reference into a final field of one's own, in a constructor -/
theorem e_putR {i idx ci f r : Nat} {sl : List (Option (Option Nat))} {ty : FieldType} {T' : List ex_T} (hd : decode cc pc = .ok (.putfield idx, 3)) (hk : ev_lk own idx ci f ty true) (hT : T[i]? = some (.inl (ci, sl))) (hf : f < sl.length) (hr : r < T.length) (hn : ∀ a, narrow ty (.ref a) = .ref a) (hfit : ∀ a, fits ty (.ref a) = true) (hnm0 : nm = "<init>") (hT' : T.set i (.inl (ci, sl.set f (some (some r)))) = T')
    (K : Ev own cc nL d mc ms nm rt ex n0 Rq k n (pc + 3) lv st T' σ μ) : Ev own cc nL d mc ms nm rt ex n0 Rq k n pc lv (.ref r :: .ref i :: st) T σ μ := by
  intro p l e R s m args below meth c dC dI cls ad0 A Qf C0 F ad H locs ls h1 h2 hH hl
  subst hT'
  obtain ⟨c1, c2, c3, c4, c5, c6, c7, c8, c9, c10, c11, c12, c13⟩ := id C0
  obtain ⟨Cn, TT, N, ty0, hc, hin, hfN, hlk, hty, hnm, hfin, hdecl, hpd⟩ := hk
  refine va_putF (D := (dC, dI)) c1 c2 (Ts := ev_ws) c5 hin ty0 hty hnm c4 c12.1 hH.1 hH.2.1 hH.2.2.1 i (ev_w_get hT) hc f hfN (c5 _ hlk) (fun _ h => h) hfin (c6.trans hnm0) (hdecl rfl) hpd (hn (ad r)) (hfit (ad r)) (by rw [List.length_mapIdx]; exact hf) hd (fun H1 locs1 hP hD hS => ?_)
  have e1 : (ev_w ad cls T σ μ).set i (ad i, .inr (ci, (sl.mapIdx fun k s => ev_s ad σ i k s).set f (.ref (ad r)))) = ev_w ad cls (T.set i (.inl (ci, sl.set f (some (some r))))) σ μ := by
    unfold ev_w
    apply List.ext_getElem?
    intro j
    rw [List.getElem?_set, List.getElem?_mapIdx, List.getElem?_mapIdx, List.getElem?_set, List.length_mapIdx]
    by_cases hj : i = j
    · subst hj
      have hlt := (List.getElem?_eq_some_iff.mp hT).1
      rw [if_pos rfl, if_pos hlt, if_pos rfl, if_pos hlt]
      refine congrArg (fun z => some (ad i, Sum.inr (ci, z))) ?_
      apply List.ext_getElem?
      intro x
      rw [List.getElem?_set, List.getElem?_mapIdx, List.getElem?_mapIdx, List.getElem?_set, List.length_mapIdx]
      by_cases hx : f = x
      · subst hx
        rw [if_pos rfl, if_pos hf, if_pos rfl, if_pos hf]
        rfl
      · rw [if_neg hx, if_neg hx]
    · rw [if_neg hj, if_neg hj]
  have hP2 : va_P (dC, dI) vwCl (ev_w ad cls (T.set i (.inl (ci, sl.set f (some (some r))))) σ μ) H1 := by
    rw [← e1]
    exact hP
  have hD2 : va_D A (ev_w ad cls (T.set i (.inl (ci, sl.set f (some (some r))))) σ μ) := by
    rw [← e1]
    exact hD
  have hO : ev_ok (T.set i (.inl (ci, sl.set f (some (some r))))) := fun te hte => by
    rw [List.length_set]
    rcases List.mem_or_eq_of_mem_set hte with q | q
    · exact hH.2.2.2 te q
    · rw [q]
      intro x hx
      rcases List.mem_or_eq_of_mem_set hx with z | z
      · exact hH.2.2.2 _ (List.mem_of_getElem? hT) x z
      · cases z
        exact hr
  exact K p l e R s m args below meth c dC dI cls ad0 A Qf C0 F ad H1 locs1 ls h1 (by rw [List.length_set]; exact h2) ⟨hP2, hD2, hS, hO⟩ hl
/-- Object's constructor -/
theorem e_objI {idx i : Nat} (hd : decode cc pc = .ok (.invokespecial idx, 3)) (hk : Cond.methodLink own idx objectInit ∈ ev_ws) (hd2 : 2 ≤ d) (hst : (st.map fun v => v.category).sum ≤ 8)
    (K : Ev own cc nL d mc ms nm rt ex n0 Rq k n (pc + 3) lv st T σ μ) : Ev own cc nL d mc ms nm rt ex n0 Rq k n pc lv (.ref i :: st) T σ μ := by
  intro p l e R s m args below meth c dC dI cls ad0 A Qf C0 F ad H locs ls h1 h2 hH hl
  obtain ⟨c1, c2, c3, c4, c5, c6, c7, c8, c9, c10, c11, c12, c13⟩ := id C0
  have hr := ev_room (m := m) (ls := ls) (pc := pc) (st0 := ((.ref i :: st).map (ev_v ad))) (ad := ad) hst
  exact W.objInit c1 c2 c4 (c5 _ hk) (c5 _ ko_i) (c5 _ ko_c) rfl (hl.1.trans c3.symm) rfl hd (by omega) (by omega) (K p l e R s m args below meth c dC dI cls ad0 A Qf C0 F ad H locs ls h1 h2 hH hl)
/-- a constructor's call -/
theorem e_callI {idx na d' mc' ms' b maxL : Nat} {y : MethodName} {bytes : ByteArray} {As rest : List Value} {RqI : List ex_T → ex_S → ex_L → Prop} (hd : decode cc pc = .ok (.invokespecial idx, 3)) (hcv : ev_cvI own idx y bytes maxL none na) (hna : As.length = na) (hM : Cl d' mc' ms' y bytes maxL none (.ref b :: As) T σ μ (fun v T2 σ2 μ2 => v = none ∧ RqI T2 σ2 μ2))
    (hd' : d' + 1 ≤ d) (hk : k + mc' ≤ mc) (hk2 : n + ms' ≤ ms) (hst0 : st = As.reverse ++ .ref b :: rest) (hst : (rest.map fun v => v.category).sum ≤ 8) (hlv : ∀ q ∈ lv, ev_okv T.length q.2) (hre : ∀ v ∈ rest, ev_okv T.length v)
    (K : ∀ (T2 : List ex_T) (σ2 : ex_S) (μ2 : ex_L), RqI T2 σ2 μ2 → Ev own cc nL d mc ms nm rt ex n0 Rq (k + mc') (n + ms') (pc + 3) lv rest T2 σ2 μ2) : Ev own cc nL d mc ms nm rt ex n0 Rq k n pc lv st T σ μ := by
  intro p l e R s m args below meth c dC dI cls ad0 A Qf C F ad H locs ls h1 h2 hH hl
  obtain ⟨c1, c2, c3, c4, c5, c6, c7, c8, c9, c10, c11, c12, c13⟩ := id C
  obtain ⟨⟨w1, w2, w3, w4, w5⟩, w6, w7, w8⟩ := hcv
  subst hst0
  have cw : CallB R s args own idx y bytes maxL none (Cond.code y bytes maxL none :: ev_ws) { frames := d', cells := mc', slots := ms', locals := 60 * d' } mc' ms' na ∧ y.name = "<init>" ∧ (Cond.instanceMethod y).before args s = true :=
    ⟨callB_of na c5 (ev_good w2) rfl rfl rfl (c5 _ w3) (c5 _ w1) w4 ⟨Nat.le_trans hd' c7, by show 8 + (maxL + 11) + 60 * d' ≤ R.locals; omega⟩, w6, c5 _ w7⟩
  rw [ev_mapcons]
  refine ev_core c11 hH (va_runI (As := As.map (ev_v ad)) (rest := rest.map (ev_v ad)) ⟨c1, c2, c3, c4, c5⟩ (hM l dC dI cls ad H.size) cw ⟨ev_blind, ev_pre (.ref b :: As) C h1 hH⟩ rfl (by rw [List.length_map]; exact hna) hl.1 rfl (ev_room hst) hd ⟨by omega, by omega⟩) ?_
  intro v2 T2 σ2 μ2 ad2 H1 locs1 hpr hR ha hle hH1
  obtain ⟨e1, e2⟩ := hR
  subst e1
  have kk := K T2 σ2 μ2 e2 p l e R s m args below meth c dC dI cls ad0 A Qf C F ad2 H1 locs1 ls (fun j hj => (ha j (by omega)).trans (h1 j hj)) (Nat.le_trans h2 hle) hH1 (by rw [ev_l_cg ha hlv]; exact hl)
  rw [ev_s_cg ha hre] at kk
  exact kk
end EVM
