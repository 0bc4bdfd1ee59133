section EVC
variable {own : String} {cc : ByteArray} {nL d mc ms : Nat} {nm : String} {rt : Option FieldType} {ex : List (Nat × Nat × (Nat → Int32))} {n0 : Nat} {Rq : ev_Q} {k n pc : Nat} {lv : List (Nat × Value)} {st : List Value} {T : List ex_T} {σ : ex_S} {μ : ex_L}
def ev_pr : Option Value → Prop
  | some (.int _) => True
  | some (.long _) => True
  | none => True
  | _ => False
def ev_Pb (dC : Nat → ClassId) (dI : Nat → Nat → Nat) (cls : Nat → ClassId) (ad : Nat → Nat) (T : List ex_T) (σ : ex_S) (μ : ex_L) (sz : Nat) : State → Prop := fun U =>
  U.heap.size = sz ∧ va_P (dC, dI) vwCl (ev_w ad cls T σ μ) U.heap ∧ va_D (fun _ => True) (ev_w ad cls T σ μ) ∧ ev_K dC dI cls U ∧ ev_X ad (va_A (ev_w ad cls T σ μ) sz) ev_ext U ∧ ev_ok T
def ev_Qb (dC : Nat → ClassId) (dI : Nat → Nat → Nat) (cls : Nat → ClassId) (ad : Nat → Nat) (T : List ex_T) (σ : ex_S) (μ : ex_L) (sz : Nat) (Rq : ev_Q) : Array Value → State → Outcome → State → Prop := fun _ s o t =>
  (∃ (v : Option Value) (T' : List ex_T) (σ' : ex_S) (μ' : ex_L) (ad' : Nat → Nat), o = .returned v ∧ ev_pr v ∧ Rq v T' σ' μ' ∧ ev_ad T.length ad ad' ∧ T.length ≤ T'.length ∧ va_P (dC, dI) vwCl (ev_w ad' cls T' σ' μ') t.heap ∧ va_D (va_A (ev_w ad cls T σ μ) sz) (ev_w ad' cls T' σ' μ') ∧ ev_ok T') ∧ va_F (va_A (ev_w ad cls T σ μ) sz) s t
/-- A CONTRACT: from the heap T σ μ with these arguments the method returns, with what Rq holds of -/
def Cl (d mc ms : Nat) (y : MethodName) (bytes : ByteArray) (maxL : Nat) (ret : Option FieldType) (As : List Value) (T : List ex_T) (σ : ex_S) (μ : ex_L) (Rq : ev_Q) : Prop :=
  ∀ (l : Launch) (dC : Nat → ClassId) (dI : Nat → Nat → Nat) (cls : Nat → ClassId) (ad : Nat → Nat) (sz : Nat),
    Met l y (Cond.code y bytes maxL ret :: ev_ws) { frames := d, cells := mc, slots := ms, locals := 60 * d } (va_Pc (As.map (ev_v ad)) (ev_Pb dC dI cls ad T σ μ sz)) (ev_Qb dC dI cls ad T σ μ sz Rq) mc ms (va_A (ev_w ad cls T σ μ) sz)
/-- a contract of a method that makes nothing: its answer, and the heap behind it -/
abbrev Fn (d : Nat) (y : MethodName) (bytes : ByteArray) (maxL : Nat) (ret : Option FieldType) (As : List Value) (T : List ex_T) (σ : ex_S) (μ : ex_L) (v : Option Value) (σ' : ex_S) (μ' : ex_L) : Prop :=
  Cl d 0 0 y bytes maxL ret As T σ μ (fun v2 T2 σ2 μ2 => v2 = v ∧ T2 = T ∧ σ2 = σ' ∧ μ2 = μ')
theorem ev_args (ad : Nat → Nat) : ∀ (i : Nat) (As : List Value), lv_args i (As.map (ev_v ad)) = ev_l ad (lv_args i As)
  | _, [] => rfl
  | i, v :: vs => by
    show (i, ev_v ad v) :: lv_args (if (ev_v ad v).category = 2 then i + 2 else i + 1) (vs.map (ev_v ad)) = (i, ev_v ad v) :: ev_l ad (lv_args (if v.category = 2 then i + 2 else i + 1) vs)
    rw [ev_cat, ev_args ad _ vs]
theorem ev_lgsl (ad : Nat → Nat) : ∀ As : List Value, (lg_sl (As.map (ev_v ad))).length = (lg_sl As).length
  | [] => rfl
  | v :: vs => by
    have h := ev_lgsl ad vs
    have hc := ev_cat ad v
    simp only [lg_sl, List.map_cons, List.flatMap_cons, List.length_append] at h ⊢
    rw [h]
    congr 1
    cases v <;> rfl
theorem Cl_of {y : MethodName} {bytes : ByteArray} {maxL : Nat} {ret : Option FieldType} {As : List Value} (hy : plainName y.cls = true) (hlen : (lg_sl As).length ≤ maxL)
    (hE : Ev y.cls bytes maxL d mc ms y.name ret ev_ext T.length Rq 0 0 0 (lv_args 0 As) [] T σ μ) : Cl d mc ms y bytes maxL ret As T σ μ Rq := by
  intro l dC dI cls ad sz
  refine Met.ofW (cc := bytes) (maxL := maxL) (ret := ret) hy rfl ?_
  intro p e s m args below meth c s₁ B hml hv
  obtain ⟨rfl, hsz, hP, hD0, hK, hX, hO⟩ := hv
  subst hsz
  have hD : va_D (va_A (ev_w ad cls T σ μ) s.heap.size) (ev_w ad cls T σ μ) := hD0.self
  have hown : s.vm.findClass y.cls = some m.cls := findClass_of_methodNamed B.named
  have hnm := (name_of_methodNamed B.named B.method).1
  have hts := atoms_spec (ws := Cond.code y bytes maxL ret :: ev_ws) B.pre
  have hl := lv_entry (As.map (ev_v ad)) (n := maxL) (by rw [ev_lgsl]; exact hlen)
  rw [ev_args] at hl
  rw [lg_entry_eq]
  refine hE p l e _ s m _ below meth c dC dI cls ad (va_A (ev_w ad cls T σ μ) s.heap.size) _ ⟨B.exec, B.bytes, hml, hown, fun w h => hts w (List.mem_cons_of_mem _ h), hnm, Nat.le_refl _, Nat.le_refl _, Nat.le_refl _, Nat.le_refl _, fun q h => Or.inr h, hK, hX⟩ ?_ ad s.heap [] _ (fun _ _ => rfl) (Nat.le_refl _) ⟨hP, hD, va_S.rf, hO⟩ hl
  intro ad' H locs ls pc T' σ' μ' ha hle hH
  have hfin : ∀ (v : Option Value), ev_pr v → Rq v T' σ' μ' → ∀ t : State, t.heap = H → ev_Qb dC dI cls ad T σ μ s.heap.size Rq ((As.map (ev_v ad)).toArray) s (.returned v) t := fun v hv hR t ht =>
    ⟨⟨v, T', σ', μ', ad', rfl, hv, hR, ha, hle, by rw [ht]; exact hH.1, hH.2.1, hH.2.2.2⟩, hH.2.2.1.F ht⟩
  refine ⟨fun x hdg hnw hR => ?_, fun x hdg hr hR => ?_, fun hdg hr hR => ?_⟩
  · obtain ⟨ty, hr, hn⟩ := hnw
    exact W.zret B.exec B.bytes (B.returns.trans hr) hn (fun t ht _ => hfin (some (.int x)) trivial hR t ht) hH.2.2.1.2.2 hdg B.notSynchronized
  · exact W.lret B.exec B.bytes (B.returns.trans hr) (fun t ht _ => hfin (some (.long x)) trivial hR t ht) hH.2.2.1.2.2 hdg B.notSynchronized
  · exact W.vret B.exec B.bytes (B.returns.trans hr) (fun t ht _ => hfin none trivial hR t ht) hH.2.2.1.2.2 hdg B.notSynchronized
-- a call
theorem ev_K_moved {dC : Nat → ClassId} {dI : Nat → Nat → Nat} {cls : Nat → ClassId} {s U : State} (hW : s.WarmedH U.vm) (h : ev_K dC dI cls s) : ev_K dC dI cls U :=
  ⟨va_K.moved hW.alike h.1, h.2.1.warmM hW, h.2.2.1.warmM hW, h.2.2.2.1.warmM hW, h.2.2.2.2.1.moved hW.alike, h.2.2.2.2.2.1.moved hW.alike, h.2.2.2.2.2.2.moved hW.alike⟩
theorem ev_sub {A : Nat → Prop} {s : State} {H : Heap} {locs : List Loc} {ws : va_W} (hD : va_D A ws) (hS : va_S A s.heap H locs) (hA : ∀ q, s.heap.size ≤ q → A q) : ∀ q, va_A ws H.size q → A q := by
  intro q h
  rcases h with ⟨j, e, h⟩ | h
  · exact hD.2 j (q, e) h
  · exact hA q (Nat.le_trans hS.1 h)
theorem ev_X_moved {ad0 ad : Nat → Nat} {A B : Nat → Prop} {s U : State} {H : Heap} {locs : List Loc} (hX : ev_X ad0 A ex s) (hU : U.heap = H) (hW : s.WarmedH U.vm) (hS : va_S A s.heap H locs) (ha : ∀ i, 1000 ≤ i → ad i = ad0 i) (hBA : ∀ q, B q → A q) : ev_X ad B ev_ext U := by
  have hk : ∀ a : Nat, a < s.heap.size → ¬ A a → U.heap[a]? = s.heap[a]? := fun a h1 h2 => by rw [hU]; exact hS.2.1 a h1 h2
  refine ⟨?_, List.mem_singleton_self _, fun x hx => ?_⟩
  · rw [ha 1000 (Nat.le_refl _)]
    exact ((hX.1.moved hW.alike).kept hk).narrow hBA
  · obtain rfl := List.mem_singleton.mp hx
    obtain ⟨g1, g2, g3, g4⟩ := hX.2.2 _ hX.2.1
    dsimp only at g1 g2 g3 g4 ⊢
    rw [ha 1000 (Nat.le_refl _)]
    exact ⟨(g1.moved hW.alike).kept (hk _ g2 g3), by rw [hU]; exact Nat.lt_of_lt_of_le g2 hS.1, fun h => g3 (hBA _ h), g4⟩
theorem ev_blind {dC : Nat → ClassId} {dI : Nat → Nat → Nat} {cls : Nat → ClassId} {ad : Nat → Nat} {As : List Value} {sz : Nat} : FrameBlind (va_Pc As (ev_Pb dC dI cls ad T σ μ sz)) := by
  intro a U g mk q
  obtain ⟨q0, q1, q2, q3, ⟨k1, k2, k3, k4, k5, k6, k7⟩, ⟨x1, x2, x3⟩, q6⟩ := q
  refine ⟨q0, q1, q2, q3, ⟨va_K.moved (u := U) (U := U.calling g mk a) (Vm.Alike.refl U.vm) k1, va_Nw.same rfl rfl k2, va_Nw.same rfl rfl k3, va_Nw.same rfl rfl k4, va_AO.moved (u := U) (U := U.calling g mk a) (Vm.Alike.refl U.vm) k5, ev_AO.moved (u := U) (U := U.calling g mk a) (Vm.Alike.refl U.vm) k6, ev_AO.moved (u := U) (U := U.calling g mk a) (Vm.Alike.refl U.vm) k7⟩, ⟨va_Z.moved (u := U) (U := U.calling g mk a) (Vm.Alike.refl U.vm) x1, x2, fun x hx => ?_⟩, q6⟩
  obtain ⟨g1, g2, g3, g4⟩ := x3 x hx
  exact ⟨va_X.moved (u := U) (U := U.calling g mk a) (Vm.Alike.refl U.vm) g1, g2, g3, g4⟩
theorem ev_good {y : MethodName} {bytes : ByteArray} {maxL : Nat} {ret : Option FieldType} (h : Cond.code y bytes maxL ret ∈ ev_ws) : GoodIn ev_ws (Cond.code y bytes maxL ret :: ev_ws) := by
  intro w hw
  have hm : w ∈ ev_ws := by
    rcases List.mem_cons.mp hw with rfl | hw
    · exact h
    · exact hw
  exact ⟨hm, good_of_word (ev_ws_good w hm)⟩
theorem ev_core {p : Program} {l : Launch} {e : Env} {R : Room} {s : State} {m : MethodId} {args : Array Value} {below : List Frame} {meth : Method} {c : Code} {dC : Nat → ClassId} {dI : Nat → Nat → Nat} {cls : Nat → ClassId} {A : Nat → Prop} {Qf : State → Prop} {ad : Nat → Nat} {H : Heap} {locs : List Loc} {ls : Array Slot} {mc' ms' : Nat} {st0 rest : List Value} {Rq' : ev_Q} {a : Array Value}
    (hA : ∀ q, s.heap.size ≤ q → A q) (hH : ev_H dC dI cls A s ad T σ μ H locs)
    (hr : va_Run p l e R s m args below meth c H locs k n mc' ms' (F0 m pc ls st0) rest (ev_Qb dC dI cls ad T σ μ H.size Rq' a) (va_A (ev_w ad cls T σ μ) H.size))
    (kk : ∀ (v : Option Value) (T' : List ex_T) (σ' : ex_S) (μ' : ex_L) (ad' : Nat → Nat) (H1 : Heap) (locs1 : List Loc), ev_pr v → Rq' v T' σ' μ' → ev_ad T.length ad ad' → T.length ≤ T'.length → ev_H dC dI cls A s ad' T' σ' μ' H1 locs1 → W p l e R s m args below meth c H1 locs1 (k + mc') (n + ms') Qf (F0 m (pc + 3) ls (v.toList ++ rest))) :
    W p l e R s m args below meth c H locs k n Qf (F0 m pc ls st0) := by
  have hs := ev_sub hH.2.1 hH.2.2.1 hA
  intro U hU X
  obtain ⟨v, st₀, t, U', L, h0, X', hL, e1, e2, ⟨⟨v2, T', σ', μ', ad', hv, hpr, hR, ha, hle, hP', hD', hO'⟩, hz, hk⟩, go⟩ := hr U hU X
  cases hv
  rw [h0] at hz hk
  obtain ⟨t2, a1, b1⟩ := kk v T' σ' μ' ad' U'.heap (locs ++ L) hpr hR ha hle ⟨by rw [e1]; exact hP', hD'.weaken (fun _ _ _ h => hs _ h), ⟨Nat.le_trans hH.2.2.1.1 (by rw [e1]; exact hz), fun q g1 g2 => by
      rw [e1, hk q (Nat.lt_of_lt_of_le g1 hH.2.2.1.1) (fun z => g2 (hs q z))]
      exact hH.2.2.1.2.1 q g1 g2, fun q hq => by
      rcases List.mem_append.mp hq with h | h
      · exact hH.2.2.1.2.2 q h
      · exact hs _ (hL q h)⟩, hO'⟩ U' rfl X'
  exact ⟨t2, go t2 a1, b1⟩
theorem ev_pre {p : Program} {R : Room} {s : State} {m : MethodId} {args : Array Value} {meth : Method} {c : Code} {dC : Nat → ClassId} {dI : Nat → Nat → Nat} {cls : Nat → ClassId} {ad0 ad : Nat → Nat} {A : Nat → Prop} {H : Heap} {locs : List Loc} (As : List Value)
    (C : ev_C own cc nL d mc ms nm ex p R s m args meth c dC dI cls ad0 A) (h1 : ev_ad n0 ad0 ad) (hH : ev_H dC dI cls A s ad T σ μ H locs) :
    ∀ U : State, U.heap = H → s.WarmedH U.vm → va_Pc (As.map (ev_v ad)) (ev_Pb dC dI cls ad T σ μ H.size) (As.map (ev_v ad)).toArray U := by
  obtain ⟨c1, c2, c3, c4, c5, c6, c7, c8, c9, c10, c11, c12, c13⟩ := C
  intro U hU hW
  exact ⟨rfl, by rw [hU], by rw [hU]; exact hH.1, hH.2.1.weaken (fun _ _ _ _ => trivial), ev_K_moved hW c12, ev_X_moved c13 hU hW hH.2.2.1 (fun i hi => h1 i (Or.inr hi)) (ev_sub hH.2.1 hH.2.2.1 c11), hH.2.2.2⟩
/-- behind a call that made nothing -/
theorem ev_same {ad ad' : Nat → Nat} {cls : Nat → ClassId} (ha : ev_ad T.length ad ad') (hO : ev_ok T) : ev_w ad' cls T σ μ = ev_w ad cls T σ μ := by
  apply List.ext_getElem?
  intro j
  rw [ev_w, ev_w, List.getElem?_mapIdx, List.getElem?_mapIdx]
  cases hj : T[j]? with
  | none => rfl
  | some te =>
    have hlt := (List.getElem?_eq_some_iff.mp hj).1
    have hte := hO te (List.mem_of_getElem? hj)
    show some (ad' j, ev_e ad' cls σ μ j te) = some (ad j, ev_e ad cls σ μ j te)
    rw [ha j (Or.inl hlt)]
    refine congrArg (fun z => some (ad j, z)) ?_
    have hmap : ∀ r : Option Nat, (∀ x, r = some x → x < T.length) → r.map ad' = r.map ad := by
      intro r hr
      cases r with
      | none => rfl
      | some x => exact congrArg some (ha x (Or.inl (hr x rfl)))
    cases te with
    | inl o =>
      show Sum.inr (o.1, _) = Sum.inr (o.1, _)
      refine congrArg (fun z => Sum.inr (o.1, z)) ?_
      apply List.ext_getElem?
      intro q
      rw [List.getElem?_mapIdx, List.getElem?_mapIdx]
      cases hq : o.2[q]? with
      | none => rfl
      | some sl =>
        cases sl with
        | none => rfl
        | some r =>
          show some (va_rf (r.map ad')) = some (va_rf (r.map ad))
          rw [hmap r (fun x hx => hte x (by rw [← hx]; exact List.mem_of_getElem? hq))]
    | inr a =>
      obtain ⟨ty, N, fs⟩ := a
      show Sum.inl (cls ty, ev_a ad' σ μ j ty N fs) = Sum.inl (cls ty, ev_a ad σ μ j ty N fs)
      refine congrArg (fun z => Sum.inl (cls ty, z)) ?_
      unfold ev_a
      have hf : (fun q => (fs.getD q none).map ad') = (fun q => (fs.getD q none).map ad) := by
        funext q
        refine hmap _ (fun x hx => hte x ?_)
        rw [List.getD_eq_getElem?_getD] at hx
        cases hq : fs[q]? with
        | none => rw [hq] at hx; cases hx
        | some r =>
          rw [hq] at hx
          dsimp only [Option.getD_some] at hx
          rw [← hx]
          exact List.mem_of_getElem? hq
      rw [hf]
theorem ev_mapcons (ad : Nat → Nat) (As rest : List Value) (b : Nat) : (As.reverse ++ Value.ref b :: rest).map (ev_v ad) = (As.map (ev_v ad)).reverse ++ .ref (ad b) :: rest.map (ev_v ad) := by
  rw [List.map_append, List.map_reverse, List.map_cons]
  rfl
theorem ev_mapapp (ad : Nat → Nat) (As rest : List Value) : (As.reverse ++ rest).map (ev_v ad) = (As.map (ev_v ad)).reverse ++ rest.map (ev_v ad) := by
  rw [List.map_append, List.map_reverse]
theorem ev_vl {v : Option Value} (h : ev_pr v) (ad : Nat → Nat) : v.toList.map (ev_v ad) = v.toList := by
  cases v with
  | none => rfl
  | some v => cases v <;> first | rfl | exact absurd h id
theorem ev_room {m : MethodId} {ls : Array Slot} {st0 rest : List Value} {ad : Nat → Nat} (h : (rest.map fun v => v.category).sum ≤ 8) : 2 * (F0 m pc ls st0).monitorRoom + ((rest.map (ev_v ad)).map fun v => v.category).sum ≤ 8 := lv_room (by rw [ev_cats]; exact h)
/-- invokevirtual of a method that makes nothing -/
theorem e_callV {idx na d' b ci maxL : Nat} {y : MethodName} {bytes : ByteArray} {ret : Option FieldType} {sl : List (Option (Option Nat))} {As rest : List Value} {v : Option Value} {σ' : ex_S} {μ' : ex_L} (hd : decode cc pc = .ok (.invokevirtual idx, 3)) (hcv : ev_cvV own idx y bytes maxL ret na) (hna : As.length = na) (hT : T[b]? = some (.inl (ci, sl))) (hc : (vwCl[ci]?).map (fun q => q.1) = some y.cls)
    (hM : Fn d' y bytes maxL ret (.ref b :: As) T σ μ v σ' μ') (hd' : d' + 1 ≤ d) (hk : k ≤ mc) (hk2 : n ≤ ms) (hst0 : st = As.reverse ++ .ref b :: rest) (hst : (rest.map fun v => v.category).sum ≤ 8)
    (K : Ev own cc nL d mc ms nm rt ex n0 Rq k n (pc + 3) lv (v.toList ++ rest) T σ' μ') : Ev own cc nL d mc ms nm rt ex n0 Rq k n pc lv st T σ μ := by
  intro p l e R s m args below meth c dC dI cls ad0 A Qf C F ad H locs ls h1 h2 hH hl
  obtain ⟨c1, c2, c3, c4, c5, c6, c7, c8, c9, c10, c11, c12, c13⟩ := id C
  obtain ⟨⟨w1, w2, w3, w4, w5⟩, w6, w7⟩ := hcv
  subst hst0
  have cw : CallW R s args own y.cls idx y bytes maxL ret (Cond.code y bytes maxL ret :: ev_ws) { frames := d', cells := 0, slots := 0, locals := 60 * d' } 0 0 na :=
    ⟨callB_of na c5 (ev_good w2) rfl rfl rfl (c5 _ w3) (c5 _ w1) w4 ⟨Nat.le_trans hd' c7, by show 8 + (maxL + 11) + 60 * d' ≤ R.locals; omega⟩, c5 _ w6, c5 _ w7⟩
  obtain ⟨q, hq1, hq2⟩ := Option.map_eq_some_iff.mp hc
  have hrc := va_recv c12.1 hH.1 hq1 (ev_w_get (ad := ad) (cls := cls) (σ := σ) (μ := μ) hT)
  rw [hq2] at hrc
  rw [ev_mapcons]
  refine ev_core c11 hH (va_runV (As := As.map (ev_v ad)) (rest := rest.map (ev_v ad)) ⟨c1, c2, c3, c4, c5⟩ (hM l dC dI cls ad H.size) cw ⟨ev_blind, hrc, ev_pre (.ref b :: As) C h1 hH⟩ rfl (by rw [List.length_map]; exact hna) hl.1 rfl (ev_room hst) hd ⟨by omega, by omega⟩) ?_
  intro v2 T' σ2 μ2 ad' H1 locs1 hpr hR ha hle hH1
  obtain ⟨e1, e2, e3, e4⟩ := hR
  rw [e1] at hpr ⊢
  rw [e2, e3, e4] at hH1
  have hH2 : ev_H dC dI cls A s ad T σ' μ' H1 locs1 := by
    have e1 := ev_same (σ := σ') (μ := μ') (cls := cls) ha hH1.2.2.2
    unfold ev_H at hH1 ⊢
    rw [e1] at hH1
    exact hH1
  have kk := K p l e R s m args below meth c dC dI cls ad0 A Qf C F ad H1 locs1 ls h1 h2 hH2 hl
  rw [List.map_append, ev_vl hpr] at kk
  exact kk
theorem e_callS {idx na d' maxL : Nat} {y : MethodName} {bytes : ByteArray} {ret : Option FieldType} {As rest : List Value} {v : Option Value} {σ' : ex_S} {μ' : ex_L} (hd : decode cc pc = .ok (.invokestatic idx, 3)) (hcv : ev_cvS own idx y bytes maxL ret na) (hna : As.length = na)
    (hM : Fn d' y bytes maxL ret As T σ μ v σ' μ') (hd' : d' + 1 ≤ d) (hk : k ≤ mc) (hk2 : n ≤ ms) (hst0 : st = As.reverse ++ rest) (hst : (rest.map fun v => v.category).sum ≤ 8)
    (K : Ev own cc nL d mc ms nm rt ex n0 Rq k n (pc + 3) lv (v.toList ++ rest) T σ' μ') : Ev own cc nL d mc ms nm rt ex n0 Rq k n pc lv st T σ μ := by
  intro p l e R s m args below meth c dC dI cls ad0 A Qf C F ad H locs ls h1 h2 hH hl
  obtain ⟨c1, c2, c3, c4, c5, c6, c7, c8, c9, c10, c11, c12, c13⟩ := id C
  obtain ⟨⟨w1, w2, w3, w4, w5⟩, w6⟩ := hcv
  subst hst0
  have cw : CallB R s args own idx y bytes maxL ret (Cond.code y bytes maxL ret :: ev_ws) { frames := d', cells := 0, slots := 0, locals := 60 * d' } 0 0 na ∧ (Cond.static y).before args s = true :=
    ⟨callB_of na c5 (ev_good w2) rfl rfl rfl (c5 _ w3) (c5 _ w1) w4 ⟨Nat.le_trans hd' c7, by show 8 + (maxL + 11) + 60 * d' ≤ R.locals; omega⟩, c5 _ w6⟩
  rw [ev_mapapp]
  refine ev_core c11 hH (va_runS (As := As.map (ev_v ad)) (rest := rest.map (ev_v ad)) ⟨c1, c2, c3, c4, c5⟩ (hM l dC dI cls ad H.size) cw ⟨ev_blind, ev_pre As C h1 hH⟩ rfl (by rw [List.length_map]; exact hna) hl.1 rfl (ev_room hst) hd ⟨by omega, by omega⟩) ?_
  intro v2 T' σ2 μ2 ad' H1 locs1 hpr hR ha hle hH1
  obtain ⟨e1, e2, e3, e4⟩ := hR
  rw [e1] at hpr ⊢
  rw [e2, e3, e4] at hH1
  have hH2 : ev_H dC dI cls A s ad T σ' μ' H1 locs1 := by
    have e1 := ev_same (σ := σ') (μ := μ') (cls := cls) ha hH1.2.2.2
    unfold ev_H at hH1 ⊢
    rw [e1] at hH1
    exact hH1
  have kk := K p l e R s m args below meth c dC dI cls ad0 A Qf C F ad H1 locs1 ls h1 h2 hH2 hl
  rw [List.map_append, ev_vl hpr] at kk
  exact kk
def ev_nl (own : String) (idx : Nat) (y : MethodName) : Prop := ∀ (dC : Nat → ClassId) (dI : Nat → Nat → Nat) (cls : Nat → ClassId) (s : State), ev_K dC dI cls s → va_Nw (.methodLinkNest own idx y RX10) s
theorem nlX4_41 : ev_nl RX4 41 yX10_isNumber := fun _ _ _ _ h => h.2.1
theorem nlX7_29 : ev_nl RX7 29 yX10_numberAt := fun _ _ _ _ h => h.2.2.1
theorem nlX3_72 : ev_nl RX3 72 yX10_numberAt := fun _ _ _ _ h => h.2.2.2.1
theorem e_callN {idx na d' maxL : Nat} {y : MethodName} {bytes : ByteArray} {ret : Option FieldType} {As rest : List Value} {v : Option Value} {σ' : ex_S} {μ' : ex_L} (hd : decode cc pc = .ok (.invokestatic idx, 3)) (hcv : ev_cvN y bytes maxL ret na) (hnl : ev_nl own idx y) (hna : As.length = na)
    (hM : Fn d' y bytes maxL ret As T σ μ v σ' μ') (hd' : d' + 1 ≤ d) (hk : k ≤ mc) (hk2 : n ≤ ms) (hst0 : st = As.reverse ++ rest) (hst : (rest.map fun v => v.category).sum ≤ 8)
    (K : Ev own cc nL d mc ms nm rt ex n0 Rq k n (pc + 3) lv (v.toList ++ rest) T σ' μ') : Ev own cc nL d mc ms nm rt ex n0 Rq k n pc lv st T σ μ := by
  intro p l e R s m args below meth c dC dI cls ad0 A Qf C F ad H locs ls h1 h2 hH hl
  obtain ⟨c1, c2, c3, c4, c5, c6, c7, c8, c9, c10, c11, c12, c13⟩ := id C
  obtain ⟨w6, w2, w3, w4, w5⟩ := hcv
  subst hst0
  have cw : va_CN R s args own idx y RX10 bytes maxL ret (Cond.code y bytes maxL ret :: ev_ws) { frames := d', cells := 0, slots := 0, locals := 60 * d' } 0 0 na ∧ (Cond.static y).before args s = true ∧ True :=
    ⟨va_cnB na c5 (ev_good w2) rfl rfl rfl (hnl dC dI cls s c12) (c5 _ w3) w4 ⟨Nat.le_trans hd' c7, by show 8 + (maxL + 11) + 60 * d' ≤ R.locals; omega⟩, c5 _ w6, trivial⟩
  rw [ev_mapapp]
  refine ev_core c11 hH (va_runSN (As := As.map (ev_v ad)) (rest := rest.map (ev_v ad)) ⟨c1, c2, c3, c4, c5⟩ (hM l dC dI cls ad H.size) cw ⟨ev_blind, ev_pre As C h1 hH⟩ rfl (by rw [List.length_map]; exact hna) hl.1 rfl (ev_room hst) hd ⟨by omega, by omega⟩) ?_
  intro v2 T' σ2 μ2 ad' H1 locs1 hpr hR ha hle hH1
  obtain ⟨e1, e2, e3, e4⟩ := hR
  rw [e1] at hpr ⊢
  rw [e2, e3, e4] at hH1
  have hH2 : ev_H dC dI cls A s ad T σ' μ' H1 locs1 := by
    have e1 := ev_same (σ := σ') (μ := μ') (cls := cls) ha hH1.2.2.2
    unfold ev_H at hH1 ⊢
    rw [e1] at hH1
    exact hH1
  have kk := K p l e R s m args below meth c dC dI cls ad0 A Qf C F ad H1 locs1 ls h1 h2 hH2 hl
  rw [List.map_append, ev_vl hpr] at kk
  exact kk
end EVC
