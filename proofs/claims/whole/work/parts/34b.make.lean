
theorem mn_outer (c : ClassId) (N h0 : Nat) : ∀ i : Nat, Jvm.Free.Multi.outerC c N h0 i = arrV c N (fun j => va_rf (if j < i then some (h0 + 1 + j) else none))
  | 0 => by
    show ({ cls := c, slots := Array.replicate N .null, vm := .none } : Cell) = _
    rw [arrV_new]
    exact congrArg (arrV c N) (funext fun j => by rw [if_neg (Nat.not_lt_zero j)]; rfl)
  | i + 1 => by
    show (Jvm.Free.Multi.outerC c N h0 i).setSlot i (.ref (h0 + 1 + i)) = _
    rw [mn_outer c N h0 i, arrV_store]
    refine congrArg (arrV c N) (funext fun j => ?_)
    by_cases e : j = i
    · rw [e]
      simp [updV, va_rf]
    · by_cases h : j < i
      · simp [updV, e, h, Nat.lt_succ_of_lt h]
      · simp [updV, e, h, show ¬ j < i + 1 by omega]
def mn_ad (ad : Nat → Nat) (i N h : Nat) : Nat → Nat := fun j => if i ≤ j ∧ j ≤ i + N then h + (j - i) else ad j
def mn_s {α : Type} (σ : Nat → Nat → α) (i N : Nat) (z : α) : Nat → Nat → α := fun j => if i ≤ j ∧ j ≤ i + N then fun _ => z else σ j
def mn_o (i N : Nat) : List (Option Nat) := (List.range N).map fun j => some (i + 1 + j)
theorem mn_og {i N j : Nat} : (mn_o i N).getD j none = if j < N then some (i + 1 + j) else none := by
  unfold mn_o
  rw [List.getD_eq_getElem?_getD, List.getElem?_map]
  by_cases h : j < N
  · rw [List.getElem?_range h, if_pos h]
    rfl
  · rw [List.getElem?_eq_none (by rw [List.length_range]; omega), if_neg h]
    rfl
section EVN
variable {own : String} {cc : ByteArray} {nL d mc ms : Nat} {nm : String} {rt : Option FieldType} {ex : List (Nat × Nat × (Nat → Int32))} {n0 : Nat} {Rq : ev_Q} {k n pc : Nat} {lv : List (Nat × Value)} {st : List Value} {T : List ex_T} {σ : ex_S} {μ : ex_L}
/-- an array's place gets a span -/
theorem e_aast {i N r : Nat} {fs : List (Option Nat)} {sl : List (Option (Option Nat))} {x : Int32} {T' : List ex_T} (hd : decode cc pc = .ok (.aastore, 1)) (hT : T[i]? = some (.inr (5, N, fs))) (hfl : fs.length = N) (hx : vp_in x N) (hr : T[r]? = some (.inl (7, sl))) (hT' : T.set i (.inr (5, N, fs.set x.toNatClampNeg (some r))) = T')
    (K : Ev own cc nL d mc ms nm rt ex n0 Rq k n (pc + 1) lv st T' σ μ) : Ev own cc nL d mc ms nm rt ex n0 Rq k n pc lv (.ref r :: .int x :: .ref i :: st) T σ μ := by
  intro p l e R s m args below meth c dC dI cls ad0 A Qf C0 F ad H locs ls h1 h2 hH hl
  subst hT'
  obtain ⟨c1, c2, c3, c4, c5, c6, c7, c8, c9, c10, c11, c12, c13⟩ := id C0
  have hg := ev_w_getA (ad := ad) (cls := cls) (σ := σ) (μ := μ) hT
  rw [ev_a_ref (by decide)] at hg
  have hlt : x.toNatClampNeg < N := Nat.not_le.mp fun q => hx (Or.inr q)
  refine va_astq (D := (dC, dI)) c1 c2 c12.1 hH.1 hH.2.1 hH.2.2.1 i 5 r 7 (r := (RX7, TX7, 3)) hg rfl (ev_w_get hr) rfl hx hd (fun H1 locs1 hP hD hS => ?_)
  have e1 : (ev_w ad cls T σ μ).set i (ad i, .inl (cls 5, N, .inr (.inr (.inr (.inr (va_up (fun j => (fs.getD j none).map ad) x.toNatClampNeg (some (ad r)))))))) = ev_w ad cls (T.set i (.inr (5, N, fs.set x.toNatClampNeg (some r)))) σ μ := by
    unfold ev_w
    apply List.ext_getElem?
    intro j
    rw [List.getElem?_set, List.getElem?_mapIdx, List.getElem?_mapIdx, List.getElem?_set, List.length_mapIdx]
    by_cases hj : i = j
    · subst hj
      have hlt2 := (List.getElem?_eq_some_iff.mp hT).1
      rw [if_pos rfl, if_pos hlt2, if_pos rfl, if_pos hlt2]
      show _ = some (ad i, Sum.inl (cls 5, ev_a ad σ μ i 5 N (fs.set x.toNatClampNeg (some r))))
      rw [ev_a_ref (by decide)]
      refine congrArg (fun z => some (ad i, Sum.inl (cls 5, N, Sum.inr (Sum.inr (Sum.inr (Sum.inr z)))))) (funext fun q => ?_)
      unfold va_up
      show (if q = x.toNatClampNeg then some (ad r) else (fs.getD q none).map ad) = _
      rw [List.getD_eq_getElem?_getD, List.getD_eq_getElem?_getD, List.getElem?_set]
      by_cases hq : q = x.toNatClampNeg
      · rw [if_pos hq, if_pos hq.symm, if_pos (by omega)]
        rfl
      · rw [if_neg hq, if_neg (fun z => hq z.symm)]
    · rw [if_neg hj, if_neg hj]
  have hP2 : va_P (dC, dI) vwCl (ev_w ad cls (T.set i (.inr (5, N, fs.set x.toNatClampNeg (some r)))) σ μ) H1 := by
    rw [← e1]
    exact hP
  have hD2 : va_D A (ev_w ad cls (T.set i (.inr (5, N, fs.set x.toNatClampNeg (some r)))) σ μ) := by
    rw [← e1]
    exact hD
  have hO : ev_ok (T.set i (.inr (5, N, fs.set x.toNatClampNeg (some r)))) := fun te hte => by
    rw [List.length_set]
    rcases List.mem_or_eq_of_mem_set hte with q | q
    · exact hH.2.2.2 te q
    · rw [q]
      intro y hy
      rcases List.mem_or_eq_of_mem_set hy with z | z
      · exact hH.2.2.2 _ (List.mem_of_getElem? hT) y z
      · cases z
        exact (List.getElem?_eq_some_iff.mp hr).1
  exact K p l e R s m args below meth c dC dI cls ad0 A Qf C0 F ad H1 locs1 ls h1 (by rw [List.length_set]; exact h2) ⟨hP2, hD2, hS, hO⟩ hl
theorem e_mnai {idx i N M : Nat} {a b : Int32} {T' : List ex_T} (hd : decode cc pc = .ok (.multianewarray idx 2, 4)) (hcl : Cond.classLink own idx "[[I" ∈ ev_ws) (ha : ¬ a < 0) (hb : ¬ b < 0) (hN : a.toNatClampNeg = N) (hM : b.toNatClampNeg = M) (hN2 : N ≤ 100) (hM2 : M ≤ 1000) (hi : T.length = i) (hi2 : i + N < 1000) (hT' : T ++ (.inr (3, N, mn_o i N) :: List.replicate N (.inr (0, M, []))) = T') (hmc : k + (1 + N) ≤ mc) (hms : n + (N + N * M) ≤ ms)
    (hlv : ∀ q ∈ lv, ev_okv T.length q.2) (hst : ∀ v ∈ st, ev_okv T.length v) (K : Ev own cc nL d mc ms nm rt ex n0 Rq (k + 1 + N) (n + N + N * M) (pc + 4) lv (.ref i :: st) T' (mn_s σ i N 0) μ) : Ev own cc nL d mc ms nm rt ex n0 Rq k n pc lv (.int b :: .int a :: st) T σ μ := by
  intro p l e R s m args below meth c dC dI cls ad0 A Qf C0 F ad H locs ls h1 h2 hH hl
  subst hT'
  subst hi
  subst hN
  subst hM
  obtain ⟨c1, c2, c3, c4, c5, c6, c7, c8, c9, c10, c11, c12, c13⟩ := id C0
  intro T9 hT Xs
  obtain ⟨vm₁, cA, comp, -, fA, fC, hO, -, X', step⟩ := Jvm.Stand.multianewarray2F Xs c1 (ty := .int) c4 (c5 _ hcl) c12.2.2.2.2.2.1 (c5 _ kA_int) (g := F0 m pc ls (.int b :: .int a :: st.map (ev_v ad))) rfl (by rw [c2]; exact hd) rfl ha hb (by omega) (by show b.toNatClampNeg * _ ≤ _; simp only [componentBytes]; omega) (by omega) (by decide) (by decide) (by omega) (by omega)
  have hA1 : cA = cls 3 := Option.some.inj (fA.symm.trans (c12.1.2 3 _ rfl).2)
  have hA2 : comp = cls 0 := Option.some.inj (fC.symm.trans (c12.1.2 0 _ rfl).2)
  subst hA1
  subst hA2
  generalize hF : Jvm.Free.Multi.fill (T9.setVm vm₁) (cls 3) (cls 0) a.toNatClampNeg b.toNatClampNeg (defaultValue .int) a.toNatClampNeg = G at X' step
  have hTh : (T9.setVm vm₁).heap = H := hT
  obtain ⟨f1, f2, -, -⟩ := Jvm.Free.Multi.fill_facts (T9.setVm vm₁) (cls 3) (cls 0) a.toNatClampNeg b.toNatClampNeg (defaultValue .int) a.toNatClampNeg
  rw [hF, hTh] at f1 f2
  have hold : ∀ x : Nat, x < H.size → G.heap[x]? = H[x]? := fun x hx => by
    have := Jvm.Free.Multi.fill_old (T9.setVm vm₁) (cls 3) (cls 0) a.toNatClampNeg b.toNatClampNeg (defaultValue .int) (a := x) (by rw [hTh]; exact hx) a.toNatClampNeg
    rw [hF, hTh] at this
    exact this
  have hrow : ∀ j : Nat, j < a.toNatClampNeg → G.heap[H.size + 1 + j]? = some (Jvm.Free.Multi.innerC (cls 0) b.toNatClampNeg (defaultValue .int)) := fun j hj => by
    have := Jvm.Free.Multi.fill_inner (T9.setVm vm₁) (cls 3) (cls 0) a.toNatClampNeg b.toNatClampNeg (defaultValue .int) a.toNatClampNeg j hj
    rw [hF, hTh] at this
    exact this
  rw [mn_outer] at f2
  have had : ev_ad T.length ad (mn_ad ad T.length a.toNatClampNeg H.size) := fun j hj => by
    show (if _ then _ else _) = _
    rw [if_neg (by omega)]
  have hin : ∀ j, j ≤ a.toNatClampNeg → mn_ad ad T.length a.toNatClampNeg H.size (T.length + j) = H.size + j := fun j hj => by
    show (if _ then _ else _) = _
    rw [if_pos (by omega)]
    omega
  have ew := ev_w_app (L := (.inr (3, a.toNatClampNeg, mn_o T.length a.toNatClampNeg) :: List.replicate a.toNatClampNeg (.inr (0, b.toNatClampNeg, [])))) (cls := cls) (σ := σ) (σ' := (mn_s σ T.length a.toNatClampNeg 0)) (μ := μ) (μ' := μ) (ad' := mn_ad ad T.length a.toNatClampNeg H.size) hH.2.2.2 (fun j hj => had j (Or.inl hj)) (fun j hj => if_neg (by omega)) (fun _ _ => rfl)
  have hP0 : va_P (dC, dI) vwCl (ev_w ad cls T σ μ) G.heap := hH.1.kept (fun k9 x hx => hold x.1 ((hH.1 k9 x hx).lt))
  have hP1 := hP0.app (w2 := List.mapIdx (fun i te => (mn_ad ad T.length a.toNatClampNeg H.size (i + T.length), ev_e (mn_ad ad T.length a.toNatClampNeg H.size) cls (mn_s σ T.length a.toNatClampNeg 0) μ (i + T.length) te)) (.inr (3, a.toNatClampNeg, mn_o T.length a.toNatClampNeg) :: List.replicate a.toNatClampNeg (.inr (0, b.toNatClampNeg, [])))) (fun k9 x hx => by
    rw [List.getElem?_mapIdx] at hx
    cases k9 with
    | zero =>
      cases hx
      show G.heap[mn_ad ad T.length a.toNatClampNeg H.size (0 + T.length)]? = some (vp_cell (cls 3) (ev_a _ _ _ _ 3 a.toNatClampNeg (mn_o T.length a.toNatClampNeg)))
      rw [Nat.zero_add, show mn_ad ad T.length a.toNatClampNeg H.size T.length = H.size from hin 0 (Nat.zero_le _), f2, ev_a_ref (by decide), vp_cell_q]
      refine congrArg some (congrArg (arrV _ _) (funext fun j => ?_))
      rw [mn_og]
      by_cases hj : j < a.toNatClampNeg
      · rw [if_pos hj, if_pos hj]
        show Value.ref _ = Value.ref (mn_ad ad T.length a.toNatClampNeg H.size (T.length + 1 + j))
        rw [Nat.add_assoc T.length, hin (1 + j) (by omega), Nat.add_assoc]
      · rw [if_neg hj, if_neg hj]
        rfl
    | succ j =>
      have hj : j < a.toNatClampNeg := by
        cases Nat.lt_or_ge j a.toNatClampNeg with
        | inl z => exact z
        | inr z =>
          rw [List.getElem?_cons_succ, List.getElem?_replicate, if_neg (by omega)] at hx
          cases hx
      rw [List.getElem?_cons_succ, List.getElem?_replicate, if_pos hj] at hx
      cases hx
      show G.heap[mn_ad ad T.length a.toNatClampNeg H.size (j + 1 + T.length)]? = some (vp_cell (cls 0) (ev_a _ (mn_s σ T.length a.toNatClampNeg 0) μ (j + 1 + T.length) 0 b.toNatClampNeg []))
      rw [Nat.add_comm (j + 1), hin (j + 1) (by omega), Nat.add_comm j 1, ← Nat.add_assoc H.size 1 j, hrow j hj, ev_a_int (Nat.zero_le 1), show mn_s σ T.length a.toNatClampNeg (0 : Int32) (T.length + (1 + j)) = (fun _ => 0) from if_pos ⟨by omega, by omega⟩, vp_cell_i]
      show some (Jvm.Free.Multi.innerC _ _ _) = some (arrV _ _ _)
      refine congrArg some ?_
      show ({ cls := cls 0, slots := Array.replicate b.toNatClampNeg (defaultValue .int), vm := .none } : Cell) = _
      rw [arrV_new]
      rfl)
  rw [← ew] at hP1
  have hD1 : va_D A (ev_w (mn_ad ad T.length a.toNatClampNeg H.size) cls (T ++ (.inr (3, a.toNatClampNeg, mn_o T.length a.toNatClampNeg) :: List.replicate a.toNatClampNeg (.inr (0, b.toNatClampNeg, [])))) (mn_s σ T.length a.toNatClampNeg 0) μ) := by
    have hadr : ∀ (k9 : Nat) (x : Nat × va_E), (ev_w (mn_ad ad T.length a.toNatClampNeg H.size) cls (T ++ (.inr (3, a.toNatClampNeg, mn_o T.length a.toNatClampNeg) :: List.replicate a.toNatClampNeg (.inr (0, b.toNatClampNeg, [])))) (mn_s σ T.length a.toNatClampNeg 0) μ)[k9]? = some x → x.1 = mn_ad ad T.length a.toNatClampNeg H.size k9 ∧ k9 ≤ T.length + a.toNatClampNeg := fun k9 x hx => by
      unfold ev_w at hx
      rw [List.getElem?_mapIdx] at hx
      cases hy : (T ++ (.inr (3, a.toNatClampNeg, mn_o T.length a.toNatClampNeg) :: List.replicate a.toNatClampNeg (.inr (0, b.toNatClampNeg, []))) : List ex_T)[k9]? with
      | none => rw [hy] at hx; cases hx
      | some te =>
        rw [hy] at hx
        cases hx
        have := (List.getElem?_eq_some_iff.mp hy).1
        rw [List.length_append, List.length_cons, List.length_replicate] at this
        exact ⟨rfl, by omega⟩
    have hlow : ∀ k9, k9 < T.length → mn_ad ad T.length a.toNatClampNeg H.size k9 = ad k9 ∧ ad k9 < H.size ∧ A (ad k9) := fun k9 hk9 => by
      have g := ev_w_get (ad := ad) (cls := cls) (σ := σ) (μ := μ) (List.getElem?_eq_getElem hk9)
      exact ⟨had k9 (Or.inl hk9), (hH.1 k9 _ g).lt, hH.2.1.2 k9 _ g⟩
    have hhi : ∀ k9, T.length ≤ k9 → k9 ≤ T.length + a.toNatClampNeg → mn_ad ad T.length a.toNatClampNeg H.size k9 = H.size + (k9 - T.length) := fun k9 g1 g2 => by
      have := hin (k9 - T.length) (by omega)
      rwa [show T.length + (k9 - T.length) = k9 by omega] at this
    refine ⟨fun i j x y hx hy hxy => ?_, fun k9 x hx => ?_⟩
    · obtain ⟨e1, e2⟩ := hadr i x hx
      obtain ⟨e3, e4⟩ := hadr j y hy
      rw [e1, e3] at hxy
      by_cases g1 : i < T.length
      · obtain ⟨b1, b2, b3⟩ := hlow i g1
        by_cases g2 : j < T.length
        · obtain ⟨b4, b5, b6⟩ := hlow j g2
          rw [b1, b4] at hxy
          exact hH.2.1.1 i j _ _ (ev_w_get (ad := ad) (cls := cls) (σ := σ) (μ := μ) (List.getElem?_eq_getElem g1)) (ev_w_get (ad := ad) (cls := cls) (σ := σ) (μ := μ) (List.getElem?_eq_getElem g2)) hxy
        · rw [b1, hhi j (by omega) e4] at hxy
          omega
      · by_cases g2 : j < T.length
        · obtain ⟨b4, b5, b6⟩ := hlow j g2
          rw [b4, hhi i (by omega) e2] at hxy
          omega
        · rw [hhi i (by omega) e2, hhi j (by omega) e4] at hxy
          omega
    · obtain ⟨e1, e2⟩ := hadr k9 x hx
      rw [e1]
      by_cases g1 : k9 < T.length
      · obtain ⟨b1, b2, b3⟩ := hlow k9 g1
        rw [b1]
        exact b3
      · rw [hhi k9 (by omega) e2]
        exact c11 _ (by have := hH.2.2.1.1; omega)
  have hO1 : ev_ok (T ++ (.inr (3, a.toNatClampNeg, mn_o T.length a.toNatClampNeg) :: List.replicate a.toNatClampNeg (.inr (0, b.toNatClampNeg, [])))) := ev_ok_app hH.2.2.2 (fun te hte => by
    rw [List.length_cons, List.length_replicate]
    rcases List.mem_cons.mp hte with z | z
    · rw [z]
      intro r hr
      obtain ⟨j, hj, he⟩ := List.mem_map.mp hr
      have := List.mem_range.mp hj
      cases he
      omega
    · rw [List.eq_of_mem_replicate z]
      exact fun r hr => absurd hr List.not_mem_nil)
  have hS1 : va_S A s.heap G.heap locs := ⟨by rw [f1]; have := hH.2.2.1.1; omega, fun x g1 g2 => (hold x (Nat.lt_of_lt_of_le g1 hH.2.2.1.1)).trans (hH.2.2.1.2.1 x g1 g2), hH.2.2.1.2.2⟩
  have kk := K p l e R s m args below meth c dC dI cls ad0 A Qf C0 F _ G.heap locs ls (fun j hj => (had j (by omega)).trans (h1 j hj)) (by rw [List.length_append]; omega) ⟨hP1, hD1, hS1, hO1⟩ (by rw [ev_l_cg had hlv]; exact hl)
  rw [List.map_cons, ev_s_cg had hst] at kk
  have er : ev_v (mn_ad ad T.length a.toNatClampNeg H.size) (.ref T.length) = .ref H.size := congrArg Value.ref (hin 0 (Nat.zero_le _))
  rw [er] at kk
  obtain ⟨t, a1, b1⟩ := kk G rfl X'
  refine ⟨t, step t ?_, b1⟩
  have e : T9.heap.size = H.size := by rw [hT]
  rw [e]
  exact a1
theorem e_mnal {idx i N M : Nat} {a b : Int32} {T' : List ex_T} (hd : decode cc pc = .ok (.multianewarray idx 2, 4)) (hcl : Cond.classLink own idx "[[J" ∈ ev_ws) (ha : ¬ a < 0) (hb : ¬ b < 0) (hN : a.toNatClampNeg = N) (hM : b.toNatClampNeg = M) (hN2 : N ≤ 100) (hM2 : M ≤ 1000) (hi : T.length = i) (hi2 : i + N < 1000) (hT' : T ++ (.inr (4, N, mn_o i N) :: List.replicate N (.inr (2, M, []))) = T') (hmc : k + (1 + N) ≤ mc) (hms : n + (N + N * M) ≤ ms)
    (hlv : ∀ q ∈ lv, ev_okv T.length q.2) (hst : ∀ v ∈ st, ev_okv T.length v) (K : Ev own cc nL d mc ms nm rt ex n0 Rq (k + 1 + N) (n + N + N * M) (pc + 4) lv (.ref i :: st) T' (mn_s σ i N 0) (mn_s μ i N 0)) : Ev own cc nL d mc ms nm rt ex n0 Rq k n pc lv (.int b :: .int a :: st) T σ μ := by
  intro p l e R s m args below meth c dC dI cls ad0 A Qf C0 F ad H locs ls h1 h2 hH hl
  subst hT'
  subst hi
  subst hN
  subst hM
  obtain ⟨c1, c2, c3, c4, c5, c6, c7, c8, c9, c10, c11, c12, c13⟩ := id C0
  intro T9 hT Xs
  obtain ⟨vm₁, cA, comp, -, fA, fC, hO, -, X', step⟩ := Jvm.Stand.multianewarray2F Xs c1 (ty := .long) c4 (c5 _ hcl) c12.2.2.2.2.2.2 (c5 _ kA_long) (g := F0 m pc ls (.int b :: .int a :: st.map (ev_v ad))) rfl (by rw [c2]; exact hd) rfl ha hb (by omega) (by show b.toNatClampNeg * _ ≤ _; simp only [componentBytes]; omega) (by omega) (by decide) (by decide) (by omega) (by omega)
  have hA1 : cA = cls 4 := Option.some.inj (fA.symm.trans (c12.1.2 4 _ rfl).2)
  have hA2 : comp = cls 2 := Option.some.inj (fC.symm.trans (c12.1.2 2 _ rfl).2)
  subst hA1
  subst hA2
  generalize hF : Jvm.Free.Multi.fill (T9.setVm vm₁) (cls 4) (cls 2) a.toNatClampNeg b.toNatClampNeg (defaultValue .long) a.toNatClampNeg = G at X' step
  have hTh : (T9.setVm vm₁).heap = H := hT
  obtain ⟨f1, f2, -, -⟩ := Jvm.Free.Multi.fill_facts (T9.setVm vm₁) (cls 4) (cls 2) a.toNatClampNeg b.toNatClampNeg (defaultValue .long) a.toNatClampNeg
  rw [hF, hTh] at f1 f2
  have hold : ∀ x : Nat, x < H.size → G.heap[x]? = H[x]? := fun x hx => by
    have := Jvm.Free.Multi.fill_old (T9.setVm vm₁) (cls 4) (cls 2) a.toNatClampNeg b.toNatClampNeg (defaultValue .long) (a := x) (by rw [hTh]; exact hx) a.toNatClampNeg
    rw [hF, hTh] at this
    exact this
  have hrow : ∀ j : Nat, j < a.toNatClampNeg → G.heap[H.size + 1 + j]? = some (Jvm.Free.Multi.innerC (cls 2) b.toNatClampNeg (defaultValue .long)) := fun j hj => by
    have := Jvm.Free.Multi.fill_inner (T9.setVm vm₁) (cls 4) (cls 2) a.toNatClampNeg b.toNatClampNeg (defaultValue .long) a.toNatClampNeg j hj
    rw [hF, hTh] at this
    exact this
  rw [mn_outer] at f2
  have had : ev_ad T.length ad (mn_ad ad T.length a.toNatClampNeg H.size) := fun j hj => by
    show (if _ then _ else _) = _
    rw [if_neg (by omega)]
  have hin : ∀ j, j ≤ a.toNatClampNeg → mn_ad ad T.length a.toNatClampNeg H.size (T.length + j) = H.size + j := fun j hj => by
    show (if _ then _ else _) = _
    rw [if_pos (by omega)]
    omega
  have ew := ev_w_app (L := (.inr (4, a.toNatClampNeg, mn_o T.length a.toNatClampNeg) :: List.replicate a.toNatClampNeg (.inr (2, b.toNatClampNeg, [])))) (cls := cls) (σ := σ) (σ' := (mn_s σ T.length a.toNatClampNeg 0)) (μ := μ) (μ' := (mn_s μ T.length a.toNatClampNeg 0)) (ad' := mn_ad ad T.length a.toNatClampNeg H.size) hH.2.2.2 (fun j hj => had j (Or.inl hj)) (fun j hj => if_neg (by omega)) (fun j hj => if_neg (by omega))
  have hP0 : va_P (dC, dI) vwCl (ev_w ad cls T σ μ) G.heap := hH.1.kept (fun k9 x hx => hold x.1 ((hH.1 k9 x hx).lt))
  have hP1 := hP0.app (w2 := List.mapIdx (fun i te => (mn_ad ad T.length a.toNatClampNeg H.size (i + T.length), ev_e (mn_ad ad T.length a.toNatClampNeg H.size) cls (mn_s σ T.length a.toNatClampNeg 0) (mn_s μ T.length a.toNatClampNeg 0) (i + T.length) te)) (.inr (4, a.toNatClampNeg, mn_o T.length a.toNatClampNeg) :: List.replicate a.toNatClampNeg (.inr (2, b.toNatClampNeg, [])))) (fun k9 x hx => by
    rw [List.getElem?_mapIdx] at hx
    cases k9 with
    | zero =>
      cases hx
      show G.heap[mn_ad ad T.length a.toNatClampNeg H.size (0 + T.length)]? = some (vp_cell (cls 4) (ev_a _ _ _ _ 4 a.toNatClampNeg (mn_o T.length a.toNatClampNeg)))
      rw [Nat.zero_add, show mn_ad ad T.length a.toNatClampNeg H.size T.length = H.size from hin 0 (Nat.zero_le _), f2, ev_a_ref (by decide), vp_cell_q]
      refine congrArg some (congrArg (arrV _ _) (funext fun j => ?_))
      rw [mn_og]
      by_cases hj : j < a.toNatClampNeg
      · rw [if_pos hj, if_pos hj]
        show Value.ref _ = Value.ref (mn_ad ad T.length a.toNatClampNeg H.size (T.length + 1 + j))
        rw [Nat.add_assoc T.length, hin (1 + j) (by omega), Nat.add_assoc]
      · rw [if_neg hj, if_neg hj]
        rfl
    | succ j =>
      have hj : j < a.toNatClampNeg := by
        cases Nat.lt_or_ge j a.toNatClampNeg with
        | inl z => exact z
        | inr z =>
          rw [List.getElem?_cons_succ, List.getElem?_replicate, if_neg (by omega)] at hx
          cases hx
      rw [List.getElem?_cons_succ, List.getElem?_replicate, if_pos hj] at hx
      cases hx
      show G.heap[mn_ad ad T.length a.toNatClampNeg H.size (j + 1 + T.length)]? = some (vp_cell (cls 2) (ev_a _ (mn_s σ T.length a.toNatClampNeg 0) (mn_s μ T.length a.toNatClampNeg 0) (j + 1 + T.length) 2 b.toNatClampNeg []))
      rw [Nat.add_comm (j + 1), hin (j + 1) (by omega), Nat.add_comm j 1, ← Nat.add_assoc H.size 1 j, hrow j hj, ev_a_long, show mn_s μ T.length a.toNatClampNeg (0 : Int64) (T.length + (1 + j)) = (fun _ => 0) from if_pos ⟨by omega, by omega⟩, vp_cell_l]
      show some (Jvm.Free.Multi.innerC _ _ _) = some (arrV _ _ _)
      refine congrArg some ?_
      show ({ cls := cls 2, slots := Array.replicate b.toNatClampNeg (defaultValue .long), vm := .none } : Cell) = _
      rw [arrV_new]
      rfl)
  rw [← ew] at hP1
  have hD1 : va_D A (ev_w (mn_ad ad T.length a.toNatClampNeg H.size) cls (T ++ (.inr (4, a.toNatClampNeg, mn_o T.length a.toNatClampNeg) :: List.replicate a.toNatClampNeg (.inr (2, b.toNatClampNeg, [])))) (mn_s σ T.length a.toNatClampNeg 0) (mn_s μ T.length a.toNatClampNeg 0)) := by
    have hadr : ∀ (k9 : Nat) (x : Nat × va_E), (ev_w (mn_ad ad T.length a.toNatClampNeg H.size) cls (T ++ (.inr (4, a.toNatClampNeg, mn_o T.length a.toNatClampNeg) :: List.replicate a.toNatClampNeg (.inr (2, b.toNatClampNeg, [])))) (mn_s σ T.length a.toNatClampNeg 0) (mn_s μ T.length a.toNatClampNeg 0))[k9]? = some x → x.1 = mn_ad ad T.length a.toNatClampNeg H.size k9 ∧ k9 ≤ T.length + a.toNatClampNeg := fun k9 x hx => by
      unfold ev_w at hx
      rw [List.getElem?_mapIdx] at hx
      cases hy : (T ++ (.inr (4, a.toNatClampNeg, mn_o T.length a.toNatClampNeg) :: List.replicate a.toNatClampNeg (.inr (2, b.toNatClampNeg, []))) : List ex_T)[k9]? with
      | none => rw [hy] at hx; cases hx
      | some te =>
        rw [hy] at hx
        cases hx
        have := (List.getElem?_eq_some_iff.mp hy).1
        rw [List.length_append, List.length_cons, List.length_replicate] at this
        exact ⟨rfl, by omega⟩
    have hlow : ∀ k9, k9 < T.length → mn_ad ad T.length a.toNatClampNeg H.size k9 = ad k9 ∧ ad k9 < H.size ∧ A (ad k9) := fun k9 hk9 => by
      have g := ev_w_get (ad := ad) (cls := cls) (σ := σ) (μ := μ) (List.getElem?_eq_getElem hk9)
      exact ⟨had k9 (Or.inl hk9), (hH.1 k9 _ g).lt, hH.2.1.2 k9 _ g⟩
    have hhi : ∀ k9, T.length ≤ k9 → k9 ≤ T.length + a.toNatClampNeg → mn_ad ad T.length a.toNatClampNeg H.size k9 = H.size + (k9 - T.length) := fun k9 g1 g2 => by
      have := hin (k9 - T.length) (by omega)
      rwa [show T.length + (k9 - T.length) = k9 by omega] at this
    refine ⟨fun i j x y hx hy hxy => ?_, fun k9 x hx => ?_⟩
    · obtain ⟨e1, e2⟩ := hadr i x hx
      obtain ⟨e3, e4⟩ := hadr j y hy
      rw [e1, e3] at hxy
      by_cases g1 : i < T.length
      · obtain ⟨b1, b2, b3⟩ := hlow i g1
        by_cases g2 : j < T.length
        · obtain ⟨b4, b5, b6⟩ := hlow j g2
          rw [b1, b4] at hxy
          exact hH.2.1.1 i j _ _ (ev_w_get (ad := ad) (cls := cls) (σ := σ) (μ := μ) (List.getElem?_eq_getElem g1)) (ev_w_get (ad := ad) (cls := cls) (σ := σ) (μ := μ) (List.getElem?_eq_getElem g2)) hxy
        · rw [b1, hhi j (by omega) e4] at hxy
          omega
      · by_cases g2 : j < T.length
        · obtain ⟨b4, b5, b6⟩ := hlow j g2
          rw [b4, hhi i (by omega) e2] at hxy
          omega
        · rw [hhi i (by omega) e2, hhi j (by omega) e4] at hxy
          omega
    · obtain ⟨e1, e2⟩ := hadr k9 x hx
      rw [e1]
      by_cases g1 : k9 < T.length
      · obtain ⟨b1, b2, b3⟩ := hlow k9 g1
        rw [b1]
        exact b3
      · rw [hhi k9 (by omega) e2]
        exact c11 _ (by have := hH.2.2.1.1; omega)
  have hO1 : ev_ok (T ++ (.inr (4, a.toNatClampNeg, mn_o T.length a.toNatClampNeg) :: List.replicate a.toNatClampNeg (.inr (2, b.toNatClampNeg, [])))) := ev_ok_app hH.2.2.2 (fun te hte => by
    rw [List.length_cons, List.length_replicate]
    rcases List.mem_cons.mp hte with z | z
    · rw [z]
      intro r hr
      obtain ⟨j, hj, he⟩ := List.mem_map.mp hr
      have := List.mem_range.mp hj
      cases he
      omega
    · rw [List.eq_of_mem_replicate z]
      exact fun r hr => absurd hr List.not_mem_nil)
  have hS1 : va_S A s.heap G.heap locs := ⟨by rw [f1]; have := hH.2.2.1.1; omega, fun x g1 g2 => (hold x (Nat.lt_of_lt_of_le g1 hH.2.2.1.1)).trans (hH.2.2.1.2.1 x g1 g2), hH.2.2.1.2.2⟩
  have kk := K p l e R s m args below meth c dC dI cls ad0 A Qf C0 F _ G.heap locs ls (fun j hj => (had j (by omega)).trans (h1 j hj)) (by rw [List.length_append]; omega) ⟨hP1, hD1, hS1, hO1⟩ (by rw [ev_l_cg had hlv]; exact hl)
  rw [List.map_cons, ev_s_cg had hst] at kk
  have er : ev_v (mn_ad ad T.length a.toNatClampNeg H.size) (.ref T.length) = .ref H.size := congrArg Value.ref (hin 0 (Nat.zero_le _))
  rw [er] at kk
  obtain ⟨t, a1, b1⟩ := kk G rfl X'
  refine ⟨t, step t ?_, b1⟩
  have e : T9.heap.size = H.size := by rw [hT]
  rw [e]
  exact a1
end EVN
