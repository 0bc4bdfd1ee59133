/-! changes of the state; rows of two numbers told by hand: 10 0 how many are SEEN, 11 nodes, 12 symbols; 13 0 steps of the PLAN, 14 what, 15 nodes; 16 0 BOOKED, 17 nodes, 18 symbols -/
noncomputable def cif {α : Type} (P : Prop) (a b : α) : α := @ite _ P (Classical.propDecidable _) a b
theorem cif_t {α : Type} {P : Prop} {a b : α} (h : P) : cif P a b = a := if_pos h
theorem cif_f {α : Type} {P : Prop} {a b : α} (h : ¬ P) : cif P a b = b := if_neg h
abbrev out_T : Type := Int32 × ns_T
theorem VS.mk' {S S' : ns_T} (h : VS S) (e0 : S' 0 0 = S 0 0) (e1 : S' 0 1 = S 0 1) (e2 : S' 0 2 = S 0 2) (h3 : S' 0 3 < 2 ^ S 0 0)
    (hj : ∀ j, j < S 0 0 → S' 1 j = S 1 j ∧ S' 2 j ≤ 9 ∧ S' 4 j ≤ 9999 ∧ S' 5 j = S 5 j ∧ S' 3 j = S 3 j ∧ ∀ q, q < 4 → S' (20 + j) q ≤ 9) (he : ∀ e, e < S 0 1 → S' 8 e = S 8 e ∧ S' 7 e < 16) : VS S' := by
  obtain ⟨v1, v2, v3, v4, v5, v6, v7, v8⟩ := h
  unfold VS
  rw [e0, e1, e2]
  refine ⟨v1, v2, v3, v4, v5, h3, fun j hj' => ?_, fun e he' => ?_⟩
  · obtain ⟨u1, u2, u3, u4, u5, u6, u7, u8⟩ := v7 j hj'
    obtain ⟨w1, w2, w3, w4, w5, w6⟩ := hj j hj'
    rw [w1, w4, w5]
    exact ⟨u1, w2, w3, u4, w6, u6, u7, fun q => by rw [(he _ q).1]; exact u8 q⟩
  · obtain ⟨u1, u2, u3, u4⟩ := v8 e he'
    obtain ⟨w1, w2⟩ := he e he'
    rw [w1]
    exact ⟨u1, by rw [(hj _ u1).2.2.2.2.1]; exact u2, w2, by rw [(hj _ u1).2.2.2.1]; exact u4⟩
theorem VS.eqv {S S' : ns_T} (hV : VS S) (h : ∀ t k, (t < 10 ∨ 20 ≤ t) → S' t k = S t k) : VS S' :=
  hV.mk' (h 0 0 (by decide)) (h 0 1 (by decide)) (h 0 2 (by decide)) (by rw [h 0 3 (by decide)]; exact hV.2.2.2.2.2.1)
    (fun j hj => by
      obtain ⟨u1, u2, u3, u4, u5, -⟩ := hV.2.2.2.2.2.2.1 j hj
      exact ⟨h 1 j (by decide), by rw [h 2 j (by decide)]; exact u2, by rw [h 4 j (by decide)]; exact u3, h 5 j (by decide), h 3 j (by decide), fun q hq => by rw [h _ _ (Or.inr (by omega))]; exact u5 q hq⟩)
    (fun e he => ⟨h 8 e (by decide), by rw [h 7 e (by decide)]; exact (hV.2.2.2.2.2.2.2 e he).2.2.1⟩)
theorem NC.eqv {σ : ex_S} {b : Nat} {S S' : ns_T} (hC : NC σ b S) (h : ∀ t k, (t < 10 ∨ 20 ≤ t) → S' t k = S t k) : NC σ b S' := by
  obtain ⟨n1, n2, n3, n4, n5, n6⟩ := hC
  unfold NC
  rw [h 0 0 (by decide), h 0 1 (by decide), h 0 2 (by decide), h 0 3 (by decide)]
  refine ⟨n1, n2, n3, n4, fun j hj => ?_, fun e he => ?_⟩
  · rw [h 1 j (by decide), h 2 j (by decide), h 3 j (by decide), h 4 j (by decide), h 5 j (by decide)]
    obtain ⟨a1, a2, a3, a4, a5, a6⟩ := n5 j hj
    exact ⟨a1, a2, a3, a4, a5, fun q hq => by rw [h _ _ (Or.inr (by omega))]; exact a6 q hq⟩
  · rw [h 8 e (by decide), h 7 e (by decide)]
    exact n6 e he
theorem NR.eqv {σ : ex_S} {S S' : ns_T} (hR : NR σ S) (h : ∀ t k, (t < 10 ∨ 20 ≤ t) → S' t k = S t k) : NR σ S' := by
  obtain ⟨n1, n2, n3, n4, n5⟩ := hR
  unfold NR
  rw [h 0 0 (by decide), h 0 1 (by decide), h 0 3 (by decide)]
  refine ⟨n1, n2, n3, fun j hj => ?_, fun e he => ?_⟩
  · rw [h 1 j (by decide), h 2 j (by decide), h 3 j (by decide), h 4 j (by decide), h 5 j (by decide)]
    obtain ⟨a1, a2, a3, a4, a5, a6, a7⟩ := n4 j hj
    exact ⟨a1, a2, a3, a4, a5, a6, fun q hq => by rw [h _ _ (Or.inr (by omega))]; exact a7 q hq⟩
  · rw [h 7 e (by decide), h 8 e (by decide)]
    exact n5 e he
theorem NR.to2 {σ σ' : ex_S} {S : ns_T} (h : NR σ S) (h1 : ∀ i, 131 ≤ i → i ≤ 139 → σ' i = σ i) (h2 : ∀ k, 5 ≤ k → k ≤ 7 → σ' 127 k = σ 127 k) : NR σ' S := by
  obtain ⟨n1, n2, n3, n4, n5⟩ := h
  unfold NR
  rw [h2 5 (by decide) (by decide), h2 6 (by decide) (by decide), h2 7 (by decide) (by decide), h1 131 (by decide) (by decide), h1 132 (by decide) (by decide), h1 133 (by decide) (by decide), h1 134 (by decide) (by decide), h1 135 (by decide) (by decide), h1 136 (by decide) (by decide), h1 137 (by decide) (by decide), h1 138 (by decide) (by decide), h1 139 (by decide) (by decide)]
  exact ⟨n1, n2, n3, n4, n5⟩
theorem FR.to2 {σ σ' : ex_S} {p : Nat} (h : FR σ p) (h1 : ∀ i, 128 ≤ i → i ≤ 130 → σ' i = σ i) (h2 : ∀ k, k < 2 → σ' 127 k = σ 127 k) : FR σ' p := by
  obtain ⟨n1, n2, n3, n4, n5⟩ := h
  unfold FR
  rw [h2 0 (by decide), h2 1 (by decide), h1 128 (by decide) (by decide), h1 129 (by decide) (by decide), h1 130 (by decide) (by decide)]
  exact ⟨n1, n2, n3, n4, n5⟩
theorem NC.row {σ : ex_S} {b : Nat} {S : ns_T} (hV : VS S) (hC : NC σ b S) {k q v : Nat} (hk : k < S 0 0) (hq : q < 4) : NC (sup σ (b + 7 + k) q (nI v)) b (nup S (20 + k) q v) := by
  have hn := hV.1
  have hd := hV.2.1
  obtain ⟨n1, n2, n3, n4, n5, n6⟩ := hC
  unfold NC
  rw [nup_ne (by omega), nup_ne (by omega), nup_ne (by omega), nup_ne (by omega), sup_obj (by omega)]
  refine ⟨n1, n2, n3, n4, fun j hj => ?_, fun e he => ?_⟩
  · obtain ⟨a1, a2, a3, a4, a5, a6⟩ := n5 j hj
    rw [nup_ne (by omega), nup_ne (by omega), nup_ne (by omega), nup_ne (by omega), nup_ne (by omega), sup_obj (by omega), sup_obj (by omega), sup_obj (by omega), sup_obj (by omega), sup_obj (by omega)]
    refine ⟨a1, a2, a3, a4, a5, fun r hr => ?_⟩
    by_cases e : j = k ∧ r = q
    · obtain ⟨rfl, rfl⟩ := e
      rw [nup_same, sup_same]
    · rw [nup_ne (by omega)]
      by_cases e1 : j = k
      · subst e1
        rw [sup_idx (by omega)]
        exact a6 r hr
      · rw [sup_obj (by omega)]
        exact a6 r hr
  · rw [nup_ne (by omega), nup_ne (by omega), sup_obj (by omega), sup_obj (by omega)]
    exact n6 e he
theorem VS.row {S : ns_T} (hV : VS S) {k q v : Nat} (hv : v ≤ 9) : VS (nup S (20 + k) q v) := by
  have e : ∀ t i, t < 20 → nup S (20 + k) q v t i = S t i := fun t i h => nup_ne (by omega)
  refine hV.mk' (e _ _ (by decide)) (e _ _ (by decide)) (e _ _ (by decide)) (by rw [e _ _ (by decide)]; exact hV.2.2.2.2.2.1) (fun j hj => ?_) (fun e' he => ⟨e _ _ (by decide), by rw [e _ _ (by decide)]; exact (hV.2.2.2.2.2.2.2 e' he).2.2.1⟩)
  obtain ⟨u1, u2, u3, u4, u5, -⟩ := hV.2.2.2.2.2.2.1 j hj
  refine ⟨e _ _ (by decide), by rw [e _ _ (by decide)]; exact u2, by rw [e _ _ (by decide)]; exact u3, e _ _ (by decide), e _ _ (by decide), fun r hr => ?_⟩
  by_cases e2 : 20 + j = 20 + k ∧ r = q
  · unfold nup
    rw [if_pos e2]
    exact hv
  · rw [nup_ne e2]
    exact u5 r hr
theorem NR.row {σ : ex_S} {S : ns_T} (hR : NR σ S) {k q v : Nat} (hq : q < 4) : NR (sup σ 137 (4 * k + q) (nI v)) (nup S (20 + k) q v) := by
  have e : ∀ t i, t < 20 → nup S (20 + k) q v t i = S t i := fun t i h => nup_ne (by omega)
  obtain ⟨n1, n2, n3, n4, n5⟩ := hR
  unfold NR
  rw [e _ _ (by decide), e _ _ (by decide), e _ _ (by decide), sup_obj (show (127 : Nat) ≠ 137 by decide), sup_obj (show (131 : Nat) ≠ 137 by decide), sup_obj (show (132 : Nat) ≠ 137 by decide), sup_obj (show (133 : Nat) ≠ 137 by decide), sup_obj (show (134 : Nat) ≠ 137 by decide), sup_obj (show (135 : Nat) ≠ 137 by decide), sup_obj (show (136 : Nat) ≠ 137 by decide), sup_obj (show (138 : Nat) ≠ 137 by decide), sup_obj (show (139 : Nat) ≠ 137 by decide)]
  refine ⟨n1, n2, n3, fun j hj => ?_, fun e' he => ?_⟩
  · obtain ⟨a1, a2, a3, a4, a5, a6, a7⟩ := n4 j hj
    rw [e _ _ (by decide), e _ _ (by decide), e _ _ (by decide), e _ _ (by decide), e _ _ (by decide)]
    refine ⟨a1, a2, a3, a4, a5, a6, fun r hr => ?_⟩
    by_cases e2 : j = k ∧ r = q
    · obtain ⟨rfl, rfl⟩ := e2
      rw [nup_same, sup_same]
    · rw [nup_ne (by omega), sup_idx (by omega)]
      exact a7 r hr
  · rw [e _ _ (by decide), e _ _ (by decide)]
    exact n5 e' he
-- written
theorem NC.wr {σ : ex_S} {b : Nat} {S : ns_T} (hV : VS S) (hC : NC σ b S) {k v : Nat} : NC (sup σ (b + 18) k (nI v)) b (nup S 7 k v) := by
  have hn := hV.1
  have e : ∀ t i, t ≠ 7 → nup S 7 k v t i = S t i := fun t i h => nup_ne (by omega)
  obtain ⟨n1, n2, n3, n4, n5, n6⟩ := hC
  unfold NC
  rw [e _ _ (by decide), e _ _ (by decide), e _ _ (by decide), e _ _ (by decide), sup_obj (by omega)]
  refine ⟨n1, n2, n3, n4, fun j hj => ?_, fun e' he => ?_⟩
  · obtain ⟨a1, a2, a3, a4, a5, a6⟩ := n5 j hj
    rw [e _ _ (by decide), e _ _ (by decide), e _ _ (by decide), e _ _ (by decide), e _ _ (by decide), sup_obj (by omega), sup_obj (by omega), sup_obj (by omega), sup_obj (by omega), sup_obj (by omega)]
    exact ⟨a1, a2, a3, a4, a5, fun r hr => by rw [e _ _ (by omega), sup_obj (by omega)]; exact a6 r hr⟩
  · rw [e _ _ (by decide), sup_obj (by omega)]
    refine ⟨(n6 e' he).1, ?_⟩
    by_cases e2 : e' = k
    · rw [e2, nup_same, sup_same]
    · rw [nup_ne (by omega), sup_idx e2]
      exact (n6 e' he).2
theorem VS.wr {S : ns_T} (hV : VS S) {k v : Nat} (hv : v < 16) : VS (nup S 7 k v) := by
  have e : ∀ t i, t ≠ 7 → nup S 7 k v t i = S t i := fun t i h => nup_ne (by omega)
  refine hV.mk' (e _ _ (by decide)) (e _ _ (by decide)) (e _ _ (by decide)) (by rw [e _ _ (by decide)]; exact hV.2.2.2.2.2.1) (fun j hj => ?_) (fun e' he => ⟨e _ _ (by decide), ?_⟩)
  · obtain ⟨u1, u2, u3, u4, u5, -⟩ := hV.2.2.2.2.2.2.1 j hj
    exact ⟨e _ _ (by decide), by rw [e _ _ (by decide)]; exact u2, by rw [e _ _ (by decide)]; exact u3, e _ _ (by decide), e _ _ (by decide), fun r hr => by rw [e _ _ (by omega)]; exact u5 r hr⟩
  · by_cases e2 : e' = k
    · rw [e2, nup_same]
      exact hv
    · rw [nup_ne (by omega)]
      exact (hV.2.2.2.2.2.2.2 e' he).2.2.1
theorem NR.wr {σ : ex_S} {S : ns_T} (hR : NR σ S) {k v : Nat} : NR (sup σ 138 k (nI v)) (nup S 7 k v) := by
  have e : ∀ t i, t ≠ 7 → nup S 7 k v t i = S t i := fun t i h => nup_ne (by omega)
  obtain ⟨n1, n2, n3, n4, n5⟩ := hR
  unfold NR
  rw [e _ _ (by decide), e _ _ (by decide), e _ _ (by decide), sup_obj (show (127 : Nat) ≠ 138 by decide), sup_obj (show (131 : Nat) ≠ 138 by decide), sup_obj (show (132 : Nat) ≠ 138 by decide), sup_obj (show (133 : Nat) ≠ 138 by decide), sup_obj (show (134 : Nat) ≠ 138 by decide), sup_obj (show (135 : Nat) ≠ 138 by decide), sup_obj (show (136 : Nat) ≠ 138 by decide), sup_obj (show (137 : Nat) ≠ 138 by decide), sup_obj (show (139 : Nat) ≠ 138 by decide)]
  refine ⟨n1, n2, n3, fun j hj => ?_, fun e' he => ?_⟩
  · obtain ⟨a1, a2, a3, a4, a5, a6, a7⟩ := n4 j hj
    rw [e _ _ (by decide), e _ _ (by decide), e _ _ (by decide), e _ _ (by decide), e _ _ (by decide)]
    exact ⟨a1, a2, a3, a4, a5, a6, fun r hr => by rw [e _ _ (by omega)]; exact a7 r hr⟩
  · rw [e 8 _ (by decide)]
    refine ⟨?_, (n5 e' he).2⟩
    by_cases e2 : e' = k
    · rw [e2, nup_same, sup_same]
    · rw [nup_ne (by omega), sup_idx e2]
      exact (n5 e' he).1
-- missing
def nlos (S : ns_T) (k : Nat) : ns_T := nup S 0 3 (S 0 3 ||| 2 ^ k)
theorem nlos_e {S : ns_T} {k t i : Nat} (h : ¬ (t = 0 ∧ i = 3)) : nlos S k t i = S t i := nup_ne h
theorem nlos_3 {S : ns_T} {k : Nat} : nlos S k 0 3 = S 0 3 ||| 2 ^ k := nup_same
theorem NC.los {σ : ex_S} {b : Nat} {S : ns_T} (hC : NC σ b S) {k : Nat} : NC (sup σ b 3 (nI (S 0 3 ||| 2 ^ k))) b (nlos S k) := by
  obtain ⟨n1, n2, n3, n4, n5, n6⟩ := hC
  unfold NC
  rw [nlos_e (by omega), nlos_e (by omega), nlos_e (by omega), nlos_3, sup_idx (by decide), sup_idx (by decide), sup_idx (by decide), sup_same]
  refine ⟨n1, n2, n3, rfl, fun j hj => ?_, fun e he => ?_⟩
  · obtain ⟨a1, a2, a3, a4, a5, a6⟩ := n5 j hj
    rw [nlos_e (by omega), nlos_e (by omega), nlos_e (by omega), nlos_e (by omega), nlos_e (by omega), sup_obj (by omega), sup_obj (by omega), sup_obj (by omega), sup_obj (by omega), sup_obj (by omega), sup_obj (by omega)]
    exact ⟨a1, a2, a3, a4, a5, fun r hr => by rw [nlos_e (by omega)]; exact a6 r hr⟩
  · rw [nlos_e (by omega), nlos_e (by omega), sup_obj (by omega), sup_obj (by omega)]
    exact n6 e he
theorem VS.los {S : ns_T} (hV : VS S) {k : Nat} (hk : k < S 0 0) : VS (nlos S k) := by
  refine hV.mk' (nlos_e (by omega)) (nlos_e (by omega)) (nlos_e (by omega)) (by rw [nlos_3]; exact Nat.or_lt_two_pow hV.2.2.2.2.2.1 (Nat.pow_lt_pow_right (by decide) hk)) (fun j hj => ?_) (fun e' he => ⟨nlos_e (by omega), by rw [nlos_e (by omega)]; exact (hV.2.2.2.2.2.2.2 e' he).2.2.1⟩)
  obtain ⟨u1, u2, u3, u4, u5, -⟩ := hV.2.2.2.2.2.2.1 j hj
  exact ⟨nlos_e (by omega), by rw [nlos_e (by omega)]; exact u2, by rw [nlos_e (by omega)]; exact u3, nlos_e (by omega), nlos_e (by omega), fun r hr => by rw [nlos_e (by omega)]; exact u5 r hr⟩
theorem NR.los {σ : ex_S} {S : ns_T} (hR : NR σ S) {k : Nat} : NR (sup σ 135 k 1) (nlos S k) := by
  obtain ⟨n1, n2, n3, n4, n5⟩ := hR
  unfold NR
  rw [nlos_e (by omega), nlos_e (by omega), nlos_3, sup_obj (show (127 : Nat) ≠ 135 by decide), sup_obj (show (131 : Nat) ≠ 135 by decide), sup_obj (show (132 : Nat) ≠ 135 by decide), sup_obj (show (133 : Nat) ≠ 135 by decide), sup_obj (show (134 : Nat) ≠ 135 by decide), sup_obj (show (136 : Nat) ≠ 135 by decide), sup_obj (show (137 : Nat) ≠ 135 by decide), sup_obj (show (138 : Nat) ≠ 135 by decide), sup_obj (show (139 : Nat) ≠ 135 by decide)]
  refine ⟨n1, n2, n3, fun j hj => ?_, fun e' he => ?_⟩
  · obtain ⟨a1, a2, a3, a4, a5, a6, a7⟩ := n4 j hj
    rw [nlos_e (by omega), nlos_e (by omega), nlos_e (by omega), nlos_e (by omega), nlos_e (by omega)]
    refine ⟨a1, a2, a3, a4, ?_, a6, fun r hr => by rw [nlos_e (by omega)]; exact a7 r hr⟩
    rw [Nat.testBit_or, Nat.testBit_two_pow]
    by_cases e2 : j = k
    · rw [e2, sup_same, decide_eq_true rfl, Bool.or_true]
      rfl
    · rw [sup_idx e2, decide_eq_false (fun q => e2 q.symm), Bool.or_false]
      exact a5
  · rw [nlos_e (by omega), nlos_e (by omega)]
    exact n5 e' he
theorem RKI.los {σ : ex_S} {p : Nat} {S S' : ns_T} (h : RKI σ p S) (e0 : S' 0 0 = S 0 0) (e5 : ∀ j, j < S 0 0 → S' 5 j = S 5 j) : RKI σ p S' := fun u hu => by
  rw [e0] at hu
  rw [h u hu]
  have hf : ∀ n, n ≤ S 0 0 → fl S' u n = fl S u n := by
    intro n
    induction n with
    | zero => intro _; rfl
    | succ n ih =>
      intro hn
      unfold fl
      rw [ih (by omega), e5 n (by omega)]
  unfold nrk
  rw [e0, hf _ (Nat.le_refl _)]
