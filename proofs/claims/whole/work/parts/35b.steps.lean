/-! THE LAW: the worlds of both sides, and how each command keeps them -/
def WC (σ : ex_S) (μ : ex_L) (p : Nat) (S : ns_T) (z : Nat) (X : Nat → Nat) (t : tp_T) : Prop := FC σ p ∧ NC σ 33 S ∧ PG σ 52 S 10 ∧ PG σ 55 S 13 ∧ PG σ 58 S 16 ∧ RKI σ p S ∧ SpV σ 28 (fun _ => 0) 0 ∧ σ 31 0 = 0 ∧ TXC σ z X ∧ TPC σ μ t
def WR (σ : ex_S) (μ : ex_L) (p : Nat) (S : ns_T) (z : Nat) (X : Nat → Nat) (t : tp_T) : Prop := FR σ p ∧ NR σ S ∧ PH σ 22 142 S 10 ∧ PH σ 25 144 S 13 ∧ PH σ 28 146 S 16 ∧ TXR σ z X ∧ TPR σ μ t
def WI (σ : ex_S) (S : ns_T) : Prop := (σ 0 6 = 0 ∧ σ 127 31 = 0) ∨ (σ 0 6 = 1 ∧ σ 127 31 = 1 ∧ ∃ K : ns_T, VS K ∧ PSV K ∧ StC σ 61 K ∧ (∃ σk : ex_S, NR σk K ∧ PH σk 22 142 K 10 ∧ PH σk 25 144 K 13 ∧ PH σk 28 146 K 16 ∧ ∀ q, q < 202 → σ 148 q = wim σk q) ∧ K 0 0 ≤ S 0 0 ∧ ∀ j, j < K 0 0 → K 5 j = S 5 j)
def HC (σ σ' : ex_S) (μ μ' : ex_L) : Prop := (∀ i, (i = 0 ∨ (61 ≤ i ∧ i < 90) ∨ 127 ≤ i) → σ' i = σ i) ∧ μ' 153 = μ 153
def HR (σ σ' : ex_S) (μ μ' : ex_L) : Prop := (∀ i, i < 127 → σ' i = σ i) ∧ (∀ i, 121 ≤ i → i ≤ 126 → μ' i = μ i) ∧ σ' 127 31 = σ 127 31 ∧ σ' 148 = σ 148
theorem TXC.to {σ σ' : ex_S} {z : Nat} {X : Nat → Nat} (h : TXC σ z X) (h1 : σ' 3 = σ 3) (h2 : σ' 4 = σ 4) : TXC σ' z X := ⟨by rw [h1]; exact h.1, fun i hi => by rw [h2]; exact h.2 i hi⟩
theorem TXR.to {σ σ' : ex_S} {z : Nat} {X : Nat → Nat} (h : TXR σ z X) (h1 : σ' 127 17 = σ 127 17) (h2 : σ' 140 = σ 140) : TXR σ' z X := ⟨by rw [h1]; exact h.1, fun i hi => by rw [h2]; exact h.2 i hi⟩
theorem RKI.nf {σ : ex_S} {p : Nat} {S : ns_T} {x : Int32} (h : RKI σ p S) : RKI σ (nfieldP (S 0 0) p x) S := by
  by_cases e : nfieldOk x ∧ S 0 0 = 0
  · exact h.fld e.2
  · rw [nfieldP_no e]; exact h
theorem WC.keep {σ σ' : ex_S} {μ μ' : ex_L} {p : Nat} {S : ns_T} {z : Nat} {X : Nat → Nat} {t : tp_T} (hV : VS S) (h : WC σ μ p S z X t) (f : HR σ σ' μ μ') : WC σ' μ' p S z X t := by
  obtain ⟨f1, n1, a1, a2, a3, k1, s1, o1, x1, t1⟩ := h
  obtain ⟨g, gm, -, -⟩ := f
  exact ⟨f1.to (g 1 (by omega)) (g 2 (by omega)), n1.to hV (fun i a b => g i (by omega)), a1.to (fun i a b => g i (by omega)), a2.to (fun i a b => g i (by omega)), a3.to (fun i a b => g i (by omega)), k1.to (g 6 (by omega)), s1.to (g 28 (by omega)) (g 29 (by omega)), (congrFun (g 31 (by omega)) 0).trans o1, x1.to (g 3 (by omega)) (g 4 (by omega)), t1.to (g 118 (by omega)) (g 119 (by omega)) gm⟩
theorem WR.keep {σ σ' : ex_S} {μ μ' : ex_L} {p : Nat} {S : ns_T} {z : Nat} {X : Nat → Nat} {t : tp_T} (h : WR σ μ p S z X t) (f : HC σ σ' μ μ') : WR σ' μ' p S z X t := by
  obtain ⟨f2, n2, b1, b2, b3, x2, t2⟩ := h
  obtain ⟨g, gm⟩ := f
  exact ⟨f2.to2 (fun i a b => g i (by omega)) (fun k a => congrFun (g 127 (by omega)) k), n2.to2 (fun i a b => g i (by omega)) (fun k a b => congrFun (g 127 (by omega)) k), b1.to (congrFun (g 127 (by omega)) 22) (g 142 (by omega)) (g 143 (by omega)), b2.to (congrFun (g 127 (by omega)) 25) (g 144 (by omega)) (g 145 (by omega)), b3.to (congrFun (g 127 (by omega)) 28) (g 146 (by omega)) (g 147 (by omega)), x2.to (congrFun (g 127 (by omega)) 17) (g 140 (by omega)), t2.to (g 151 (by omega)) (g 152 (by omega)) gm⟩
theorem StC.to {σ σ' : ex_S} {b : Nat} {S : ns_T} (hV : VS S) (h : StC σ b S) (g : ∀ i, b ≤ i → i < b + 29 → σ' i = σ i) : StC σ' b S := by
  obtain ⟨n1, a1, a2, a3⟩ := h
  exact ⟨n1.to hV (fun i a b => g i (by omega) (by omega)), a1.to (fun i a b => g i (by omega) (by omega)), a2.to (fun i a b => g i (by omega) (by omega)), a3.to (fun i a b => g i (by omega) (by omega))⟩
theorem WI.keep {σ σ1 σ2 : ex_S} {μ μ1 μ2 : ex_L} {S S' : ns_T} (h : WI σ S) (h1 : HC σ σ1 μ μ1) (h2 : HR σ1 σ2 μ1 μ2) (hN : N2 S S') : WI σ2 S' := by
  have g : ∀ i, (i = 0 ∨ (61 ≤ i ∧ i < 90)) → σ2 i = σ i := fun i hi => (h2.1 i (by omega)).trans (h1.1 i (by omega))
  have g0 : σ2 0 6 = σ 0 6 := congrFun (g 0 (by omega)) 6
  have g1 : σ2 127 31 = σ 127 31 := h2.2.2.1.trans (congrFun (h1.1 127 (by omega)) 31)
  have g2 : σ2 148 = σ 148 := h2.2.2.2.trans (h1.1 148 (by omega))
  rcases h with ⟨e1, e2⟩ | ⟨e1, e2, K, hV, hU, hS, ⟨σk, m1, m2, m3, m4, m5⟩, c1, c2⟩
  · exact Or.inl ⟨g0.trans e1, g1.trans e2⟩
  · refine Or.inr ⟨g0.trans e1, g1.trans e2, K, hV, hU, hS.to hV (fun i a b => g i (by omega)), ⟨σk, m1, m2, m3, m4, fun q hq => (congrFun g2 q).trans (m5 q hq)⟩, Nat.le_trans c1 hN.2.2.1, fun j hj => (c2 j hj).trans (hN.2.2.2 j (by omega)).symm⟩
theorem HC.rf {σ : ex_S} {μ : ex_L} : HC σ σ μ μ := ⟨fun _ _ => rfl, rfl⟩
theorem HR.rf {σ : ex_S} {μ : ex_L} : HR σ σ μ μ := ⟨fun _ _ => rfl, fun _ _ _ => rfl, rfl, rfl⟩
theorem WR.fs {σ σ' : ex_S} {μ : ex_L} {p : Nat} {S : ns_T} {z : Nat} {X : Nat → Nat} {t : tp_T} (h : WR σ μ p S z X t) (f : FrS σ σ') : WR σ' μ p S z X t ∧ HR σ σ' μ μ := by
  obtain ⟨f2, n2, b1, b2, b3, x2, t2⟩ := h
  obtain ⟨g, k⟩ := f
  exact ⟨⟨f2.to2 (fun i a b => g i (by omega) (by omega)) (fun j a => k j (by omega)), n2.to2 (fun i a b => g i (by omega) (by omega)) (fun j a b => k j (by omega)), b1.to (k 22 (by omega)) (g 142 (by omega) (by omega)) (g 143 (by omega) (by omega)), b2.to (k 25 (by omega)) (g 144 (by omega) (by omega)) (g 145 (by omega) (by omega)), b3.to (k 28 (by omega)) (g 146 (by omega) (by omega)) (g 147 (by omega) (by omega)), x2.to (k 17 (by omega)) (g 140 (by omega) (by omega)), t2.to (g 151 (by omega) (by omega)) (g 152 (by omega) (by omega)) rfl⟩, fun i hi => g i (by omega) (by omega), fun _ _ _ => rfl, k 31 (by omega), g 148 (by omega) (by omega)⟩

theorem wc_calc {p : Nat} {S : ns_T} {z : Nat} {X : Nat → Nat} {t : tp_T}  {σ σ' : ex_S} {μ μ' : ex_L} (hp : gP p) (hV : VS S) (hU : PSV S) (h : WC σ μ p S z X t) (hq : σ' = σ ∧ μ' = μ) : WC σ' μ' p S z X t ∧ HC σ σ' μ μ' := by
  obtain ⟨rfl, rfl⟩ := hq
  exact ⟨h, HC.rf⟩
theorem wc_told {p : Nat} {S : ns_T} {z : Nat} {X : Nat → Nat} {t : tp_T}  {σ σ' : ex_S} {μ μ' : ex_L} (hp : gP p) (hV : VS S) (hU : PSV S) (h : WC σ μ p S z X t) (hq : σ' = σ ∧ μ' = μ) : WC σ' μ' p S z X t ∧ HC σ σ' μ μ' := by
  obtain ⟨rfl, rfl⟩ := hq
  exact ⟨h, HC.rf⟩
theorem wc_rank {p : Nat} {S : ns_T} {z : Nat} {X : Nat → Nat} {t : tp_T}  {σ σ' : ex_S} {μ μ' : ex_L} (hp : gP p) (hV : VS S) (hU : PSV S) (h : WC σ μ p S z X t) (hq : σ' = σ ∧ μ' = μ) : WC σ' μ' p S z X t ∧ HC σ σ' μ μ' := by
  obtain ⟨rfl, rfl⟩ := hq
  exact ⟨h, HC.rf⟩
theorem wc_safe {p : Nat} {S : ns_T} {z : Nat} {X : Nat → Nat} {t : tp_T}  {σ σ' : ex_S} {μ μ' : ex_L} (hp : gP p) (hV : VS S) (hU : PSV S) (h : WC σ μ p S z X t) (hq : σ' = σ ∧ μ' = μ) : WC σ' μ' p S z X t ∧ HC σ σ' μ μ' := by
  obtain ⟨rfl, rfl⟩ := hq
  exact ⟨h, HC.rf⟩
theorem wc_odds {p : Nat} {S : ns_T} {z : Nat} {X : Nat → Nat} {t : tp_T}  {σ σ' : ex_S} {μ μ' : ex_L} (hp : gP p) (hV : VS S) (hU : PSV S) (h : WC σ μ p S z X t) (hq : σ' = σ ∧ μ' = μ) : WC σ' μ' p S z X t ∧ HC σ σ' μ μ' := by
  obtain ⟨rfl, rfl⟩ := hq
  exact ⟨h, HC.rf⟩
theorem wc_looked {p : Nat} {S : ns_T} {z : Nat} {X : Nat → Nat} {t : tp_T}  {σ σ' : ex_S} {μ μ' : ex_L} (hp : gP p) (hV : VS S) (hU : PSV S) (h : WC σ μ p S z X t) (hq : σ' = σ ∧ μ' = μ) : WC σ' μ' p S z X t ∧ HC σ σ' μ μ' := by
  obtain ⟨rfl, rfl⟩ := hq
  exact ⟨h, HC.rf⟩
theorem wc_judge {p : Nat} {S : ns_T} {z : Nat} {X : Nat → Nat} {t : tp_T}  {σ σ' : ex_S} {μ μ' : ex_L} (hp : gP p) (hV : VS S) (hU : PSV S) (h : WC σ μ p S z X t) (hq : σ' = σ ∧ μ' = μ) : WC σ' μ' p S z X t ∧ HC σ σ' μ μ' := by
  obtain ⟨rfl, rfl⟩ := hq
  exact ⟨h, HC.rf⟩
theorem wc_taken {p : Nat} {S : ns_T} {z : Nat} {X : Nat → Nat} {t : tp_T}  {σ σ' : ex_S} {μ μ' : ex_L} (hp : gP p) (hV : VS S) (hU : PSV S) (h : WC σ μ p S z X t) (hq : σ' = σ ∧ μ' = μ) : WC σ' μ' p S z X t ∧ HC σ σ' μ μ' := by
  obtain ⟨rfl, rfl⟩ := hq
  exact ⟨h, HC.rf⟩
theorem wc_count {p : Nat} {S : ns_T} {z : Nat} {X : Nat → Nat} {t : tp_T}  {σ σ' : ex_S} {μ μ' : ex_L} (hp : gP p) (hV : VS S) (hU : PSV S) (h : WC σ μ p S z X t) (hq : σ' = σ ∧ μ' = μ) : WC σ' μ' p S z X t ∧ HC σ σ' μ μ' := by
  obtain ⟨rfl, rfl⟩ := hq
  exact ⟨h, HC.rf⟩
theorem wc_read {p : Nat} {S : ns_T} {z : Nat} {X : Nat → Nat} {t : tp_T}  {σ σ' : ex_S} {μ μ' : ex_L} (hp : gP p) (hV : VS S) (hU : PSV S) (h : WC σ μ p S z X t) (hq : σ' = σ ∧ μ' = μ) : WC σ' μ' p S z X t ∧ HC σ σ' μ μ' := by
  obtain ⟨rfl, rfl⟩ := hq
  exact ⟨h, HC.rf⟩
theorem wc_field {p : Nat} {S : ns_T} {z : Nat} {X : Nat → Nat} {t : tp_T} {x : Int32} {σ σ' : ex_S} {μ μ' : ex_L} (hp : gP p) (hV : VS S) (hU : PSV S) (h : WC σ μ p S z X t) (hq : FC σ' (nfieldP (S 0 0) p x) ∧ gP (nfieldP (S 0 0) p x) ∧ (∀ i, i ≠ 1 → i ≠ 2 → σ' i = σ i) ∧ μ' = μ) : WC σ' μ' (nfieldP (S 0 0) p x) S z X t ∧ HC σ σ' μ μ' := by
  obtain ⟨f1, n1, a1, a2, a3, k1, s1, o1, x1, t1⟩ := h
  obtain ⟨q1, q2, g, rfl⟩ := hq
  exact ⟨⟨q1, n1.to hV (fun i a b => g i (by omega) (by omega)), a1.to (fun i a b => g i (by omega) (by omega)), a2.to (fun i a b => g i (by omega) (by omega)), a3.to (fun i a b => g i (by omega) (by omega)), (k1.to (g 6 (by omega) (by omega))).nf, s1.to (g 28 (by omega) (by omega)) (g 29 (by omega) (by omega)), (congrFun (g 31 (by omega) (by omega)) 0).trans o1, x1.to (g 3 (by omega) (by omega)) (g 4 (by omega) (by omega)), t1.to (g 118 (by omega) (by omega)) (g 119 (by omega) (by omega)) (fun _ _ _ => rfl)⟩, fun i hi => g i (by omega) (by omega), rfl⟩
theorem wc_of {p : Nat} {S : ns_T} {z : Nat} {X : Nat → Nat} {t : tp_T}  {σ σ' : ex_S} {μ μ' : ex_L} (hp : gP p) (hV : VS S) (hU : PSV S) (h : WC σ μ p S z X t) (hq : (∀ i, i ≠ 31 → σ' i = σ i) ∧ σ' 31 0 = 0 ∧ μ' = μ) : WC σ' μ' p S z X t ∧ HC σ σ' μ μ' := by
  obtain ⟨f1, n1, a1, a2, a3, k1, s1, o1, x1, t1⟩ := h
  obtain ⟨g, q1, rfl⟩ := hq
  exact ⟨⟨f1.to (g 1 (by omega)) (g 2 (by omega)), n1.to hV (fun i a b => g i (by omega)), a1.to (fun i a b => g i (by omega)), a2.to (fun i a b => g i (by omega)), a3.to (fun i a b => g i (by omega)), k1.to (g 6 (by omega)), s1.to (g 28 (by omega)) (g 29 (by omega)), q1, x1.to (g 3 (by omega)) (g 4 (by omega)), t1.to (g 118 (by omega)) (g 119 (by omega)) (fun _ _ _ => rfl)⟩, fun i hi => g i (by omega), rfl⟩
theorem wc_mean {p : Nat} {S : ns_T} {z : Nat} {X : Nat → Nat} {t : tp_T}  {σ σ' : ex_S} {μ μ' : ex_L} (hp : gP p) (hV : VS S) (hU : PSV S) (h : WC σ μ p S z X t) (hq : (∀ i, i ≠ 31 → σ' i = σ i) ∧ σ' 31 0 = 0 ∧ μ' = μ) : WC σ' μ' p S z X t ∧ HC σ σ' μ μ' := by
  obtain ⟨f1, n1, a1, a2, a3, k1, s1, o1, x1, t1⟩ := h
  obtain ⟨g, q1, rfl⟩ := hq
  exact ⟨⟨f1.to (g 1 (by omega)) (g 2 (by omega)), n1.to hV (fun i a b => g i (by omega)), a1.to (fun i a b => g i (by omega)), a2.to (fun i a b => g i (by omega)), a3.to (fun i a b => g i (by omega)), k1.to (g 6 (by omega)), s1.to (g 28 (by omega)) (g 29 (by omega)), q1, x1.to (g 3 (by omega)) (g 4 (by omega)), t1.to (g 118 (by omega)) (g 119 (by omega)) (fun _ _ _ => rfl)⟩, fun i hi => g i (by omega), rfl⟩
theorem wc_data {p : Nat} {S : ns_T} {z : Nat} {X : Nat → Nat} {t : tp_T} {x : Int32} {y : Int32} {σ σ' : ex_S} {μ μ' : ex_L} (hp : gP p) (hV : VS S) (hU : PSV S) (h : WC σ μ p S z X t) (hq : NC σ' 33 (ndata S x y).2 ∧ RKI σ' p (ndata S x y).2 ∧ SpV σ' 28 (fun _ => 0) 0 ∧ (∀ i, i ≠ 6 → (i < 8 ∨ 30 ≤ i) → (i < 33 ∨ 52 ≤ i) → σ' i = σ i) ∧ μ' = μ) : WC σ' μ' p ((ndata S x y).2) z X t ∧ HC σ σ' μ μ' := by
  obtain ⟨f1, n1, a1, a2, a3, k1, s1, o1, x1, t1⟩ := h
  obtain ⟨q1, q2, q3, g, rfl⟩ := hq
  have e := (ndata_n hV (x := x) (y := y)).2.2.2
  exact ⟨⟨f1.to (g 1 (by omega) (by omega) (by omega)) (g 2 (by omega) (by omega) (by omega)), q1, (a1.to (fun i a b => g i (by omega) (by omega) (by omega))).eqv (fun u i h1 h2 => e u i (by omega) (by omega)), (a2.to (fun i a b => g i (by omega) (by omega) (by omega))).eqv (fun u i h1 h2 => e u i (by omega) (by omega)), (a3.to (fun i a b => g i (by omega) (by omega) (by omega))).eqv (fun u i h1 h2 => e u i (by omega) (by omega)), q2, q3, (congrFun (g 31 (by omega) (by omega) (by omega)) 0).trans o1, x1.to (g 3 (by omega) (by omega) (by omega)) (g 4 (by omega) (by omega) (by omega)), t1.to (g 118 (by omega) (by omega) (by omega)) (g 119 (by omega) (by omega) (by omega)) (fun _ _ _ => rfl)⟩, fun i hi => g i (by omega) (by omega) (by omega), rfl⟩
theorem wc_parity {p : Nat} {S : ns_T} {z : Nat} {X : Nat → Nat} {t : tp_T} {x : Int32} {y : Int32} {σ σ' : ex_S} {μ μ' : ex_L} (hp : gP p) (hV : VS S) (hU : PSV S) (h : WC σ μ p S z X t) (hq : NC σ' 33 (nparity p S z X x y).2.1 ∧ RKI σ' p (nparity p S z X x y).2.1 ∧ SpV σ' 28 (fun _ => 0) 0 ∧ TXC σ' (nparity p S z X x y).2.2 X ∧ (∀ i, i ≠ 3 → i ≠ 6 → (i < 8 ∨ 30 ≤ i) → (i < 33 ∨ 52 ≤ i) → σ' i = σ i) ∧ μ' = μ) : WC σ' μ' p ((nparity p S z X x y).2.1) ((nparity p S z X x y).2.2) X t ∧ HC σ σ' μ μ' := by
  obtain ⟨f1, n1, a1, a2, a3, k1, s1, o1, x1, t1⟩ := h
  obtain ⟨q1, q2, q3, q4, g, rfl⟩ := hq
  have e := (nparity_n hp hV (z := z) (X := X) (x := x) (y := y)).1.2.2.2
  exact ⟨⟨f1.to (g 1 (by omega) (by omega) (by omega) (by omega)) (g 2 (by omega) (by omega) (by omega) (by omega)), q1, (a1.to (fun i a b => g i (by omega) (by omega) (by omega) (by omega))).eqv (fun u i h1 h2 => e u i (by omega) (by omega)), (a2.to (fun i a b => g i (by omega) (by omega) (by omega) (by omega))).eqv (fun u i h1 h2 => e u i (by omega) (by omega)), (a3.to (fun i a b => g i (by omega) (by omega) (by omega) (by omega))).eqv (fun u i h1 h2 => e u i (by omega) (by omega)), q2, q3, (congrFun (g 31 (by omega) (by omega) (by omega) (by omega)) 0).trans o1, q4, t1.to (g 118 (by omega) (by omega) (by omega) (by omega)) (g 119 (by omega) (by omega) (by omega) (by omega)) (fun _ _ _ => rfl)⟩, fun i hi => g i (by omega) (by omega) (by omega) (by omega), rfl⟩
theorem wc_row {p : Nat} {S : ns_T} {z : Nat} {X : Nat → Nat} {t : tp_T} {x : Int32} {q : Int32} {v : Int32} {σ σ' : ex_S} {μ μ' : ex_L} (hp : gP p) (hV : VS S) (hU : PSV S) (h : WC σ μ p S z X t) (hq : NC σ' 33 (nrow S x q v).2 ∧ (∀ i, (i < 33 ∨ 52 ≤ i) → σ' i = σ i) ∧ μ' = μ) : WC σ' μ' p ((nrow S x q v).2) z X t ∧ HC σ σ' μ μ' := by
  obtain ⟨f1, n1, a1, a2, a3, k1, s1, o1, x1, t1⟩ := h
  obtain ⟨q1, g, rfl⟩ := hq
  have e := nrow_n hV (x := x) (q := q) (v := v)
  exact ⟨⟨f1.to (g 1 (by omega)) (g 2 (by omega)), q1, (a1.to (fun i a b => g i (by omega))).eqv (fun u i h1 h2 => e.2.2.2 u i (by omega) (by omega)), (a2.to (fun i a b => g i (by omega))).eqv (fun u i h1 h2 => e.2.2.2 u i (by omega) (by omega)), (a3.to (fun i a b => g i (by omega))).eqv (fun u i h1 h2 => e.2.2.2 u i (by omega) (by omega)), (k1.to (g 6 (by omega))).los e.2.1 (fun j _ => e.2.2.1 j), s1.to (g 28 (by omega)) (g 29 (by omega)), (congrFun (g 31 (by omega)) 0).trans o1, x1.to (g 3 (by omega)) (g 4 (by omega)), t1.to (g 118 (by omega)) (g 119 (by omega)) (fun _ _ _ => rfl)⟩, fun i hi => g i (by omega), rfl⟩
theorem wc_write {p : Nat} {S : ns_T} {z : Nat} {X : Nat → Nat} {t : tp_T} {x : Int32} {v : Int32} {σ σ' : ex_S} {μ μ' : ex_L} (hp : gP p) (hV : VS S) (hU : PSV S) (h : WC σ μ p S z X t) (hq : NC σ' 33 (nwrite S x v).2 ∧ (∀ i, (i < 33 ∨ 52 ≤ i) → σ' i = σ i) ∧ μ' = μ) : WC σ' μ' p ((nwrite S x v).2) z X t ∧ HC σ σ' μ μ' := by
  obtain ⟨f1, n1, a1, a2, a3, k1, s1, o1, x1, t1⟩ := h
  obtain ⟨q1, g, rfl⟩ := hq
  have e := nwrite_n hV (x := x) (v := v)
  exact ⟨⟨f1.to (g 1 (by omega)) (g 2 (by omega)), q1, (a1.to (fun i a b => g i (by omega))).eqv (fun u i h1 h2 => e.2.2.2 u i (by omega) (by omega)), (a2.to (fun i a b => g i (by omega))).eqv (fun u i h1 h2 => e.2.2.2 u i (by omega) (by omega)), (a3.to (fun i a b => g i (by omega))).eqv (fun u i h1 h2 => e.2.2.2 u i (by omega) (by omega)), (k1.to (g 6 (by omega))).los e.2.1 (fun j _ => e.2.2.1 j), s1.to (g 28 (by omega)) (g 29 (by omega)), (congrFun (g 31 (by omega)) 0).trans o1, x1.to (g 3 (by omega)) (g 4 (by omega)), t1.to (g 118 (by omega)) (g 119 (by omega)) (fun _ _ _ => rfl)⟩, fun i hi => g i (by omega), rfl⟩
theorem wc_lose {p : Nat} {S : ns_T} {z : Nat} {X : Nat → Nat} {t : tp_T} {x : Int32} {σ σ' : ex_S} {μ μ' : ex_L} (hp : gP p) (hV : VS S) (hU : PSV S) (h : WC σ μ p S z X t) (hq : NC σ' 33 (nlose p S x).2 ∧ (∀ i, (i < 33 ∨ 52 ≤ i) → σ' i = σ i) ∧ μ' = μ) : WC σ' μ' p ((nlose p S x).2) z X t ∧ HC σ σ' μ μ' := by
  obtain ⟨f1, n1, a1, a2, a3, k1, s1, o1, x1, t1⟩ := h
  obtain ⟨q1, g, rfl⟩ := hq
  have e := nlose_n (p := p) hV (x := x)
  exact ⟨⟨f1.to (g 1 (by omega)) (g 2 (by omega)), q1, (a1.to (fun i a b => g i (by omega))).eqv (fun u i h1 h2 => e.2.2.2 u i (by omega) (by omega)), (a2.to (fun i a b => g i (by omega))).eqv (fun u i h1 h2 => e.2.2.2 u i (by omega) (by omega)), (a3.to (fun i a b => g i (by omega))).eqv (fun u i h1 h2 => e.2.2.2 u i (by omega) (by omega)), (k1.to (g 6 (by omega))).los e.2.1 (fun j _ => e.2.2.1 j), s1.to (g 28 (by omega)) (g 29 (by omega)), (congrFun (g 31 (by omega)) 0).trans o1, x1.to (g 3 (by omega)) (g 4 (by omega)), t1.to (g 118 (by omega)) (g 119 (by omega)) (fun _ _ _ => rfl)⟩, fun i hi => g i (by omega), rfl⟩
theorem wc_repair {p : Nat} {S : ns_T} {z : Nat} {X : Nat → Nat} {t : tp_T} {x : Int32} {σ σ' : ex_S} {μ μ' : ex_L} (hp : gP p) (hV : VS S) (hU : PSV S) (h : WC σ μ p S z X t) (hq : NC σ' 33 (nrepair p S x).2 ∧ (∀ i, i ≠ 31 → (i < 33 ∨ 52 ≤ i) → σ' i = σ i) ∧ σ' 31 0 = 0 ∧ μ' = μ) : WC σ' μ' p ((nrepair p S x).2) z X t ∧ HC σ σ' μ μ' := by
  obtain ⟨f1, n1, a1, a2, a3, k1, s1, o1, x1, t1⟩ := h
  obtain ⟨q1, g, q2, rfl⟩ := hq
  have e := nrepair_n (p := p) hV (x := x)
  exact ⟨⟨f1.to (g 1 (by omega) (by omega)) (g 2 (by omega) (by omega)), q1, (a1.to (fun i a b => g i (by omega) (by omega))).eqv (fun u i h1 h2 => e.2.2.2 u i (by omega) (by omega)), (a2.to (fun i a b => g i (by omega) (by omega))).eqv (fun u i h1 h2 => e.2.2.2 u i (by omega) (by omega)), (a3.to (fun i a b => g i (by omega) (by omega))).eqv (fun u i h1 h2 => e.2.2.2 u i (by omega) (by omega)), (k1.to (g 6 (by omega) (by omega))).los e.2.1 (fun j _ => e.2.2.1 j), s1.to (g 28 (by omega) (by omega)) (g 29 (by omega) (by omega)), q2, x1.to (g 3 (by omega) (by omega)) (g 4 (by omega) (by omega)), t1.to (g 118 (by omega) (by omega)) (g 119 (by omega) (by omega)) (fun _ _ _ => rfl)⟩, fun i hi => g i (by omega) (by omega), rfl⟩
theorem wc_best {p : Nat} {S : ns_T} {z : Nat} {X : Nat → Nat} {t : tp_T}  {σ σ' : ex_S} {μ μ' : ex_L} (hp : gP p) (hV : VS S) (hU : PSV S) (h : WC σ μ p S z X t) (hq : (∀ i, (i < 112 ∨ 116 < i) → σ' i = σ i) ∧ μ' = μ) : WC σ' μ' p S z X t ∧ HC σ σ' μ μ' := by
  obtain ⟨f1, n1, a1, a2, a3, k1, s1, o1, x1, t1⟩ := h
  obtain ⟨g, rfl⟩ := hq
  exact ⟨⟨f1.to (g 1 (by omega)) (g 2 (by omega)), n1.to hV (fun i a b => g i (by omega)), a1.to (fun i a b => g i (by omega)), a2.to (fun i a b => g i (by omega)), a3.to (fun i a b => g i (by omega)), k1.to (g 6 (by omega)), s1.to (g 28 (by omega)) (g 29 (by omega)), (congrFun (g 31 (by omega)) 0).trans o1, x1.to (g 3 (by omega)) (g 4 (by omega)), t1.to (g 118 (by omega)) (g 119 (by omega)) (fun _ _ _ => rfl)⟩, fun i hi => g i (by omega), rfl⟩
theorem wc_see {p : Nat} {S : ns_T} {z : Nat} {X : Nat → Nat} {t : tp_T} {x : Int32} {v : Int32} {σ σ' : ex_S} {μ μ' : ex_L} (hp : gP p) (hV : VS S) (hU : PSV S) (h : WC σ μ p S z X t) (hq : PG σ' 52 (ntell 5 10 S x v).2 10 ∧ (∀ i, (i < 52 ∨ 54 < i) → σ' i = σ i) ∧ μ' = μ) : WC σ' μ' p ((ntell 5 10 S x v).2) z X t ∧ HC σ σ' μ μ' := by
  obtain ⟨f1, n1, a1, a2, a3, k1, s1, o1, x1, t1⟩ := h
  obtain ⟨q1, g, rfl⟩ := hq
  have e := nsee_n hV hU (x := x) (v := v)
  exact ⟨⟨f1.to (g 1 (by omega)) (g 2 (by omega)), (n1.to hV (fun i a b => g i (by omega))).eqv (fun u i hh => e.2 u i (by omega)), q1, (a2.to (fun i a b => g i (by omega))).eqv (fun u i h1 h2 => e.2 u i (by omega)), (a3.to (fun i a b => g i (by omega))).eqv (fun u i h1 h2 => e.2 u i (by omega)), (k1.to (g 6 (by omega))).los (e.2 0 0 (by omega)) (fun j _ => e.2 5 j (by omega)), s1.to (g 28 (by omega)) (g 29 (by omega)), (congrFun (g 31 (by omega)) 0).trans o1, x1.to (g 3 (by omega)) (g 4 (by omega)), t1.to (g 118 (by omega)) (g 119 (by omega)) (fun _ _ _ => rfl)⟩, fun i hi => g i (by omega), rfl⟩
theorem wc_plan {p : Nat} {S : ns_T} {z : Nat} {X : Nat → Nat} {t : tp_T} {w : Int32} {x : Int32} {σ σ' : ex_S} {μ μ' : ex_L} (hp : gP p) (hV : VS S) (hU : PSV S) (h : WC σ μ p S z X t) (hq : PG σ' 55 (nplan S w x).2 13 ∧ (∀ i, (i < 55 ∨ 57 < i) → σ' i = σ i) ∧ μ' = μ) : WC σ' μ' p ((nplan S w x).2) z X t ∧ HC σ σ' μ μ' := by
  obtain ⟨f1, n1, a1, a2, a3, k1, s1, o1, x1, t1⟩ := h
  obtain ⟨q1, g, rfl⟩ := hq
  have e := nplan_n hV hU (w := w) (x := x)
  exact ⟨⟨f1.to (g 1 (by omega)) (g 2 (by omega)), (n1.to hV (fun i a b => g i (by omega))).eqv (fun u i hh => e.2 u i (by omega)), (a1.to (fun i a b => g i (by omega))).eqv (fun u i h1 h2 => e.2 u i (by omega)), q1, (a3.to (fun i a b => g i (by omega))).eqv (fun u i h1 h2 => e.2 u i (by omega)), (k1.to (g 6 (by omega))).los (e.2 0 0 (by omega)) (fun j _ => e.2 5 j (by omega)), s1.to (g 28 (by omega)) (g 29 (by omega)), (congrFun (g 31 (by omega)) 0).trans o1, x1.to (g 3 (by omega)) (g 4 (by omega)), t1.to (g 118 (by omega)) (g 119 (by omega)) (fun _ _ _ => rfl)⟩, fun i hi => g i (by omega), rfl⟩
theorem wc_book {p : Nat} {S : ns_T} {z : Nat} {X : Nat → Nat} {t : tp_T} {x : Int32} {v : Int32} {σ σ' : ex_S} {μ μ' : ex_L} (hp : gP p) (hV : VS S) (hU : PSV S) (h : WC σ μ p S z X t) (hq : PG σ' 58 (ntell 8 16 S x v).2 16 ∧ (∀ i, (i < 58 ∨ 60 < i) → σ' i = σ i) ∧ μ' = μ) : WC σ' μ' p ((ntell 8 16 S x v).2) z X t ∧ HC σ σ' μ μ' := by
  obtain ⟨f1, n1, a1, a2, a3, k1, s1, o1, x1, t1⟩ := h
  obtain ⟨q1, g, rfl⟩ := hq
  have e := nbook_n hV hU (x := x) (v := v)
  exact ⟨⟨f1.to (g 1 (by omega)) (g 2 (by omega)), (n1.to hV (fun i a b => g i (by omega))).eqv (fun u i hh => e.2 u i (by omega)), (a1.to (fun i a b => g i (by omega))).eqv (fun u i h1 h2 => e.2 u i (by omega)), (a2.to (fun i a b => g i (by omega))).eqv (fun u i h1 h2 => e.2 u i (by omega)), q1, (k1.to (g 6 (by omega))).los (e.2 0 0 (by omega)) (fun j _ => e.2 5 j (by omega)), s1.to (g 28 (by omega)) (g 29 (by omega)), (congrFun (g 31 (by omega)) 0).trans o1, x1.to (g 3 (by omega)) (g 4 (by omega)), t1.to (g 118 (by omega)) (g 119 (by omega)) (fun _ _ _ => rfl)⟩, fun i hi => g i (by omega), rfl⟩
theorem wc_ways {p : Nat} {S : ns_T} {z : Nat} {X : Nat → Nat} {t : tp_T}  {σ σ' : ex_S} {μ μ' : ex_L} (hp : gP p) (hV : VS S) (hU : PSV S) (h : WC σ μ p S z X t) (hq : (∀ i, i ≠ 109 → i ≠ 110 → σ' i = σ i) ∧ μ' = μ) : WC σ' μ' p S z X t ∧ HC σ σ' μ μ' := by
  obtain ⟨f1, n1, a1, a2, a3, k1, s1, o1, x1, t1⟩ := h
  obtain ⟨g, rfl⟩ := hq
  exact ⟨⟨f1.to (g 1 (by omega) (by omega)) (g 2 (by omega) (by omega)), n1.to hV (fun i a b => g i (by omega) (by omega)), a1.to (fun i a b => g i (by omega) (by omega)), a2.to (fun i a b => g i (by omega) (by omega)), a3.to (fun i a b => g i (by omega) (by omega)), k1.to (g 6 (by omega) (by omega)), s1.to (g 28 (by omega) (by omega)) (g 29 (by omega) (by omega)), (congrFun (g 31 (by omega) (by omega)) 0).trans o1, x1.to (g 3 (by omega) (by omega)) (g 4 (by omega) (by omega)), t1.to (g 118 (by omega) (by omega)) (g 119 (by omega) (by omega)) (fun _ _ _ => rfl)⟩, fun i hi => g i (by omega) (by omega), rfl⟩
theorem wc_can {p : Nat} {S : ns_T} {z : Nat} {X : Nat → Nat} {t : tp_T}  {σ σ' : ex_S} {μ μ' : ex_L} (hp : gP p) (hV : VS S) (hU : PSV S) (h : WC σ μ p S z X t) (hq : (∀ i, i ≠ 109 → i ≠ 110 → σ' i = σ i) ∧ μ' = μ) : WC σ' μ' p S z X t ∧ HC σ σ' μ μ' := by
  obtain ⟨f1, n1, a1, a2, a3, k1, s1, o1, x1, t1⟩ := h
  obtain ⟨g, rfl⟩ := hq
  exact ⟨⟨f1.to (g 1 (by omega) (by omega)) (g 2 (by omega) (by omega)), n1.to hV (fun i a b => g i (by omega) (by omega)), a1.to (fun i a b => g i (by omega) (by omega)), a2.to (fun i a b => g i (by omega) (by omega)), a3.to (fun i a b => g i (by omega) (by omega)), k1.to (g 6 (by omega) (by omega)), s1.to (g 28 (by omega) (by omega)) (g 29 (by omega) (by omega)), (congrFun (g 31 (by omega) (by omega)) 0).trans o1, x1.to (g 3 (by omega) (by omega)) (g 4 (by omega) (by omega)), t1.to (g 118 (by omega) (by omega)) (g 119 (by omega) (by omega)) (fun _ _ _ => rfl)⟩, fun i hi => g i (by omega) (by omega), rfl⟩
theorem wc_ends {p : Nat} {S : ns_T} {z : Nat} {X : Nat → Nat} {t : tp_T}  {σ σ' : ex_S} {μ μ' : ex_L} (hp : gP p) (hV : VS S) (hU : PSV S) (h : WC σ μ p S z X t) (hq : (∀ i, i ≠ 31 → (i < 90 ∨ 109 ≤ i) → σ' i = σ i) ∧ σ' 31 0 = 0 ∧ μ' = μ) : WC σ' μ' p S z X t ∧ HC σ σ' μ μ' := by
  obtain ⟨f1, n1, a1, a2, a3, k1, s1, o1, x1, t1⟩ := h
  obtain ⟨g, q1, rfl⟩ := hq
  exact ⟨⟨f1.to (g 1 (by omega) (by omega)) (g 2 (by omega) (by omega)), n1.to hV (fun i a b => g i (by omega) (by omega)), a1.to (fun i a b => g i (by omega) (by omega)), a2.to (fun i a b => g i (by omega) (by omega)), a3.to (fun i a b => g i (by omega) (by omega)), k1.to (g 6 (by omega) (by omega)), s1.to (g 28 (by omega) (by omega)) (g 29 (by omega) (by omega)), q1, x1.to (g 3 (by omega) (by omega)) (g 4 (by omega) (by omega)), t1.to (g 118 (by omega) (by omega)) (g 119 (by omega) (by omega)) (fun _ _ _ => rfl)⟩, fun i hi => g i (by omega) (by omega), rfl⟩
theorem wc_feed {p : Nat} {S : ns_T} {z : Nat} {X : Nat → Nat} {t : tp_T} {x : Int32} {σ σ' : ex_S} {μ μ' : ex_L} (hp : gP p) (hV : VS S) (hU : PSV S) (h : WC σ μ p S z X t) (hq : TXC σ' (nfeed z X x).2.1 (nfeed z X x).2.2 ∧ (∀ i, i ≠ 3 → i ≠ 4 → σ' i = σ i) ∧ (∀ k, k ≠ 1 → σ' 3 k = σ 3 k) ∧ μ' = μ) : WC σ' μ' p S ((nfeed z X x).2.1) ((nfeed z X x).2.2) t ∧ HC σ σ' μ μ' := by
  obtain ⟨f1, n1, a1, a2, a3, k1, s1, o1, x1, t1⟩ := h
  obtain ⟨q1, g, q2, rfl⟩ := hq
  exact ⟨⟨f1.to (g 1 (by omega) (by omega)) (g 2 (by omega) (by omega)), n1.to hV (fun i a b => g i (by omega) (by omega)), a1.to (fun i a b => g i (by omega) (by omega)), a2.to (fun i a b => g i (by omega) (by omega)), a3.to (fun i a b => g i (by omega) (by omega)), k1.to (g 6 (by omega) (by omega)), s1.to (g 28 (by omega) (by omega)) (g 29 (by omega) (by omega)), (congrFun (g 31 (by omega) (by omega)) 0).trans o1, q1, t1.to (g 118 (by omega) (by omega)) (g 119 (by omega) (by omega)) (fun _ _ _ => rfl)⟩, fun i hi => g i (by omega) (by omega), rfl⟩
theorem wc_tape {p : Nat} {S : ns_T} {z : Nat} {X : Nat → Nat} {t : tp_T} {x : Int32} {s : Int32} {n : Int32} {σ σ' : ex_S} {μ μ' : ex_L} (hp : gP p) (hV : VS S) (hU : PSV S) (h : WC σ μ p S z X t) (hq : TPC σ' μ' (ntape t x s n).2 ∧ (∀ i, i ≠ 118 → i ≠ 119 → σ' i = σ i) ∧ (∀ i, (i < 121 ∨ 126 < i) → μ' i = μ i)) : WC σ' μ' p S z X ((ntape t x s n).2) ∧ HC σ σ' μ μ' := by
  obtain ⟨f1, n1, a1, a2, a3, k1, s1, o1, x1, t1⟩ := h
  obtain ⟨q1, g, gm⟩ := hq
  exact ⟨⟨f1.to (g 1 (by omega) (by omega)) (g 2 (by omega) (by omega)), n1.to hV (fun i a b => g i (by omega) (by omega)), a1.to (fun i a b => g i (by omega) (by omega)), a2.to (fun i a b => g i (by omega) (by omega)), a3.to (fun i a b => g i (by omega) (by omega)), k1.to (g 6 (by omega) (by omega)), s1.to (g 28 (by omega) (by omega)) (g 29 (by omega) (by omega)), (congrFun (g 31 (by omega) (by omega)) 0).trans o1, x1.to (g 3 (by omega) (by omega)) (g 4 (by omega) (by omega)), q1⟩, fun i hi => g i (by omega) (by omega), gm 153 (by omega)⟩
theorem wc_item {p : Nat} {S : ns_T} {z : Nat} {X : Nat → Nat} {t : tp_T} {x : Int32} {i : Int32} {v : Int64} {σ σ' : ex_S} {μ μ' : ex_L} (hp : gP p) (hV : VS S) (hU : PSV S) (h : WC σ μ p S z X t) (hq : TPC σ' μ' (nitem t x i v).2 ∧ (∀ i, i ≠ 118 → i ≠ 119 → σ' i = σ i) ∧ (∀ i, (i < 121 ∨ 126 < i) → μ' i = μ i)) : WC σ' μ' p S z X ((nitem t x i v).2) ∧ HC σ σ' μ μ' := by
  obtain ⟨f1, n1, a1, a2, a3, k1, s1, o1, x1, t1⟩ := h
  obtain ⟨q1, g, gm⟩ := hq
  exact ⟨⟨f1.to (g 1 (by omega) (by omega)) (g 2 (by omega) (by omega)), n1.to hV (fun i a b => g i (by omega) (by omega)), a1.to (fun i a b => g i (by omega) (by omega)), a2.to (fun i a b => g i (by omega) (by omega)), a3.to (fun i a b => g i (by omega) (by omega)), k1.to (g 6 (by omega) (by omega)), s1.to (g 28 (by omega) (by omega)) (g 29 (by omega) (by omega)), (congrFun (g 31 (by omega) (by omega)) 0).trans o1, x1.to (g 3 (by omega) (by omega)) (g 4 (by omega) (by omega)), q1⟩, fun i hi => g i (by omega) (by omega), gm 153 (by omega)⟩
theorem wc_shift {p : Nat} {S : ns_T} {z : Nat} {X : Nat → Nat} {t : tp_T} {x : Int32} {i : Int32} {y : Int32} {j : Int32} {n : Int32} {σ σ' : ex_S} {μ μ' : ex_L} (hp : gP p) (hV : VS S) (hU : PSV S) (h : WC σ μ p S z X t) (hq : TPC σ' μ' (nshift t x i y j n).2 ∧ (∀ i, i ≠ 118 → i ≠ 119 → σ' i = σ i) ∧ (∀ i, (i < 121 ∨ 126 < i) → μ' i = μ i)) : WC σ' μ' p S z X ((nshift t x i y j n).2) ∧ HC σ σ' μ μ' := by
  obtain ⟨f1, n1, a1, a2, a3, k1, s1, o1, x1, t1⟩ := h
  obtain ⟨q1, g, gm⟩ := hq
  exact ⟨⟨f1.to (g 1 (by omega) (by omega)) (g 2 (by omega) (by omega)), n1.to hV (fun i a b => g i (by omega) (by omega)), a1.to (fun i a b => g i (by omega) (by omega)), a2.to (fun i a b => g i (by omega) (by omega)), a3.to (fun i a b => g i (by omega) (by omega)), k1.to (g 6 (by omega) (by omega)), s1.to (g 28 (by omega) (by omega)) (g 29 (by omega) (by omega)), (congrFun (g 31 (by omega) (by omega)) 0).trans o1, x1.to (g 3 (by omega) (by omega)) (g 4 (by omega) (by omega)), q1⟩, fun i hi => g i (by omega) (by omega), gm 153 (by omega)⟩
theorem wr_calc {p : Nat} {S : ns_T} {z : Nat} {X : Nat → Nat} {t : tp_T}  {σ σ' : ex_S} {μ μ' : ex_L} (hp : gP p) (hV : VS S) (hU : PSV S) (h : WR σ μ p S z X t) (hq : σ' = σ ∧ μ' = μ) : WR σ' μ' p S z X t ∧ HR σ σ' μ μ' := by
  obtain ⟨rfl, rfl⟩ := hq
  exact ⟨h, HR.rf⟩
theorem wr_looked {p : Nat} {S : ns_T} {z : Nat} {X : Nat → Nat} {t : tp_T}  {σ σ' : ex_S} {μ μ' : ex_L} (hp : gP p) (hV : VS S) (hU : PSV S) (h : WR σ μ p S z X t) (hq : σ' = σ ∧ μ' = μ) : WR σ' μ' p S z X t ∧ HR σ σ' μ μ' := by
  obtain ⟨rfl, rfl⟩ := hq
  exact ⟨h, HR.rf⟩
theorem wr_judge {p : Nat} {S : ns_T} {z : Nat} {X : Nat → Nat} {t : tp_T}  {σ σ' : ex_S} {μ μ' : ex_L} (hp : gP p) (hV : VS S) (hU : PSV S) (h : WR σ μ p S z X t) (hq : σ' = σ ∧ μ' = μ) : WR σ' μ' p S z X t ∧ HR σ σ' μ μ' := by
  obtain ⟨rfl, rfl⟩ := hq
  exact ⟨h, HR.rf⟩
theorem wr_taken {p : Nat} {S : ns_T} {z : Nat} {X : Nat → Nat} {t : tp_T}  {σ σ' : ex_S} {μ μ' : ex_L} (hp : gP p) (hV : VS S) (hU : PSV S) (h : WR σ μ p S z X t) (hq : σ' = σ ∧ μ' = μ) : WR σ' μ' p S z X t ∧ HR σ σ' μ μ' := by
  obtain ⟨rfl, rfl⟩ := hq
  exact ⟨h, HR.rf⟩
theorem wr_count {p : Nat} {S : ns_T} {z : Nat} {X : Nat → Nat} {t : tp_T}  {σ σ' : ex_S} {μ μ' : ex_L} (hp : gP p) (hV : VS S) (hU : PSV S) (h : WR σ μ p S z X t) (hq : σ' = σ ∧ μ' = μ) : WR σ' μ' p S z X t ∧ HR σ σ' μ μ' := by
  obtain ⟨rfl, rfl⟩ := hq
  exact ⟨h, HR.rf⟩
theorem wr_read {p : Nat} {S : ns_T} {z : Nat} {X : Nat → Nat} {t : tp_T}  {σ σ' : ex_S} {μ μ' : ex_L} (hp : gP p) (hV : VS S) (hU : PSV S) (h : WR σ μ p S z X t) (hq : σ' = σ ∧ μ' = μ) : WR σ' μ' p S z X t ∧ HR σ σ' μ μ' := by
  obtain ⟨rfl, rfl⟩ := hq
  exact ⟨h, HR.rf⟩
theorem wr_told {p : Nat} {S : ns_T} {z : Nat} {X : Nat → Nat} {t : tp_T}  {σ σ' : ex_S} {μ μ' : ex_L} (hp : gP p) (hV : VS S) (hU : PSV S) (h : WR σ μ p S z X t) (hq : FrM σ σ' ∧ μ' = μ) : WR σ' μ' p S z X t ∧ HR σ σ' μ μ' := by
  obtain ⟨q1, rfl⟩ := hq
  exact h.fs q1.S
theorem wr_rank {p : Nat} {S : ns_T} {z : Nat} {X : Nat → Nat} {t : tp_T}  {σ σ' : ex_S} {μ μ' : ex_L} (hp : gP p) (hV : VS S) (hU : PSV S) (h : WR σ μ p S z X t) (hq : FrM σ σ' ∧ μ' = μ) : WR σ' μ' p S z X t ∧ HR σ σ' μ μ' := by
  obtain ⟨q1, rfl⟩ := hq
  exact h.fs q1.S
theorem wr_safe {p : Nat} {S : ns_T} {z : Nat} {X : Nat → Nat} {t : tp_T}  {σ σ' : ex_S} {μ μ' : ex_L} (hp : gP p) (hV : VS S) (hU : PSV S) (h : WR σ μ p S z X t) (hq : FrM σ σ' ∧ μ' = μ) : WR σ' μ' p S z X t ∧ HR σ σ' μ μ' := by
  obtain ⟨q1, rfl⟩ := hq
  exact h.fs q1.S
theorem wr_best {p : Nat} {S : ns_T} {z : Nat} {X : Nat → Nat} {t : tp_T}  {σ σ' : ex_S} {μ μ' : ex_L} (hp : gP p) (hV : VS S) (hU : PSV S) (h : WR σ μ p S z X t) (hq : FrM σ σ' ∧ μ' = μ) : WR σ' μ' p S z X t ∧ HR σ σ' μ μ' := by
  obtain ⟨q1, rfl⟩ := hq
  exact h.fs q1.S
theorem wr_ways {p : Nat} {S : ns_T} {z : Nat} {X : Nat → Nat} {t : tp_T}  {σ σ' : ex_S} {μ μ' : ex_L} (hp : gP p) (hV : VS S) (hU : PSV S) (h : WR σ μ p S z X t) (hq : FrM σ σ' ∧ μ' = μ) : WR σ' μ' p S z X t ∧ HR σ σ' μ μ' := by
  obtain ⟨q1, rfl⟩ := hq
  exact h.fs q1.S
theorem wr_can {p : Nat} {S : ns_T} {z : Nat} {X : Nat → Nat} {t : tp_T}  {σ σ' : ex_S} {μ μ' : ex_L} (hp : gP p) (hV : VS S) (hU : PSV S) (h : WR σ μ p S z X t) (hq : FrM σ σ' ∧ μ' = μ) : WR σ' μ' p S z X t ∧ HR σ σ' μ μ' := by
  obtain ⟨q1, rfl⟩ := hq
  exact h.fs q1.S
theorem wr_odds {p : Nat} {S : ns_T} {z : Nat} {X : Nat → Nat} {t : tp_T}  {σ σ' : ex_S} {μ μ' : ex_L} (hp : gP p) (hV : VS S) (hU : PSV S) (h : WR σ μ p S z X t) (hq : FrM σ σ' ∧ μ' = μ) : WR σ' μ' p S z X t ∧ HR σ σ' μ μ' := by
  obtain ⟨q1, rfl⟩ := hq
  exact h.fs q1.S
theorem wr_of {p : Nat} {S : ns_T} {z : Nat} {X : Nat → Nat} {t : tp_T}  {σ σ' : ex_S} {μ μ' : ex_L} (hp : gP p) (hV : VS S) (hU : PSV S) (h : WR σ μ p S z X t) (hq : FrS σ σ' ∧ μ' = μ) : WR σ' μ' p S z X t ∧ HR σ σ' μ μ' := by
  obtain ⟨q1, rfl⟩ := hq
  exact h.fs q1
theorem wr_mean {p : Nat} {S : ns_T} {z : Nat} {X : Nat → Nat} {t : tp_T}  {σ σ' : ex_S} {μ μ' : ex_L} (hp : gP p) (hV : VS S) (hU : PSV S) (h : WR σ μ p S z X t) (hq : FrS σ σ' ∧ μ' = μ) : WR σ' μ' p S z X t ∧ HR σ σ' μ μ' := by
  obtain ⟨q1, rfl⟩ := hq
  exact h.fs q1
theorem wr_field {p : Nat} {S : ns_T} {z : Nat} {X : Nat → Nat} {t : tp_T} {x : Int32} {σ σ' : ex_S} {μ μ' : ex_L} (hp : gP p) (hV : VS S) (hU : PSV S) (h : WR σ μ p S z X t) (hq : FR σ' (nfieldP (S 0 0) p x) ∧ (∀ i, i ≠ 127 → i ≠ 128 → i ≠ 129 → i ≠ 130 → σ' i = σ i) ∧ (∀ k, 2 ≤ k → σ' 127 k = σ 127 k) ∧ μ' = μ) : WR σ' μ' (nfieldP (S 0 0) p x) S z X t ∧ HR σ σ' μ μ' := by
  obtain ⟨f2, n2, b1, b2, b3, x2, t2⟩ := h
  obtain ⟨q1, g, gk, rfl⟩ := hq
  exact ⟨⟨q1, n2.to2 (fun i a b => g i (by omega) (by omega) (by omega) (by omega)) (fun k a b => (gk k (by omega))), b1.to (gk 22 (by omega)) (g 142 (by omega) (by omega) (by omega) (by omega)) (g 143 (by omega) (by omega) (by omega) (by omega)), b2.to (gk 25 (by omega)) (g 144 (by omega) (by omega) (by omega) (by omega)) (g 145 (by omega) (by omega) (by omega) (by omega)), b3.to (gk 28 (by omega)) (g 146 (by omega) (by omega) (by omega) (by omega)) (g 147 (by omega) (by omega) (by omega) (by omega)), x2.to (gk 17 (by omega)) (g 140 (by omega) (by omega) (by omega) (by omega)), t2.to (g 151 (by omega) (by omega) (by omega) (by omega)) (g 152 (by omega) (by omega) (by omega) (by omega)) rfl⟩, fun i hi => g i (by omega) (by omega) (by omega) (by omega), fun _ _ _ => rfl, (gk 31 (by omega)), (g 148 (by omega) (by omega) (by omega) (by omega))⟩
theorem wr_data {p : Nat} {S : ns_T} {z : Nat} {X : Nat → Nat} {t : tp_T} {x : Int32} {y : Int32} {σ σ' : ex_S} {μ μ' : ex_L} (hp : gP p) (hV : VS S) (hU : PSV S) (h : WR σ μ p S z X t) (hq : NR σ' (ndata S x y).2 ∧ (∀ i, (i < 127 ∨ (127 < i ∧ i < 131) ∨ 139 < i) → σ' i = σ i) ∧ (∀ k, k ≠ 5 → k ≠ 6 → k ≠ 7 → σ' 127 k = σ 127 k) ∧ μ' = μ) : WR σ' μ' p ((ndata S x y).2) z X t ∧ HR σ σ' μ μ' := by
  obtain ⟨f2, n2, b1, b2, b3, x2, t2⟩ := h
  obtain ⟨q1, g, gk, rfl⟩ := hq
  have e := (ndata_n hV (x := x) (y := y)).2.2.2
  exact ⟨⟨f2.to2 (fun i a b => g i (by omega)) (fun k a => (gk k (by omega) (by omega) (by omega))), q1, (b1.to (gk 22 (by omega) (by omega) (by omega)) (g 142 (by omega)) (g 143 (by omega))).eqv (fun u i h1 h2 => e u i (by omega) (by omega)), (b2.to (gk 25 (by omega) (by omega) (by omega)) (g 144 (by omega)) (g 145 (by omega))).eqv (fun u i h1 h2 => e u i (by omega) (by omega)), (b3.to (gk 28 (by omega) (by omega) (by omega)) (g 146 (by omega)) (g 147 (by omega))).eqv (fun u i h1 h2 => e u i (by omega) (by omega)), x2.to (gk 17 (by omega) (by omega) (by omega)) (g 140 (by omega)), t2.to (g 151 (by omega)) (g 152 (by omega)) rfl⟩, fun i hi => g i (by omega), fun _ _ _ => rfl, (gk 31 (by omega) (by omega) (by omega)), (g 148 (by omega))⟩
theorem wr_parity {p : Nat} {S : ns_T} {z : Nat} {X : Nat → Nat} {t : tp_T} {x : Int32} {y : Int32} {σ σ' : ex_S} {μ μ' : ex_L} (hp : gP p) (hV : VS S) (hU : PSV S) (h : WR σ μ p S z X t) (hq : NR σ' (nparity p S z X x y).2.1 ∧ TXR σ' (nparity p S z X x y).2.2 X ∧ (∀ i, (i < 127 ∨ (127 < i ∧ i < 131) ∨ 137 < i) → i ≠ 141 → σ' i = σ i) ∧ (∀ k, k ≠ 5 → k ≠ 6 → k ≠ 7 → k ≠ 17 → k ≠ 19 → k ≠ 20 → σ' 127 k = σ 127 k) ∧ μ' = μ) : WR σ' μ' p ((nparity p S z X x y).2.1) ((nparity p S z X x y).2.2) X t ∧ HR σ σ' μ μ' := by
  obtain ⟨f2, n2, b1, b2, b3, x2, t2⟩ := h
  obtain ⟨q1, q2, g, gk, rfl⟩ := hq
  have e := (nparity_n hp hV (z := z) (X := X) (x := x) (y := y)).1.2.2.2
  exact ⟨⟨f2.to2 (fun i a b => g i (by omega) (by omega)) (fun k a => (gk k (by omega) (by omega) (by omega) (by omega) (by omega) (by omega))), q1, (b1.to (gk 22 (by omega) (by omega) (by omega) (by omega) (by omega) (by omega)) (g 142 (by omega) (by omega)) (g 143 (by omega) (by omega))).eqv (fun u i h1 h2 => e u i (by omega) (by omega)), (b2.to (gk 25 (by omega) (by omega) (by omega) (by omega) (by omega) (by omega)) (g 144 (by omega) (by omega)) (g 145 (by omega) (by omega))).eqv (fun u i h1 h2 => e u i (by omega) (by omega)), (b3.to (gk 28 (by omega) (by omega) (by omega) (by omega) (by omega) (by omega)) (g 146 (by omega) (by omega)) (g 147 (by omega) (by omega))).eqv (fun u i h1 h2 => e u i (by omega) (by omega)), q2, t2.to (g 151 (by omega) (by omega)) (g 152 (by omega) (by omega)) rfl⟩, fun i hi => g i (by omega) (by omega), fun _ _ _ => rfl, (gk 31 (by omega) (by omega) (by omega) (by omega) (by omega) (by omega)), (g 148 (by omega) (by omega))⟩
theorem wr_row {p : Nat} {S : ns_T} {z : Nat} {X : Nat → Nat} {t : tp_T} {x : Int32} {q : Int32} {v : Int32} {σ σ' : ex_S} {μ μ' : ex_L} (hp : gP p) (hV : VS S) (hU : PSV S) (h : WR σ μ p S z X t) (hq : NR σ' (nrow S x q v).2 ∧ (∀ i, i ≠ 137 → σ' i = σ i) ∧ μ' = μ) : WR σ' μ' p ((nrow S x q v).2) z X t ∧ HR σ σ' μ μ' := by
  obtain ⟨f2, n2, b1, b2, b3, x2, t2⟩ := h
  obtain ⟨q1, g, rfl⟩ := hq
  have e := (nrow_n hV (x := x) (q := q) (v := v)).2.2.2
  exact ⟨⟨f2.to2 (fun i a b => g i (by omega)) (fun k a => (congrFun (g 127 (by omega)) k)), q1, (b1.to (congrFun (g 127 (by omega)) 22) (g 142 (by omega)) (g 143 (by omega))).eqv (fun u i h1 h2 => e u i (by omega) (by omega)), (b2.to (congrFun (g 127 (by omega)) 25) (g 144 (by omega)) (g 145 (by omega))).eqv (fun u i h1 h2 => e u i (by omega) (by omega)), (b3.to (congrFun (g 127 (by omega)) 28) (g 146 (by omega)) (g 147 (by omega))).eqv (fun u i h1 h2 => e u i (by omega) (by omega)), x2.to (congrFun (g 127 (by omega)) 17) (g 140 (by omega)), t2.to (g 151 (by omega)) (g 152 (by omega)) rfl⟩, fun i hi => g i (by omega), fun _ _ _ => rfl, (congrFun (g 127 (by omega)) 31), (g 148 (by omega))⟩
theorem wr_write {p : Nat} {S : ns_T} {z : Nat} {X : Nat → Nat} {t : tp_T} {x : Int32} {v : Int32} {σ σ' : ex_S} {μ μ' : ex_L} (hp : gP p) (hV : VS S) (hU : PSV S) (h : WR σ μ p S z X t) (hq : NR σ' (nwrite S x v).2 ∧ (∀ i, i ≠ 138 → σ' i = σ i) ∧ μ' = μ) : WR σ' μ' p ((nwrite S x v).2) z X t ∧ HR σ σ' μ μ' := by
  obtain ⟨f2, n2, b1, b2, b3, x2, t2⟩ := h
  obtain ⟨q1, g, rfl⟩ := hq
  have e := (nwrite_n hV (x := x) (v := v)).2.2.2
  exact ⟨⟨f2.to2 (fun i a b => g i (by omega)) (fun k a => (congrFun (g 127 (by omega)) k)), q1, (b1.to (congrFun (g 127 (by omega)) 22) (g 142 (by omega)) (g 143 (by omega))).eqv (fun u i h1 h2 => e u i (by omega) (by omega)), (b2.to (congrFun (g 127 (by omega)) 25) (g 144 (by omega)) (g 145 (by omega))).eqv (fun u i h1 h2 => e u i (by omega) (by omega)), (b3.to (congrFun (g 127 (by omega)) 28) (g 146 (by omega)) (g 147 (by omega))).eqv (fun u i h1 h2 => e u i (by omega) (by omega)), x2.to (congrFun (g 127 (by omega)) 17) (g 140 (by omega)), t2.to (g 151 (by omega)) (g 152 (by omega)) rfl⟩, fun i hi => g i (by omega), fun _ _ _ => rfl, (congrFun (g 127 (by omega)) 31), (g 148 (by omega))⟩
theorem wr_lose {p : Nat} {S : ns_T} {z : Nat} {X : Nat → Nat} {t : tp_T} {x : Int32} {σ σ' : ex_S} {μ μ' : ex_L} (hp : gP p) (hV : VS S) (hU : PSV S) (h : WR σ μ p S z X t) (hq : NR σ' (nlose p S x).2 ∧ (∀ i, i ≠ 135 → σ' i = σ i) ∧ μ' = μ) : WR σ' μ' p ((nlose p S x).2) z X t ∧ HR σ σ' μ μ' := by
  obtain ⟨f2, n2, b1, b2, b3, x2, t2⟩ := h
  obtain ⟨q1, g, rfl⟩ := hq
  have e := (nlose_n (p := p) hV (x := x)).2.2.2
  exact ⟨⟨f2.to2 (fun i a b => g i (by omega)) (fun k a => (congrFun (g 127 (by omega)) k)), q1, (b1.to (congrFun (g 127 (by omega)) 22) (g 142 (by omega)) (g 143 (by omega))).eqv (fun u i h1 h2 => e u i (by omega) (by omega)), (b2.to (congrFun (g 127 (by omega)) 25) (g 144 (by omega)) (g 145 (by omega))).eqv (fun u i h1 h2 => e u i (by omega) (by omega)), (b3.to (congrFun (g 127 (by omega)) 28) (g 146 (by omega)) (g 147 (by omega))).eqv (fun u i h1 h2 => e u i (by omega) (by omega)), x2.to (congrFun (g 127 (by omega)) 17) (g 140 (by omega)), t2.to (g 151 (by omega)) (g 152 (by omega)) rfl⟩, fun i hi => g i (by omega), fun _ _ _ => rfl, (congrFun (g 127 (by omega)) 31), (g 148 (by omega))⟩
theorem wr_repair {p : Nat} {S : ns_T} {z : Nat} {X : Nat → Nat} {t : tp_T} {x : Int32} {σ σ' : ex_S} {μ μ' : ex_L} (hp : gP p) (hV : VS S) (hU : PSV S) (h : WR σ μ p S z X t) (hq : NR σ' (nrepair p S x).2 ∧ (∀ i, i ≠ 127 → i ≠ 150 → i ≠ 134 → i ≠ 135 → σ' i = σ i) ∧ (∀ k, k < 35 ∨ 37 < k → σ' 127 k = σ 127 k) ∧ μ' = μ) : WR σ' μ' p ((nrepair p S x).2) z X t ∧ HR σ σ' μ μ' := by
  obtain ⟨f2, n2, b1, b2, b3, x2, t2⟩ := h
  obtain ⟨q1, g, gk, rfl⟩ := hq
  have e := (nrepair_n (p := p) hV (x := x)).2.2.2
  exact ⟨⟨f2.to2 (fun i a b => g i (by omega) (by omega) (by omega) (by omega)) (fun k a => (gk k (by omega))), q1, (b1.to (gk 22 (by omega)) (g 142 (by omega) (by omega) (by omega) (by omega)) (g 143 (by omega) (by omega) (by omega) (by omega))).eqv (fun u i h1 h2 => e u i (by omega) (by omega)), (b2.to (gk 25 (by omega)) (g 144 (by omega) (by omega) (by omega) (by omega)) (g 145 (by omega) (by omega) (by omega) (by omega))).eqv (fun u i h1 h2 => e u i (by omega) (by omega)), (b3.to (gk 28 (by omega)) (g 146 (by omega) (by omega) (by omega) (by omega)) (g 147 (by omega) (by omega) (by omega) (by omega))).eqv (fun u i h1 h2 => e u i (by omega) (by omega)), x2.to (gk 17 (by omega)) (g 140 (by omega) (by omega) (by omega) (by omega)), t2.to (g 151 (by omega) (by omega) (by omega) (by omega)) (g 152 (by omega) (by omega) (by omega) (by omega)) rfl⟩, fun i hi => g i (by omega) (by omega) (by omega) (by omega), fun _ _ _ => rfl, (gk 31 (by omega)), (g 148 (by omega) (by omega) (by omega) (by omega))⟩
theorem wr_see {p : Nat} {S : ns_T} {z : Nat} {X : Nat → Nat} {t : tp_T} {x : Int32} {v : Int32} {σ σ' : ex_S} {μ μ' : ex_L} (hp : gP p) (hV : VS S) (hU : PSV S) (h : WR σ μ p S z X t) (hq : PH σ' 22 142 (ntell 5 10 S x v).2 10 ∧ (∀ i, i ≠ 127 → i ≠ 142 → i ≠ 143 → σ' i = σ i) ∧ (∀ k, k ≠ 22 → σ' 127 k = σ 127 k) ∧ μ' = μ) : WR σ' μ' p ((ntell 5 10 S x v).2) z X t ∧ HR σ σ' μ μ' := by
  obtain ⟨f2, n2, b1, b2, b3, x2, t2⟩ := h
  obtain ⟨q1, g, gk, rfl⟩ := hq
  have e := nsee_n hV hU (x := x) (v := v)
  exact ⟨⟨f2.to2 (fun i a b => g i (by omega) (by omega) (by omega)) (fun k a => (gk k (by omega))), (n2.to2 (fun i a b => g i (by omega) (by omega) (by omega)) (fun k a b => (gk k (by omega)))).eqv (fun u i hh => e.2 u i (by omega)), q1, (b2.to (gk 25 (by omega)) (g 144 (by omega) (by omega) (by omega)) (g 145 (by omega) (by omega) (by omega))).eqv (fun u i h1 h2 => e.2 u i (by omega)), (b3.to (gk 28 (by omega)) (g 146 (by omega) (by omega) (by omega)) (g 147 (by omega) (by omega) (by omega))).eqv (fun u i h1 h2 => e.2 u i (by omega)), x2.to (gk 17 (by omega)) (g 140 (by omega) (by omega) (by omega)), t2.to (g 151 (by omega) (by omega) (by omega)) (g 152 (by omega) (by omega) (by omega)) rfl⟩, fun i hi => g i (by omega) (by omega) (by omega), fun _ _ _ => rfl, (gk 31 (by omega)), (g 148 (by omega) (by omega) (by omega))⟩
theorem wr_plan {p : Nat} {S : ns_T} {z : Nat} {X : Nat → Nat} {t : tp_T} {w : Int32} {x : Int32} {σ σ' : ex_S} {μ μ' : ex_L} (hp : gP p) (hV : VS S) (hU : PSV S) (h : WR σ μ p S z X t) (hq : PH σ' 25 144 (nplan S w x).2 13 ∧ (∀ i, i ≠ 127 → i ≠ 144 → i ≠ 145 → σ' i = σ i) ∧ (∀ k, k ≠ 25 → σ' 127 k = σ 127 k) ∧ μ' = μ) : WR σ' μ' p ((nplan S w x).2) z X t ∧ HR σ σ' μ μ' := by
  obtain ⟨f2, n2, b1, b2, b3, x2, t2⟩ := h
  obtain ⟨q1, g, gk, rfl⟩ := hq
  have e := nplan_n hV hU (w := w) (x := x)
  exact ⟨⟨f2.to2 (fun i a b => g i (by omega) (by omega) (by omega)) (fun k a => (gk k (by omega))), (n2.to2 (fun i a b => g i (by omega) (by omega) (by omega)) (fun k a b => (gk k (by omega)))).eqv (fun u i hh => e.2 u i (by omega)), (b1.to (gk 22 (by omega)) (g 142 (by omega) (by omega) (by omega)) (g 143 (by omega) (by omega) (by omega))).eqv (fun u i h1 h2 => e.2 u i (by omega)), q1, (b3.to (gk 28 (by omega)) (g 146 (by omega) (by omega) (by omega)) (g 147 (by omega) (by omega) (by omega))).eqv (fun u i h1 h2 => e.2 u i (by omega)), x2.to (gk 17 (by omega)) (g 140 (by omega) (by omega) (by omega)), t2.to (g 151 (by omega) (by omega) (by omega)) (g 152 (by omega) (by omega) (by omega)) rfl⟩, fun i hi => g i (by omega) (by omega) (by omega), fun _ _ _ => rfl, (gk 31 (by omega)), (g 148 (by omega) (by omega) (by omega))⟩
theorem wr_book {p : Nat} {S : ns_T} {z : Nat} {X : Nat → Nat} {t : tp_T} {x : Int32} {v : Int32} {σ σ' : ex_S} {μ μ' : ex_L} (hp : gP p) (hV : VS S) (hU : PSV S) (h : WR σ μ p S z X t) (hq : PH σ' 28 146 (ntell 8 16 S x v).2 16 ∧ (∀ i, i ≠ 127 → i ≠ 146 → i ≠ 147 → σ' i = σ i) ∧ (∀ k, k ≠ 28 → σ' 127 k = σ 127 k) ∧ μ' = μ) : WR σ' μ' p ((ntell 8 16 S x v).2) z X t ∧ HR σ σ' μ μ' := by
  obtain ⟨f2, n2, b1, b2, b3, x2, t2⟩ := h
  obtain ⟨q1, g, gk, rfl⟩ := hq
  have e := nbook_n hV hU (x := x) (v := v)
  exact ⟨⟨f2.to2 (fun i a b => g i (by omega) (by omega) (by omega)) (fun k a => (gk k (by omega))), (n2.to2 (fun i a b => g i (by omega) (by omega) (by omega)) (fun k a b => (gk k (by omega)))).eqv (fun u i hh => e.2 u i (by omega)), (b1.to (gk 22 (by omega)) (g 142 (by omega) (by omega) (by omega)) (g 143 (by omega) (by omega) (by omega))).eqv (fun u i h1 h2 => e.2 u i (by omega)), (b2.to (gk 25 (by omega)) (g 144 (by omega) (by omega) (by omega)) (g 145 (by omega) (by omega) (by omega))).eqv (fun u i h1 h2 => e.2 u i (by omega)), q1, x2.to (gk 17 (by omega)) (g 140 (by omega) (by omega) (by omega)), t2.to (g 151 (by omega) (by omega) (by omega)) (g 152 (by omega) (by omega) (by omega)) rfl⟩, fun i hi => g i (by omega) (by omega) (by omega), fun _ _ _ => rfl, (gk 31 (by omega)), (g 148 (by omega) (by omega) (by omega))⟩
theorem wr_ends {p : Nat} {S : ns_T} {z : Nat} {X : Nat → Nat} {t : tp_T}  {σ σ' : ex_S} {μ μ' : ex_L} (hp : gP p) (hV : VS S) (hU : PSV S) (h : WR σ μ p S z X t) (hq : (∀ q, q < 202 → wim σ' q = wim σ q) ∧ (∀ i, ¬ (i = 127 ∨ (131 ≤ i ∧ i ≤ 139) ∨ (142 ≤ i ∧ i ≤ 147) ∨ i = 149 ∨ i = 150) → σ' i = σ i) ∧ (∀ k, k ≠ 5 → k ≠ 6 → k ≠ 7 → k ≠ 22 → k ≠ 25 → k ≠ 28 → (k < 35 ∨ 37 < k) → σ' 127 k = σ 127 k) ∧ μ' = μ) : WR σ' μ' p S z X t ∧ HR σ σ' μ μ' := by
  obtain ⟨f2, n2, b1, b2, b3, x2, t2⟩ := h
  obtain ⟨q1, g, gk, rfl⟩ := hq
  exact ⟨⟨f2.to2 (fun i a b => g i (by omega)) (fun k a => (gk k (by omega) (by omega) (by omega) (by omega) (by omega) (by omega) (by omega))), n2.wim hV q1, b1.wim1 hU q1, b2.wim2 hU q1, b3.wim3 hU q1, x2.to (gk 17 (by omega) (by omega) (by omega) (by omega) (by omega) (by omega) (by omega)) (g 140 (by omega)), t2.to (g 151 (by omega)) (g 152 (by omega)) rfl⟩, fun i hi => g i (by omega), fun _ _ _ => rfl, (gk 31 (by omega) (by omega) (by omega) (by omega) (by omega) (by omega) (by omega)), (g 148 (by omega))⟩
theorem wr_feed {p : Nat} {S : ns_T} {z : Nat} {X : Nat → Nat} {t : tp_T} {x : Int32} {σ σ' : ex_S} {μ μ' : ex_L} (hp : gP p) (hV : VS S) (hU : PSV S) (h : WR σ μ p S z X t) (hq : TXR σ' (nfeed z X x).2.1 (nfeed z X x).2.2 ∧ (∀ i, i ≠ 127 → i ≠ 140 → σ' i = σ i) ∧ (∀ k, k ≠ 17 → σ' 127 k = σ 127 k) ∧ μ' = μ) : WR σ' μ' p S ((nfeed z X x).2.1) ((nfeed z X x).2.2) t ∧ HR σ σ' μ μ' := by
  obtain ⟨f2, n2, b1, b2, b3, x2, t2⟩ := h
  obtain ⟨q1, g, gk, rfl⟩ := hq
  exact ⟨⟨f2.to2 (fun i a b => g i (by omega) (by omega)) (fun k a => (gk k (by omega))), n2.to2 (fun i a b => g i (by omega) (by omega)) (fun k a b => (gk k (by omega))), b1.to (gk 22 (by omega)) (g 142 (by omega) (by omega)) (g 143 (by omega) (by omega)), b2.to (gk 25 (by omega)) (g 144 (by omega) (by omega)) (g 145 (by omega) (by omega)), b3.to (gk 28 (by omega)) (g 146 (by omega) (by omega)) (g 147 (by omega) (by omega)), q1, t2.to (g 151 (by omega) (by omega)) (g 152 (by omega) (by omega)) rfl⟩, fun i hi => g i (by omega) (by omega), fun _ _ _ => rfl, (gk 31 (by omega)), (g 148 (by omega) (by omega))⟩
theorem wr_tape {p : Nat} {S : ns_T} {z : Nat} {X : Nat → Nat} {t : tp_T} {x : Int32} {s : Int32} {n : Int32} {σ σ' : ex_S} {μ μ' : ex_L} (hp : gP p) (hV : VS S) (hU : PSV S) (h : WR σ μ p S z X t) (hq : TPR σ' μ' (ntape t x s n).2 ∧ (∀ i, i ≠ 151 → i ≠ 152 → σ' i = σ i) ∧ (∀ i, i ≠ 153 → μ' i = μ i)) : WR σ' μ' p S z X ((ntape t x s n).2) ∧ HR σ σ' μ μ' := by
  obtain ⟨f2, n2, b1, b2, b3, x2, t2⟩ := h
  obtain ⟨q1, g, gm⟩ := hq
  exact ⟨⟨f2.to2 (fun i a b => g i (by omega) (by omega)) (fun k a => (congrFun (g 127 (by omega) (by omega)) k)), n2.to2 (fun i a b => g i (by omega) (by omega)) (fun k a b => (congrFun (g 127 (by omega) (by omega)) k)), b1.to (congrFun (g 127 (by omega) (by omega)) 22) (g 142 (by omega) (by omega)) (g 143 (by omega) (by omega)), b2.to (congrFun (g 127 (by omega) (by omega)) 25) (g 144 (by omega) (by omega)) (g 145 (by omega) (by omega)), b3.to (congrFun (g 127 (by omega) (by omega)) 28) (g 146 (by omega) (by omega)) (g 147 (by omega) (by omega)), x2.to (congrFun (g 127 (by omega) (by omega)) 17) (g 140 (by omega) (by omega)), q1⟩, fun i hi => g i (by omega) (by omega), fun i _ _ => gm i (by omega), (congrFun (g 127 (by omega) (by omega)) 31), (g 148 (by omega) (by omega))⟩
theorem wr_item {p : Nat} {S : ns_T} {z : Nat} {X : Nat → Nat} {t : tp_T} {x : Int32} {i : Int32} {v : Int64} {σ σ' : ex_S} {μ μ' : ex_L} (hp : gP p) (hV : VS S) (hU : PSV S) (h : WR σ μ p S z X t) (hq : TPR σ' μ' (nitem t x i v).2 ∧ σ' = σ ∧ (∀ i, i ≠ 153 → μ' i = μ i)) : WR σ' μ' p S z X ((nitem t x i v).2) ∧ HR σ σ' μ μ' := by
  obtain ⟨f2, n2, b1, b2, b3, x2, t2⟩ := h
  obtain ⟨q1, rfl, gm⟩ := hq
  exact ⟨⟨f2, n2, b1, b2, b3, x2, q1⟩, fun _ _ => rfl, fun i _ _ => gm i (by omega), rfl, rfl⟩
theorem wr_shift {p : Nat} {S : ns_T} {z : Nat} {X : Nat → Nat} {t : tp_T} {x : Int32} {i : Int32} {y : Int32} {j : Int32} {n : Int32} {σ σ' : ex_S} {μ μ' : ex_L} (hp : gP p) (hV : VS S) (hU : PSV S) (h : WR σ μ p S z X t) (hq : TPR σ' μ' (nshift t x i y j n).2 ∧ σ' = σ ∧ (∀ i, i ≠ 153 → μ' i = μ i)) : WR σ' μ' p S z X ((nshift t x i y j n).2) ∧ HR σ σ' μ μ' := by
  obtain ⟨f2, n2, b1, b2, b3, x2, t2⟩ := h
  obtain ⟨q1, rfl, gm⟩ := hq
  exact ⟨⟨f2, n2, b1, b2, b3, x2, q1⟩, fun _ _ => rfl, fun i _ _ => gm i (by omega), rfl, rfl⟩
