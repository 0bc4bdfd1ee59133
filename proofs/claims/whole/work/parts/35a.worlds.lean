/-! THE LAW: what each command does to the worlds of both sides -/
theorem cif_i {α : Type} {P : Prop} {a b : α} (Q : α → Prop) (h1 : P → Q a) (h2 : ¬ P → Q b) : Q (cif P a b) := by
  by_cases h : P
  · rw [cif_t h]; exact h1 h
  · rw [cif_f h]; exact h2 h
theorem cl_le {v : Int32} {m : Nat} (hm : m < 2 ^ 31) (h : 0 ≤ v) (h2 : v ≤ nI m) : v.toNatClampNeg ≤ m := by
  obtain ⟨k, hk, rfl⟩ := i_any h
  rw [i_cl hk]
  exact (i_le hk hm).mp h2
theorem cl_lt {v : Int32} {m : Nat} (hm : m < 2 ^ 31) (h : 0 ≤ v) (h2 : v < nI m) : v.toNatClampNeg < m := by
  obtain ⟨k, hk, rfl⟩ := i_any h
  rw [i_cl hk]
  exact (i_lt hk hm).mp h2
def Sm (S S' : ns_T) : Prop := ∀ t k, 10 ≤ t → t < 20 → S' t k = S t k
def Sq (S S' : ns_T) (u : Nat) : Prop := ∀ t k, (t < u ∨ u + 2 < t) → S' t k = S t k
/-- a change of the nodes that makes none -/
def N1 (S : ns_T) (o : out_T) : Prop := VS o.2 ∧ o.2 0 0 = S 0 0 ∧ (∀ j, o.2 5 j = S 5 j) ∧ Sm S o.2
/-- a change that may make one -/
def N2 (S S' : ns_T) : Prop := VS S' ∧ PSV S' ∧ S 0 0 ≤ S' 0 0 ∧ ∀ j, j < S 0 0 → S' 5 j = S 5 j
theorem N1.rf {S : ns_T} (hV : VS S) {z : Int32} : N1 S (z, S) := ⟨hV, rfl, fun _ => rfl, fun _ _ _ _ => rfl⟩
theorem N1.mk {S S' : ns_T} {z : Int32} (h : VS S') (h0 : S' 0 0 = S 0 0) (h5 : ∀ j, S' 5 j = S 5 j) (h1 : Sm S S') : N1 S (z, S') := ⟨h, h0, h5, h1⟩
/-- a change that may make a node, with the text's length -/
def D1 (S : ns_T) (S' : ns_T) : Prop := VS S' ∧ S 0 0 ≤ S' 0 0 ∧ (∀ j, j < S 0 0 → S' 5 j = S 5 j) ∧ Sm S S'
theorem D1.rf {S : ns_T} (hV : VS S) : D1 S S := ⟨hV, Nat.le_refl _, fun _ _ => rfl, fun _ _ _ _ => rfl⟩
theorem nnd_d {S : ns_T} {k v : Nat} (h : VS (nnd S k v)) (hn : S 0 0 ≤ 10) : D1 S (nnd S k v) := by
  refine ⟨h, by rw [nnd_00]; exact Nat.le_succ _, fun j hj => ?_, fun t i h4 h5 => ?_⟩
  · rw [nnd_e (by decide) (by decide) (by decide), nnew_e (by decide) (by omega) (by omega)]
  · rw [nnd_e (by omega) (by omega) (by omega), nnew_e (by omega) (by omega) (by omega)]
theorem nnew_d {S : ns_T} {k v w f : Nat} (h : VS (nnew S k v w f)) (hn : S 0 0 ≤ 10) : D1 S (nnew S k v w f) := by
  refine ⟨h, by rw [nnew_00]; exact Nat.le_succ _, fun j hj => ?_, fun t i h4 h5 => ?_⟩
  · rw [nnew_e (by decide) (by omega) (by omega)]
  · rw [nnew_e (by omega) (by omega) (by omega)]
theorem N2.rf {S : ns_T} (hV : VS S) (hU : PSV S) : N2 S S := ⟨hV, hU, Nat.le_refl _, fun _ _ => rfl⟩
theorem PSV.sm {S S' : ns_T} (h : PSV S) (e : Sm S S') (h0 : S 0 0 ≤ S' 0 0) : PSV S' := by
  obtain ⟨a1, a2, a3, a4, a5, a6⟩ := h
  refine ⟨?_, ?_, ?_, fun i hi => ?_, fun i hi => ?_, fun i hi => ?_⟩
  · rw [e 10 0 (by decide) (by decide)]; exact a1
  · rw [e 13 0 (by decide) (by decide)]; exact a2
  · rw [e 16 0 (by decide) (by decide)]; exact a3
  · rw [e 10 0 (by decide) (by decide)] at hi
    rw [e 11 i (by decide) (by decide), e 12 i (by decide) (by decide)]
    exact ⟨Nat.lt_of_lt_of_le (a4 i hi).1 h0, (a4 i hi).2⟩
  · rw [e 13 0 (by decide) (by decide)] at hi
    rw [e 14 i (by decide) (by decide), e 15 i (by decide) (by decide)]
    exact ⟨(a5 i hi).1, Nat.lt_of_lt_of_le (a5 i hi).2 h0⟩
  · rw [e 16 0 (by decide) (by decide)] at hi
    rw [e 17 i (by decide) (by decide), e 18 i (by decide) (by decide)]
    exact ⟨Nat.lt_of_lt_of_le (a6 i hi).1 h0, (a6 i hi).2⟩
theorem N1.n2 {S : ns_T} {o : out_T} (h : N1 S o) (hU : PSV S) : N2 S o.2 := ⟨h.1, hU.sm h.2.2.2 (Nat.le_of_eq h.2.1.symm), Nat.le_of_eq h.2.1.symm, fun j _ => h.2.2.1 j⟩
theorem nrow_n {S : ns_T} (hV : VS S) {x q v : Int32} : N1 S (nrow S x q v) := by
  unfold nrow
  refine cif_i (N1 S) (fun _ => cif_i (N1 S) (fun _ => cif_i (N1 S) (fun h3 => cif_i (N1 S) (fun _ => ?_) (fun _ => N1.rf hV)) (fun _ => N1.rf hV)) (fun _ => N1.rf hV)) (fun _ => N1.rf hV)
  exact N1.mk (hV.row (cl_le (by decide) h3.1 h3.2)) (nup_ne (by omega)) (fun j => nup_ne (by omega)) (fun t k h1 h2 => nup_ne (by omega))
theorem nwrite_n {S : ns_T} (hV : VS S) {x v : Int32} : N1 S (nwrite S x v) := by
  unfold nwrite
  refine cif_i (N1 S) (fun _ => cif_i (N1 S) (fun h3 => cif_i (N1 S) (fun _ => N1.rf hV) (fun _ => ?_)) (fun _ => N1.rf hV)) (fun _ => N1.rf hV)
  exact N1.mk (hV.wr (Nat.lt_succ_of_le (cl_le (m := 15) (by decide) h3.1 h3.2))) (nup_ne (by omega)) (fun j => nup_ne (by omega)) (fun t k h1 h2 => nup_ne (by omega))
theorem nlose_n {p : Nat} {S : ns_T} (hV : VS S) {x : Int32} : N1 S (nlose p S x) := by
  have hn := hV.1
  unfold nlose
  refine cif_i (N1 S) (fun h1 => cif_i (N1 S) (fun _ => N1.rf hV) (fun _ => ?_)) (fun _ => N1.rf hV)
  exact N1.mk (hV.los (cl_lt (by omega) h1.1 h1.2)) (nlos_e (by omega)) (fun j => nlos_e (by omega)) (fun t k h1 h2 => nlos_e (by omega))
theorem naft_n {S : ns_T} (hV : VS S) {z : Int32} (j : Nat) (o : Option Nat) : N1 S (z, naft S j o) := by
  refine N1.mk (hV.aft j o) (naft_0 (by decide)) (fun i => ?_) (fun t k h1 h2 => ?_)
  · cases o with
    | none => rfl
    | some t =>
      show nrep S j t 5 i = S 5 i
      exact nrep_ne (by omega) (by decide)
  · cases o with
    | none => rfl
    | some u =>
      show nrep S j u t k = S t k
      exact nrep_ne (by omega) (by omega)
theorem nrepair_n {p : Nat} {S : ns_T} (hV : VS S) {x : Int32} : N1 S (nrepair p S x) := by
  unfold nrepair
  exact cif_i (N1 S) (fun _ => cif_i (N1 S) (fun _ => N1.rf hV) (fun _ => naft_n hV _ _)) (fun _ => N1.rf hV)
theorem ndata_n {S : ns_T} (hV : VS S) {x y : Int32} : D1 S (ndata S x y).2 := by
  have hn := hV.1
  unfold ndata
  exact cif_i (fun o : out_T => D1 S o.2) (fun h1 => cif_i (fun o : out_T => D1 S o.2) (fun h2 => cif_i (fun o : out_T => D1 S o.2) (fun h3 => nnd_d (hV.dat h3 (Nat.lt_succ_of_le (cl_le (m := 6) (by decide) h1.1 h1.2)) (cl_le (m := 9) (by decide) h2.1 h2.2)) hn) (fun _ => D1.rf hV)) (fun _ => D1.rf hV)) (fun _ => D1.rf hV)
theorem nparity_n {p : Nat} (hp : gP p) {S : ns_T} (hV : VS S) {z : Nat} {X : Nat → Nat} {x y : Int32} : D1 S (nparity p S z X x y).2.1 ∧ (nparity p S z X x y).2.2 ≤ z := by
  have hn := hV.1
  unfold nparity
  exact cif_i (fun o : Int32 × ns_T × Nat => D1 S o.2.1 ∧ o.2.2 ≤ z) (fun h1 => cif_i (fun o : Int32 × ns_T × Nat => D1 S o.2.1 ∧ o.2.2 ≤ z) (fun h2 => cif_i (fun o : Int32 × ns_T × Nat => D1 S o.2.1 ∧ o.2.2 ≤ z) (fun h3 => cif_i (fun o : Int32 × ns_T × Nat => D1 S o.2.1 ∧ o.2.2 ≤ z) (fun h4 => cif_i (fun o : Int32 × ns_T × Nat => D1 S o.2.1 ∧ o.2.2 ≤ z) (fun _ => ⟨D1.rf hV, Nat.zero_le _⟩) (fun _ => ⟨nnew_d (hV.par h3 (Nat.lt_succ_of_le (cl_le (m := 6) (by decide) h1.1 h1.2)) (cl_le (m := 9) (by decide) h2.1 h2.2) (npar_b hp).2) hn, Nat.zero_le _⟩)) (fun _ => ⟨D1.rf hV, Nat.zero_le _⟩)) (fun _ => ⟨D1.rf hV, Nat.le_refl _⟩)) (fun _ => ⟨D1.rf hV, Nat.le_refl _⟩)) (fun _ => ⟨D1.rf hV, Nat.le_refl _⟩)
theorem D1.n2 {S S' : ns_T} (h : D1 S S') (hU : PSV S) : N2 S S' := ⟨h.1, hU.sm h.2.2.2 h.2.1, h.2.1, h.2.2.1⟩
/-- a change of one of the three sets of pairs -/
def N3 (u : Nat) (S : ns_T) (o : out_T) : Prop := PSV o.2 ∧ Sq S o.2 u
theorem psv10 {S S' : ns_T} (h : PSV S) (e : Sq S S' 10) (h0 : S' 10 0 ≤ 5) (h1 : ∀ i, i < S' 10 0 → S' 11 i < S 0 0 ∧ S' 12 i < 16) : PSV S' := by
  obtain ⟨a1, a2, a3, a4, a5, a6⟩ := h
  have e0 := e 0 0 (by omega)
  refine ⟨h0, by rw [e 13 0 (by omega)]; exact a2, by rw [e 16 0 (by omega)]; exact a3, fun i hi => by rw [e0]; exact h1 i hi, fun i hi => ?_, fun i hi => ?_⟩
  · rw [e 13 0 (by omega)] at hi
    rw [e 14 i (by omega), e 15 i (by omega), e0]
    exact a5 i hi
  · rw [e 16 0 (by omega)] at hi
    rw [e 17 i (by omega), e 18 i (by omega), e0]
    exact a6 i hi
theorem psv13 {S S' : ns_T} (h : PSV S) (e : Sq S S' 13) (h0 : S' 13 0 ≤ 10) (h1 : ∀ i, i < S' 13 0 → S' 14 i ≤ 2 ∧ S' 15 i < S 0 0) : PSV S' := by
  obtain ⟨a1, a2, a3, a4, a5, a6⟩ := h
  have e0 := e 0 0 (by omega)
  refine ⟨by rw [e 10 0 (by omega)]; exact a1, h0, by rw [e 16 0 (by omega)]; exact a3, fun i hi => ?_, fun i hi => by rw [e0]; exact h1 i hi, fun i hi => ?_⟩
  · rw [e 10 0 (by omega)] at hi
    rw [e 11 i (by omega), e 12 i (by omega), e0]
    exact a4 i hi
  · rw [e 16 0 (by omega)] at hi
    rw [e 17 i (by omega), e 18 i (by omega), e0]
    exact a6 i hi
theorem psv16 {S S' : ns_T} (h : PSV S) (e : Sq S S' 16) (h0 : S' 16 0 ≤ 8) (h1 : ∀ i, i < S' 16 0 → S' 17 i < S 0 0 ∧ S' 18 i < 16) : PSV S' := by
  obtain ⟨a1, a2, a3, a4, a5, a6⟩ := h
  have e0 := e 0 0 (by omega)
  refine ⟨by rw [e 10 0 (by omega)]; exact a1, by rw [e 13 0 (by omega)]; exact a2, h0, fun i hi => ?_, fun i hi => ?_, fun i hi => by rw [e0]; exact h1 i hi⟩
  · rw [e 10 0 (by omega)] at hi
    rw [e 11 i (by omega), e 12 i (by omega), e0]
    exact a4 i hi
  · rw [e 13 0 (by omega)] at hi
    rw [e 14 i (by omega), e 15 i (by omega), e0]
    exact a5 i hi
theorem N3.rf {u : Nat} {S : ns_T} (hU : PSV S) {z : Int32} : N3 u S (z, S) := ⟨hU, fun _ _ _ => rfl⟩
theorem N3.mk {u : Nat} {S S' : ns_T} {z : Int32} (h : PSV S') (e : Sq S S' u) : N3 u S (z, S') := ⟨h, e⟩
theorem sq_clr {S : ns_T} {u : Nat} : Sq S (nclr S u) u := fun t k h => nclr_e (by omega)
theorem sq_add {S : ns_T} {u a b : Nat} : Sq S (nadd S u a b) u := fun t k h => nadd_e h
theorem nsee_n {S : ns_T} (hV : VS S) (hU : PSV S) {x v : Int32} : N3 10 S (ntell 5 10 S x v) := by
  have hn := hV.1
  unfold ntell
  refine cif_i (N3 10 S) (fun _ => N3.mk (psv10 hU sq_clr (by rw [nclr_0]; exact Nat.zero_le _) (fun i hi => by rw [nclr_0] at hi; exact absurd hi (Nat.not_lt_zero i))) sq_clr) (fun _ => cif_i (N3 10 S) (fun h1 => cif_i (N3 10 S) (fun h2 => cif_i (N3 10 S) (fun h3 => ?_) (fun _ => N3.rf hU)) (fun _ => N3.rf hU)) (fun _ => N3.rf hU))
  have b1 := cl_lt (by omega) h1.1 h1.2
  have b2 := cl_le (m := 15) (by decide) h2.1 h2.2
  refine N3.mk (psv10 hU sq_add (by rw [nadd_0]; omega) (fun i hi => ?_)) sq_add
  rw [nadd_0] at hi
  rw [show (11 : Nat) = 10 + 1 from rfl, show (12 : Nat) = 10 + 2 from rfl, nadd_1, nadd_2]
  by_cases e : i = S 10 0
  · rw [if_pos e, if_pos e]
    exact ⟨b1, by omega⟩
  · rw [if_neg e, if_neg e]
    exact hU.2.2.2.1 i (by omega)
theorem nbook_n {S : ns_T} (hV : VS S) (hU : PSV S) {x v : Int32} : N3 16 S (ntell 8 16 S x v) := by
  have hn := hV.1
  unfold ntell
  refine cif_i (N3 16 S) (fun _ => N3.mk (psv16 hU sq_clr (by rw [nclr_0]; exact Nat.zero_le _) (fun i hi => by rw [nclr_0] at hi; exact absurd hi (Nat.not_lt_zero i))) sq_clr) (fun _ => cif_i (N3 16 S) (fun h1 => cif_i (N3 16 S) (fun h2 => cif_i (N3 16 S) (fun h3 => ?_) (fun _ => N3.rf hU)) (fun _ => N3.rf hU)) (fun _ => N3.rf hU))
  have b1 := cl_lt (by omega) h1.1 h1.2
  have b2 := cl_le (m := 15) (by decide) h2.1 h2.2
  refine N3.mk (psv16 hU sq_add (by rw [nadd_0]; omega) (fun i hi => ?_)) sq_add
  rw [nadd_0] at hi
  rw [show (17 : Nat) = 16 + 1 from rfl, show (18 : Nat) = 16 + 2 from rfl, nadd_1, nadd_2]
  by_cases e : i = S 16 0
  · rw [if_pos e, if_pos e]
    exact ⟨b1, by omega⟩
  · rw [if_neg e, if_neg e]
    exact hU.2.2.2.2.2 i (by omega)
theorem nplan_n {S : ns_T} (hV : VS S) (hU : PSV S) {w x : Int32} : N3 13 S (nplan S w x) := by
  have hn := hV.1
  unfold nplan
  refine cif_i (N3 13 S) (fun _ => N3.mk (psv13 hU sq_clr (by rw [nclr_0]; exact Nat.zero_le _) (fun i hi => by rw [nclr_0] at hi; exact absurd hi (Nat.not_lt_zero i))) sq_clr) (fun _ => cif_i (N3 13 S) (fun h1 => cif_i (N3 13 S) (fun h3 => ?_) (fun _ => N3.rf hU)) (fun _ => N3.rf hU))
  have b1 := cl_lt (by omega) h1.2.1 h1.2.2
  have b2 := cl_le (m := 2) (by decide) h1.1.1 h1.1.2
  refine N3.mk (psv13 hU sq_add (by rw [nadd_0]; omega) (fun i hi => ?_)) sq_add
  rw [nadd_0] at hi
  rw [show (14 : Nat) = 13 + 1 from rfl, show (15 : Nat) = 13 + 2 from rfl, nadd_1, nadd_2]
  by_cases e : i = S 13 0
  · rw [if_pos e, if_pos e]
    exact ⟨b2, b1⟩
  · rw [if_neg e, if_neg e]
    exact hU.2.2.2.2.1 i (by omega)
theorem nfeed_n {z : Nat} {X : Nat → Nat} (hz : z ≤ 100) (hX : ∀ i, i < z → X i < 128) {s : Int32} : (nfeed z X s).2.1 ≤ 100 ∧ ∀ i, i < (nfeed z X s).2.1 → (nfeed z X s).2.2 i < 128 := by
  unfold nfeed
  refine cif_i (fun o : Int32 × Nat × (Nat → Nat) => o.2.1 ≤ 100 ∧ ∀ i, i < o.2.1 → o.2.2 i < 128) (fun h1 => cif_i (fun o : Int32 × Nat × (Nat → Nat) => o.2.1 ≤ 100 ∧ ∀ i, i < o.2.1 → o.2.2 i < 128) (fun h2 => ⟨h2, fun i hi => ?_⟩) (fun _ => ⟨hz, hX⟩)) (fun _ => ⟨hz, hX⟩)
  have b := cl_le (m := 127) (by decide) h1.1 h1.2
  show (if i = z then s.toNatClampNeg else X i) < 128
  by_cases e : i = z
  · rw [if_pos e]; omega
  · rw [if_neg e]; exact hX i (by have : i < z + 1 := hi; omega)
theorem ntape_n {t : tp_T} (hT : TPV t) {x s n : Int32} : TPV (ntape t x s n).2 := by
  unfold ntape
  refine cif_i (fun o : tpo_T => TPV o.2) (fun _ => cif_i (fun o : tpo_T => TPV o.2) (fun _ => hT.tm (Nat.zero_le _) (Or.inl ⟨rfl, rfl⟩)) (fun _ => cif_i (fun o : tpo_T => TPV o.2) (fun h2 => cif_i (fun o : tpo_T => TPV o.2) (fun h3 => ?_) (fun _ => hT)) (fun _ => hT))) (fun _ => hT)
  refine hT.tm (cl_le (m := 60) (by decide) h3 h2.2) (Or.inr ?_)
  obtain ⟨k, hk, e⟩ := i_of (m := 4) (by decide) h2.1.1 h2.1.2
  exact ⟨k, hk, e⟩
theorem nitem_n {t : tp_T} (hT : TPV t) {x i : Int32} {v : Int64} : TPV (nitem t x i v).2 := by
  unfold nitem
  exact cif_i (fun o : tpo_T => TPV o.2) (fun _ => cif_i (fun o : tpo_T => TPV o.2) (fun _ => hT) (fun _ => cif_i (fun o : tpo_T => TPV o.2) (fun _ => hT.ts) (fun _ => hT))) (fun _ => hT)
theorem nshift_n {t : tp_T} (hT : TPV t) {x i y j n : Int32} : TPV (nshift t x i y j n).2 := by
  unfold nshift
  exact cif_i (fun o : tpo_T => TPV o.2) (fun _ => cif_i (fun o : tpo_T => TPV o.2) (fun _ => hT) (fun _ => cif_i (fun o : tpo_T => TPV o.2) (fun _ => cif_i (fun o : tpo_T => TPV o.2) (fun _ => hT.tc) (fun _ => hT)) (fun _ => hT))) (fun _ => hT)
theorem fl_pre {S K : ns_T} {t : Nat} (h5 : ∀ j, j < K 0 0 → K 5 j = S 5 j) : ∀ n, n ≤ K 0 0 → fl K t n = fl S t n := by
  intro n
  induction n with
  | zero => intro _; rfl
  | succ n ih =>
    intro hn
    unfold fl
    rw [ih (by omega), h5 n (by omega)]
theorem fl_up {S : ns_T} {t n : Nat} (ht : t < 2 ^ n) : ∀ m, fl S t (n + m) = fl S t n
  | 0 => rfl
  | m + 1 => by
    have h := fl_up (S := S) ht m
    rw [← Nat.add_assoc, fl_no (Nat.testBit_lt_two_pow (Nat.lt_of_lt_of_le ht (Nat.pow_le_pow_right (by decide) (Nat.le_add_right n m)))), h]
/-- the table of ranks of more nodes serves for fewer -/
theorem RKI.pref {σ : ex_S} {p : Nat} {S K : ns_T} (h : RKI σ p S) (h0 : K 0 0 ≤ S 0 0) (h5 : ∀ j, j < K 0 0 → K 5 j = S 5 j) : RKI σ p K := fun t ht => by
  have h1 := h t (Nat.lt_of_lt_of_le ht (Nat.pow_le_pow_right (by decide) h0))
  have e : nrk p K t = nrk p S t := by
    unfold nrk
    rw [fl_pre h5 _ (Nat.le_refl _)]
    obtain ⟨m, hm⟩ := Nat.le.dest h0
    rw [← hm, fl_up ht m]
  rw [e]
  exact h1
theorem RKI.fld {σ : ex_S} {p p' : Nat} {S : ns_T} (h : RKI σ p S) (h0 : S 0 0 = 0) : RKI σ p' S := fun t ht => by
  rw [h0] at ht
  have ht0 : t = 0 := by
    have : t < 1 := ht
    omega
  have h1 := h t (by rw [h0]; exact ht)
  have a := nrk_le (p := p) S t
  have b := nrk_le (p := p') S t
  rw [h1, show nrk p S t = 0 by omega, show nrk p' S t = 0 by omega]
