/-! rows told by hand -/
def PG (σ : ex_S) (b : Nat) (S : ns_T) (t : Nat) : Prop := σ b 2 = nI (S t 0) ∧ ∀ i, i < S t 0 → σ (b + 1) i = nI (S (t + 1) i) ∧ σ (b + 2) i = nI (S (t + 2) i)
def PH (σ : ex_S) (f c : Nat) (S : ns_T) (t : Nat) : Prop := σ 127 f = nI (S t 0) ∧ ∀ i, i < S t 0 → σ c i = nI (S (t + 1) i) ∧ σ (c + 1) i = nI (S (t + 2) i)
def PSV (S : ns_T) : Prop := S 10 0 ≤ 5 ∧ S 13 0 ≤ 10 ∧ S 16 0 ≤ 8 ∧ (∀ i, i < S 10 0 → S 11 i < S 0 0 ∧ S 12 i < 16) ∧ (∀ i, i < S 13 0 → S 14 i ≤ 2 ∧ S 15 i < S 0 0) ∧ (∀ i, i < S 16 0 → S 17 i < S 0 0 ∧ S 18 i < 16)
def nadd (S : ns_T) (t u v : Nat) : ns_T := nup (nup (nup S (t + 1) (S t 0) u) (t + 2) (S t 0) v) t 0 (S t 0 + 1)
theorem nadd_e {S : ns_T} {t u v t' k : Nat} (h : t' < t ∨ t + 2 < t') : nadd S t u v t' k = S t' k := by
  unfold nadd
  rw [nup_ne (by omega), nup_ne (by omega), nup_ne (by omega)]
theorem nadd_0 {S : ns_T} {t u v : Nat} : nadd S t u v t 0 = S t 0 + 1 := nup_same
theorem nadd_1 {S : ns_T} {t u v i : Nat} : nadd S t u v (t + 1) i = if i = S t 0 then u else S (t + 1) i := by
  unfold nadd
  rw [nup_ne (by omega), nup_ne (by omega)]
  unfold nup
  by_cases e : i = S t 0
  · rw [if_pos ⟨rfl, e⟩, if_pos e]
  · rw [if_neg (fun q => e q.2), if_neg e]
theorem nadd_2 {S : ns_T} {t u v i : Nat} : nadd S t u v (t + 2) i = if i = S t 0 then v else S (t + 2) i := by
  unfold nadd
  rw [nup_ne (by omega)]
  unfold nup
  by_cases e : i = S t 0
  · rw [if_pos ⟨rfl, e⟩, if_pos e]
  · rw [if_neg (fun q => e q.2), if_neg e, if_neg (by omega)]
def nclr (S : ns_T) (t : Nat) : ns_T := nup S t 0 0
theorem nclr_e {S : ns_T} {t t' k : Nat} (h : t' ≠ t) : nclr S t t' k = S t' k := nup_ne (by omega)
theorem nclr_0 {S : ns_T} {t : Nat} : nclr S t t 0 = 0 := nup_same
theorem PG.clr {σ : ex_S} {b : Nat} {S : ns_T} {t : Nat} : PG (sup σ b 2 0) b (nclr S t) t := by
  unfold PG
  rw [nclr_0]
  exact ⟨sup_same, fun i hi => absurd hi (by omega)⟩
theorem PH.clr {σ : ex_S} {f c : Nat} {S : ns_T} {t : Nat} : PH (sup σ 127 f 0) f c (nclr S t) t := by
  unfold PH
  rw [nclr_0]
  exact ⟨sup_same, fun i hi => absurd hi (by omega)⟩
theorem PG.add {σ : ex_S} {b : Nat} {S : ns_T} {t u v : Nat} (h : PG σ b S t) : PG (sup (sup (sup σ (b + 1) (S t 0) (nI u)) (b + 2) (S t 0) (nI v)) b 2 (nI (S t 0 + 1))) b (nadd S t u v) t := by
  unfold PG
  rw [nadd_0]
  refine ⟨sup_same, fun i hi => ?_⟩
  rw [nadd_1, nadd_2]
  by_cases e : i = S t 0
  · rw [if_pos e, if_pos e, e]
    refine ⟨?_, ?_⟩
    · rw [sup_obj (by omega), sup_obj (by omega), sup_same]
    · rw [sup_obj (by omega), sup_same]
  · rw [if_neg e, if_neg e]
    obtain ⟨g1, g2⟩ := h.2 i (by omega)
    refine ⟨?_, ?_⟩
    · rw [sup_obj (by omega), sup_obj (by omega), sup_idx e]
      exact g1
    · rw [sup_obj (by omega), sup_idx e, sup_obj (by omega)]
      exact g2
theorem PH.add {σ : ex_S} {f c : Nat} (hc : 127 < c) {S : ns_T} {t u v : Nat} (h : PH σ f c S t) : PH (sup (sup (sup σ c (S t 0) (nI u)) 127 f (nI (S t 0 + 1))) (c + 1) (S t 0) (nI v)) f c (nadd S t u v) t := by
  unfold PH
  rw [nadd_0]
  refine ⟨by rw [sup_obj (by omega), sup_same], fun i hi => ?_⟩
  rw [nadd_1, nadd_2]
  by_cases e : i = S t 0
  · rw [if_pos e, if_pos e, e]
    refine ⟨?_, ?_⟩
    · rw [sup_obj (by omega), sup_obj (by omega), sup_same]
    · rw [sup_same]
  · rw [if_neg e, if_neg e]
    obtain ⟨g1, g2⟩ := h.2 i (by omega)
    refine ⟨?_, ?_⟩
    · rw [sup_obj (by omega), sup_obj (by omega), sup_idx e]
      exact g1
    · rw [sup_idx e, sup_obj (by omega), sup_obj (by omega)]
      exact g2
theorem PG.to {σ σ' : ex_S} {b : Nat} {S : ns_T} {t : Nat} (h : PG σ b S t) (h1 : ∀ i, b ≤ i → i ≤ b + 2 → σ' i = σ i) : PG σ' b S t := by
  unfold PG
  rw [h1 b (by omega) (by omega), h1 (b + 1) (by omega) (by omega), h1 (b + 2) (by omega) (by omega)]
  exact h
theorem PH.to {σ σ' : ex_S} {f c : Nat} {S : ns_T} {t : Nat} (h : PH σ f c S t) (h1 : σ' 127 f = σ 127 f) (h2 : σ' c = σ c) (h3 : σ' (c + 1) = σ (c + 1)) : PH σ' f c S t := by
  unfold PH
  rw [h1, h2, h3]
  exact h
theorem PG.eqv {σ : ex_S} {b : Nat} {S S' : ns_T} {t : Nat} (h : PG σ b S t) (e : ∀ t' k, t ≤ t' → t' ≤ t + 2 → S' t' k = S t' k) : PG σ b S' t := by
  unfold PG
  rw [e t 0 (by omega) (by omega)]
  exact ⟨h.1, fun i hi => by rw [e _ _ (by omega) (by omega), e _ _ (by omega) (by omega)]; exact h.2 i hi⟩
theorem PH.eqv {σ : ex_S} {f c : Nat} {S S' : ns_T} {t : Nat} (h : PH σ f c S t) (e : ∀ t' k, t ≤ t' → t' ≤ t + 2 → S' t' k = S t' k) : PH σ f c S' t := by
  unfold PH
  rw [e t 0 (by omega) (by omega)]
  exact ⟨h.1, fun i hi => by rw [e _ _ (by omega) (by omega), e _ _ (by omega) (by omega)]; exact h.2 i hi⟩
noncomputable def ntell (N t : Nat) (S : ns_T) (x v : Int32) : out_T := cif (x = -1) (0, nclr S t) (cif (0 ≤ x ∧ x < nI (S 0 0)) (cif (0 ≤ v ∧ v ≤ 15) (cif (S t 0 < N)
  (nI (S t 0 + 1), nadd S t x.toNatClampNeg v.toNatClampNeg) (-4, S)) (-2, S)) (-1, S))
noncomputable def nplan (S : ns_T) (w x : Int32) : out_T := cif (w = -1) (0, nclr S 13) (cif ((0 ≤ w ∧ w ≤ 2) ∧ 0 ≤ x ∧ x < nI (S 0 0)) (cif (S 13 0 < 10)
  (nI (S 13 0 + 1), nadd S 13 w.toNatClampNeg x.toNatClampNeg) (-4, S)) (-1, S))
theorem ni_m1 {k : Nat} (h : k < 2 ^ 31) : ¬ nI k = -1 := fun q => by
  have h1 := i_toInt h
  rw [q] at h1
  have : (-1 : Int32).toInt = -1 := by decide
  omega
