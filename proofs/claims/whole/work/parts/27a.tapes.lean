/-! TAPES: sorts, sizes, items -/
abbrev tp_T : Type := (Nat → Int32) × (Nat → Nat) × (Nat → Nat → Int64)
def TPC (σ : ex_S) (μ : ex_L) (t : tp_T) : Prop := ∀ k, k < 6 → σ 118 k = t.1 k ∧ σ 119 k = nI (t.2.1 k) ∧ ∀ i, i < 60 → μ (121 + k) i = t.2.2 k i
def TPR (σ : ex_S) (μ : ex_L) (t : tp_T) : Prop := ∀ k, k < 6 → σ 151 k = t.1 k ∧ σ 152 k = nI (t.2.1 k) ∧ ∀ i, i < 60 → μ 153 (60 * k + i) = t.2.2 k i
def TPV (t : tp_T) : Prop := ∀ k, k < 6 → t.2.1 k ≤ 60 ∧ ((t.1 k = -1 ∧ t.2.1 k = 0) ∨ ∃ s, s ≤ 4 ∧ t.1 k = nI s)
def ntm (t : tp_T) (k : Nat) (s : Int32) (n : Nat) : tp_T := (fun j => if j = k then s else t.1 j, fun j => if j = k then n else t.2.1 j, fun j i => if j = k then 0 else t.2.2 j i)
def nts (t : tp_T) (k i : Nat) (v : Int64) : tp_T := (t.1, t.2.1, fun j q => if j = k ∧ q = i then v else t.2.2 j q)
def ntc (t : tp_T) (x i y j n : Nat) : tp_T := (t.1, t.2.1, fun k q => if k = y ∧ j ≤ q ∧ q < j + n then t.2.2 x (i + (q - j)) else t.2.2 k q)
theorem TPV.tm {t : tp_T} (h : TPV t) {k n : Nat} {s : Int32} (hn : n ≤ 60) (hs : (s = -1 ∧ n = 0) ∨ ∃ u, u ≤ 4 ∧ s = nI u) : TPV (ntm t k s n) := fun j hj => by
  show (if j = k then n else t.2.1 j) ≤ 60 ∧ (((if j = k then s else t.1 j) = -1 ∧ (if j = k then n else t.2.1 j) = 0) ∨ ∃ u, u ≤ 4 ∧ (if j = k then s else t.1 j) = nI u)
  by_cases e : j = k
  · rw [if_pos e, if_pos e]
    exact ⟨hn, hs⟩
  · rw [if_neg e, if_neg e]
    exact h j hj
theorem TPV.ts {t : tp_T} (h : TPV t) {k i : Nat} {v : Int64} : TPV (nts t k i v) := h
theorem TPV.tc {t : tp_T} (h : TPV t) {x i y j n : Nat} : TPV (ntc t x i y j n) := h
def lup (μ : ex_L) (i k : Nat) (v : Int64) : ex_L := lrow μ i (vp_updL (μ i) k v)
theorem lup_same {μ : ex_L} {i k : Nat} {v : Int64} : lup μ i k v i k = v := by
  show (if i = i then vp_updL (μ i) k v else μ i) k = v
  rw [if_pos rfl]
  exact if_pos rfl
theorem lup_idx {μ : ex_L} {i k m : Nat} {v : Int64} (h : m ≠ k) : lup μ i k v i m = μ i m := by
  show (if i = i then vp_updL (μ i) k v else μ i) m = _
  rw [if_pos rfl]
  exact if_neg h
theorem lup_obj {μ : ex_L} {i k j : Nat} {v : Int64} (h : j ≠ i) : lup μ i k v j = μ j := if_neg h
theorem tape_row {k : Nat} (h : k < 6) : TT[121 + k]? = some (.inr (2, 60, [])) := by
  have e : k = 0 ∨ k = 1 ∨ k = 2 ∨ k = 3 ∨ k = 4 ∨ k = 5 := by omega
  rcases e with rfl | rfl | rfl | rfl | rfl | rfl
  · exact tt_121
  · exact tt_122
  · exact tt_123
  · exact tt_124
  · exact tt_125
  · exact tt_126
theorem tape_at {k : Nat} (h : k < 6) : ([some 121, some 122, some 123, some 124, some 125, some 126] : List (Option Nat))[k]? = some (some (121 + k)) := by
  have e : k = 0 ∨ k = 1 ∨ k = 2 ∨ k = 3 ∨ k = 4 ∨ k = 5 := by omega
  rcases e with rfl | rfl | rfl | rfl | rfl | rfl <;> rfl
theorem sub_toInt {z b : Nat} (hz : z < 2 ^ 31) (hb : b < 2 ^ 31) : (nI z - nI b).toInt = (z : Int) - b := by
  rw [Int32.toInt_sub, i_toInt hz, i_toInt hb]
  exact Int.bmod_eq_of_le (by omega) (by omega)
theorem lcmpN {u v : Nat} (hu : u < 2 ^ 63) (hv : v < 2 ^ 63) : lg_cmp (lN u) (lN v) = if v < u then 1 else if u = v then 0 else -1 := by
  unfold lg_cmp
  by_cases h : v < u
  · rw [if_pos ((pk_lLT hv hu).mpr h), if_pos h]
  · rw [if_neg (fun q => h ((pk_lLT hv hu).mp q)), if_neg h]
    by_cases h2 : u = v
    · rw [if_pos (by rw [h2]), if_pos h2]
    · rw [if_neg (fun q => h2 ((pk_lEQ hu hv).mp q)), if_neg h2]
theorem lcmp_eq0 {x y : Int64} : lg_cmp x y = 0 ↔ x = y := by
  unfold lg_cmp
  by_cases h : x > y
  · rw [if_pos h]
    refine ⟨fun q => absurd q (by decide), fun q => ?_⟩
    rw [q] at h
    have := Int64.lt_iff_toInt_lt.mp h
    omega
  · rw [if_neg h]
    by_cases h2 : x = y
    · rw [if_pos h2]
      exact ⟨fun _ => h2, fun _ => rfl⟩
    · rw [if_neg h2]
      exact ⟨fun q => absurd q (by decide), fun q => absurd q h2⟩
theorem i_any {x : Int32} (h : 0 ≤ x) : ∃ k, k < 2 ^ 31 ∧ x = nI k := by
  obtain ⟨k, hk, e⟩ := i_of (m := 2 ^ 31 - 1) (by decide) h (by
    rw [Int32.le_iff_toInt_le, i_toInt (by decide)]
    have := Int32.toInt_lt x
    omega)
  exact ⟨k, by omega, e⟩
theorem t_m1 {t : tp_T} (h : TPV t) {k : Nat} (hk : k < 6) : t.1 k = -1 ↔ t.1 k < 0 := by
  obtain ⟨-, (⟨e, -⟩ | ⟨s, hs, e⟩)⟩ := h k hk
  · rw [e]
    exact ⟨fun _ => by decide, fun _ => rfl⟩
  · rw [e]
    exact ⟨fun q => absurd q (ni_m1 (by omega)), fun q => absurd (i_nn (show s < 2 ^ 31 by omega)) (nlt_0 q)⟩
def ncut (s : Int32) (v : Int64) : Int64 := if s = 0 then v.toInt32.toInt8.toInt32.toInt64 else if s = 1 then v.toInt32.toInt16.toInt32.toInt64 else if s = 2 then v.toInt32.toInt64 else if s = 3 then v else (if v = 0 then 0 else 1)
abbrev tpo_T : Type := Int32 × tp_T
noncomputable def ntape (t : tp_T) (x s n : Int32) : tpo_T := cif (0 ≤ x ∧ x ≤ 5) (cif (s = -1) (1, ntm t x.toNatClampNeg (-1) 0) (cif ((0 ≤ s ∧ s ≤ 4) ∧ n ≤ 60) (cif (0 ≤ n) (1, ntm t x.toNatClampNeg s n.toNatClampNeg) (-14, t)) (-2, t))) (-1, t)
noncomputable def nitem (t : tp_T) (x i : Int32) (v : Int64) : tpo_T := cif (0 ≤ x ∧ x ≤ 5) (cif (t.1 x.toNatClampNeg = -1) (-11, t) (cif (0 ≤ i ∧ i < nI (t.2.1 x.toNatClampNeg)) (1, nts t x.toNatClampNeg i.toNatClampNeg (ncut (t.1 x.toNatClampNeg) v)) (-13, t))) (-1, t)
noncomputable def nread (t : tp_T) (x i : Int32) : Int64 := cif ((0 ≤ x ∧ x ≤ 5) ∧ 0 ≤ i ∧ i < nI (t.2.1 x.toNatClampNeg)) (t.2.2 x.toNatClampNeg i.toNatClampNeg) (-9223372036854775808)
def Run (i n : Int32) (z : Nat) : Prop := 0 ≤ n ∧ 0 ≤ i ∧ i.toInt + n.toInt ≤ z
noncomputable def nshift (t : tp_T) (x i y j n : Int32) : tpo_T := cif ((0 ≤ x ∧ x ≤ 5) ∧ 0 ≤ y ∧ y ≤ 5) (cif (t.1 x.toNatClampNeg = -1 ∨ t.1 y.toNatClampNeg = -1) (-11, t) (cif (t.1 x.toNatClampNeg = t.1 y.toNatClampNeg)
  (cif (Run i n (t.2.1 x.toNatClampNeg) ∧ Run j n (t.2.1 y.toNatClampNeg)) (n, ntc t x.toNatClampNeg i.toNatClampNeg y.toNatClampNeg j.toNatClampNeg n.toNatClampNeg) (-13, t)) (-12, t))) (-1, t)
theorem Run.nat {i n : Int32} {z : Nat} (h : Run i n z) (hz : z ≤ 60) : ∃ a b, i = nI a ∧ n = nI b ∧ a + b ≤ z := by
  obtain ⟨h1, h2, h3⟩ := h
  obtain ⟨a, ha, rfl⟩ := i_any h2
  obtain ⟨b, hb, rfl⟩ := i_any h1
  rw [i_toInt ha, i_toInt hb] at h3
  exact ⟨a, b, rfl, rfl, by omega⟩
theorem run_i {i n : Int32} {z : Nat} (hz : z ≤ 60) (h1 : 0 ≤ n) (h2 : 0 ≤ i) : (i ≤ nI z - n) ↔ Run i n z := by
  obtain ⟨b, hb, rfl⟩ := i_any h1
  rw [Int32.le_iff_toInt_le, sub_toInt (by omega) hb]
  unfold Run
  rw [i_toInt hb]
  constructor
  · intro h
    exact ⟨h1, h2, by omega⟩
  · rintro ⟨_, _, h⟩
    omega
theorem TPC.to {σ σ' : ex_S} {μ μ' : ex_L} {t : tp_T} (h : TPC σ μ t) (h1 : σ' 118 = σ 118) (h2 : σ' 119 = σ 119) (h3 : ∀ i, 121 ≤ i → i ≤ 126 → μ' i = μ i) : TPC σ' μ' t := fun k hk => by
  rw [h1, h2, h3 (121 + k) (by omega) (by omega)]
  exact h k hk
theorem TPR.to {σ σ' : ex_S} {μ μ' : ex_L} {t : tp_T} (h : TPR σ μ t) (h1 : σ' 151 = σ 151) (h2 : σ' 152 = σ 152) (h3 : μ' 153 = μ 153) : TPR σ' μ' t := fun k hk => by
  rw [h1, h2, h3]
  exact h k hk
