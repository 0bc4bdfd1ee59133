/-! new nodes -/
def nnew (S : ns_T) (k v w f : Nat) : ns_T := fun t i =>
  if t = 0 then (if i = 0 then S 0 0 + 1 else S 0 i) else
  if i = S 0 0 ∧ t ≤ 5 then (if t = 1 then k else if t = 2 then v else if t = 3 then w else if t = 4 then 0 else f) else
  if t = 20 + S 0 0 then 0 else S t i
def nnd (S : ns_T) (k v : Nat) : ns_T := nup (nup (nup (nup (nnew S k v (S 0 1) (2 ^ (4 * S 0 1))) 0 1 (S 0 1 + 1)) 0 2 (S 0 2 ||| 2 ^ S 0 0)) 8 (S 0 1) (S 0 0)) 7 (S 0 1) 0
section NW
variable {S : ns_T} {k v w f : Nat}
theorem nnew_00 : nnew S k v w f 0 0 = S 0 0 + 1 := by
  unfold nnew
  rw [if_pos rfl, if_pos rfl]
theorem nnew_0 {i : Nat} (h : i ≠ 0) : nnew S k v w f 0 i = S 0 i := by
  unfold nnew
  rw [if_pos rfl, if_neg h]
theorem nnew_1 : nnew S k v w f 1 (S 0 0) = k := by
  unfold nnew
  rw [if_neg (by decide), if_pos ⟨rfl, by decide⟩, if_pos rfl]
theorem nnew_2 : nnew S k v w f 2 (S 0 0) = v := by
  unfold nnew
  rw [if_neg (by decide), if_pos ⟨rfl, by decide⟩, if_neg (by decide), if_pos rfl]
theorem nnew_3 : nnew S k v w f 3 (S 0 0) = w := by
  unfold nnew
  rw [if_neg (by decide), if_pos ⟨rfl, by decide⟩, if_neg (by decide), if_neg (by decide), if_pos rfl]
theorem nnew_4 : nnew S k v w f 4 (S 0 0) = 0 := by
  unfold nnew
  rw [if_neg (by decide), if_pos ⟨rfl, by decide⟩, if_neg (by decide), if_neg (by decide), if_neg (by decide), if_pos rfl]
theorem nnew_5 : nnew S k v w f 5 (S 0 0) = f := by
  unfold nnew
  rw [if_neg (by decide), if_pos ⟨rfl, by decide⟩, if_neg (by decide), if_neg (by decide), if_neg (by decide), if_neg (by decide)]
theorem nnew_r {q : Nat} : nnew S k v w f (20 + S 0 0) q = 0 := by
  unfold nnew
  rw [if_neg (by omega), if_neg (by omega), if_pos rfl]
theorem nnew_e {t i : Nat} (h0 : t ≠ 0) (h : i ≠ S 0 0 ∨ 5 < t) (h2 : t ≠ 20 + S 0 0) : nnew S k v w f t i = S t i := by
  unfold nnew
  rw [if_neg h0, if_neg (by omega), if_neg h2]
theorem or_new {a n j : Nat} (ha : a < 2 ^ n) : (a ||| 2 ^ n).testBit j = if j = n then true else a.testBit j := by
  rw [Nat.testBit_or, Nat.testBit_two_pow]
  by_cases e : j = n
  · rw [e, if_pos rfl, decide_eq_true rfl, Bool.or_true]
  · rw [if_neg e, decide_eq_false (fun q => e q.symm), Bool.or_false]
theorem tb_ge {a n : Nat} (ha : a < 2 ^ n) : a.testBit n = false := Nat.testBit_lt_two_pow ha
theorem lt_2s {a n : Nat} (ha : a < 2 ^ n) : a < 2 ^ (n + 1) := Nat.lt_of_lt_of_le ha (Nat.pow_le_pow_right (by decide) (by omega))
theorem wI_lt {w : Nat} (h : w < 9) : wI w = nI w := by
  unfold wI
  rw [if_neg (by omega)]
theorem VS.par (hV : VS S) (hn : S 0 0 < S 0 1 + 5) (hk : k < 7) (hv : v ≤ 9) (hf : f < 2 ^ 20) : VS (nnew S k v 9 f) := by
  obtain ⟨v1, v2, v3, v4, v5, v6, v7, v8⟩ := id hV
  unfold VS
  rw [nnew_00, nnew_0 (by decide), nnew_0 (by decide), nnew_0 (by decide)]
  refine ⟨by omega, v2, by omega, by omega, lt_2s v5, lt_2s v6, fun j hj => ?_, fun e he => ?_⟩
  · by_cases ej : j = S 0 0
    · subst ej
      rw [nnew_1, nnew_2, nnew_3, nnew_4, nnew_5]
      refine ⟨hk, hv, by omega, hf, fun q hq => by rw [nnew_r]; omega, Or.inr rfl, ?_, fun z => by omega⟩
      rw [tb_ge v5]
      rfl
    · rw [nnew_e (by decide) (Or.inl ej) (by omega), nnew_e (by decide) (Or.inl ej) (by omega), nnew_e (by decide) (Or.inl ej) (by omega), nnew_e (by decide) (Or.inl ej) (by omega), nnew_e (by decide) (Or.inl ej) (by omega)]
      obtain ⟨u1, u2, u3, u4, u5, u6, u7, u8⟩ := v7 j (by omega)
      exact ⟨u1, u2, u3, u4, fun q hq => by rw [nnew_e (by omega) (Or.inr (by omega)) (by omega)]; exact u5 q hq, u6, u7, fun z => by rw [nnew_e (by decide) (Or.inr (by decide)) (by omega)]; exact u8 z⟩
  · obtain ⟨u1, u2, u3, u4⟩ := v8 e he
    rw [nnew_e (t := 8) (by decide) (Or.inr (by decide)) (by omega), nnew_e (t := 7) (by decide) (Or.inr (by decide)) (by omega), nnew_e (t := 3) (by decide) (Or.inl (by omega)) (by omega), nnew_e (t := 5) (by decide) (Or.inl (by omega)) (by omega)]
    exact ⟨by omega, u2, u3, u4⟩
theorem nnd_e {t i : Nat} (h : t ≠ 0) (h7 : t ≠ 7) (h8 : t ≠ 8) : nnd S k v t i = nnew S k v (S 0 1) (2 ^ (4 * S 0 1)) t i := by
  unfold nnd
  rw [nup_ne (by omega), nup_ne (by omega), nup_ne (by omega), nup_ne (by omega)]
theorem nnd_00 : nnd S k v 0 0 = S 0 0 + 1 := by
  unfold nnd
  rw [nup_ne (by omega), nup_ne (by omega), nup_ne (by omega), nup_ne (by omega), nnew_00]
theorem nnd_01 : nnd S k v 0 1 = S 0 1 + 1 := by
  unfold nnd
  rw [nup_ne (by omega), nup_ne (by omega), nup_ne (by omega), nup_same]
theorem nnd_02 : nnd S k v 0 2 = S 0 2 ||| 2 ^ S 0 0 := by
  unfold nnd
  rw [nup_ne (by omega), nup_ne (by omega), nup_same]
theorem nnd_03 : nnd S k v 0 3 = S 0 3 := by
  unfold nnd
  rw [nup_ne (by omega), nup_ne (by omega), nup_ne (by omega), nup_ne (by omega), nnew_0 (by decide)]
theorem nnd_8 {i : Nat} (hn : S 0 0 ≤ 10) : nnd S k v 8 i = if i = S 0 1 then S 0 0 else S 8 i := by
  unfold nnd
  by_cases e : i = S 0 1
  · rw [nup_ne (by omega), e, nup_same, if_pos rfl]
  · rw [nup_ne (by omega), nup_ne (by omega), nup_ne (by omega), nup_ne (by omega), nnew_e (by decide) (Or.inr (by decide)) (by omega), if_neg e]
theorem nnd_7 {i : Nat} (hn : S 0 0 ≤ 10) : nnd S k v 7 i = if i = S 0 1 then 0 else S 7 i := by
  unfold nnd
  by_cases e : i = S 0 1
  · rw [e, nup_same, if_pos rfl]
  · rw [nup_ne (by omega), nup_ne (by omega), nup_ne (by omega), nup_ne (by omega), nnew_e (by decide) (Or.inr (by decide)) (by omega), if_neg e]
theorem VS.dat (hV : VS S) (hd : S 0 1 < 5) (hk : k < 7) (hv : v ≤ 9) : VS (nnd S k v) := by
  obtain ⟨v1, v2, v3, v4, v5, v6, v7, v8⟩ := id hV
  unfold VS
  rw [nnd_00, nnd_01, nnd_02, nnd_03]
  refine ⟨by omega, by omega, by omega, by omega, Nat.or_lt_two_pow (lt_2s v5) (Nat.pow_lt_pow_right (by decide) (by omega)), lt_2s v6, fun j hj => ?_, fun e he => ?_⟩
  · rw [nnd_e (t := 1) (by decide) (by decide) (by decide), nnd_e (t := 2) (by decide) (by decide) (by decide), nnd_e (t := 3) (by decide) (by decide) (by decide), nnd_e (t := 4) (by decide) (by decide) (by decide), nnd_e (t := 5) (by decide) (by decide) (by decide), or_new v5]
    by_cases ej : j = S 0 0
    · subst ej
      rw [nnew_1, nnew_2, nnew_3, nnew_4, nnew_5, if_pos rfl]
      refine ⟨hk, hv, by omega, Nat.pow_lt_pow_right (by decide) (by omega), fun q hq => by rw [nnd_e (by omega) (by omega) (by omega), nnew_r]; omega, Or.inl (by omega), (decide_eq_true (by omega)).symm, fun z => ?_⟩
      rw [nnd_8 v1, if_pos rfl]
    · rw [nnew_e (by decide) (Or.inl ej) (by omega), nnew_e (by decide) (Or.inl ej) (by omega), nnew_e (by decide) (Or.inl ej) (by omega), nnew_e (by decide) (Or.inl ej) (by omega), nnew_e (by decide) (Or.inl ej) (by omega), if_neg ej]
      obtain ⟨u1, u2, u3, u4, u5, u6, u7, u8⟩ := v7 j (by omega)
      refine ⟨u1, u2, u3, u4, fun q hq => by rw [nnd_e (by omega) (by omega) (by omega), nnew_e (by omega) (Or.inr (by omega)) (by omega)]; exact u5 q hq, by omega, u7, fun z => ?_⟩
      by_cases e9 : S 3 j = S 0 1
      · omega
      · rw [nnd_8 v1, if_neg e9]
        exact u8 (by omega)
  · rw [nnd_8 v1, nnd_7 v1]
    by_cases e1 : e = S 0 1
    · subst e1
      rw [if_pos rfl, if_pos rfl, nnd_e (by decide) (by decide) (by decide), nnd_e (by decide) (by decide) (by decide), nnew_3, nnew_5]
      exact ⟨by omega, rfl, by decide, rfl⟩
    · rw [if_neg e1, if_neg e1]
      obtain ⟨u1, u2, u3, u4⟩ := v8 e (by omega)
      rw [nnd_e (by decide) (by decide) (by decide), nnd_e (by decide) (by decide) (by decide), nnew_e (by decide) (Or.inl (by omega)) (by omega), nnew_e (by decide) (Or.inl (by omega)) (by omega)]
      exact ⟨by omega, u2, u3, u4⟩
/-- one place of a row became x -/
def Up1 (σ σ' : ex_S) (o n : Nat) (x : Int32) : Prop := σ' o n = x ∧ ∀ j, j ≠ n → σ' o j = σ o j
theorem NC.new {σ σ' : ex_S} {b : Nat} (hn : S 0 0 < 10) (hC : NC σ b S) (e0 : Up1 σ σ' b 0 (nI (S 0 0 + 1))) (e1 : Up1 σ σ' (b + 1) (S 0 0) (nI k)) (e2 : Up1 σ σ' (b + 2) (S 0 0) (nI v)) (e3 : Up1 σ σ' (b + 3) (S 0 0) (wI w)) (e4 : Up1 σ σ' (b + 4) (S 0 0) (nI f)) (e5 : Up1 σ σ' (b + 5) (S 0 0) 0)
    (e6 : ∀ j, j ≠ S 0 0 → j < 10 → σ' (b + 7 + j) = σ (b + 7 + j)) (e7 : ∀ q, q < 4 → σ' (b + 7 + S 0 0) q = 0) (e8 : σ' (b + 17) = σ (b + 17)) (e9 : σ' (b + 18) = σ (b + 18)) : NC σ' b (nnew S k v w f) := by
  obtain ⟨n1, n2, n3, n4, n5, n6⟩ := hC
  unfold NC
  rw [nnew_00, nnew_0 (by decide), nnew_0 (by decide), nnew_0 (by decide)]
  refine ⟨e0.1, by rw [e0.2 1 (by decide)]; exact n2, by rw [e0.2 2 (by decide)]; exact n3, by rw [e0.2 3 (by decide)]; exact n4, fun j hj => ?_, fun e he => ?_⟩
  · by_cases ej : j = S 0 0
    · subst ej
      rw [nnew_1, nnew_2, nnew_3, nnew_4, nnew_5]
      exact ⟨e1.1, e2.1, e3.1, e4.1, e5.1, fun q hq => by rw [nnew_r]; exact e7 q hq⟩
    · rw [nnew_e (by decide) (Or.inl ej) (by omega), nnew_e (by decide) (Or.inl ej) (by omega), nnew_e (by decide) (Or.inl ej) (by omega), nnew_e (by decide) (Or.inl ej) (by omega), nnew_e (by decide) (Or.inl ej) (by omega), e1.2 j ej, e2.2 j ej, e3.2 j ej, e4.2 j ej, e5.2 j ej, e6 j ej (by omega)]
      obtain ⟨a1, a2, a3, a4, a5, a6⟩ := n5 j (by omega)
      exact ⟨a1, a2, a3, a4, a5, fun q hq => by rw [nnew_e (by omega) (Or.inr (by omega)) (by omega)]; exact a6 q hq⟩
  · rw [nnew_e (by decide) (Or.inr (by decide)) (by omega), nnew_e (by decide) (Or.inr (by decide)) (by omega), e8, e9]
    exact n6 e he
theorem NC.dat {σ σ' : ex_S} {b : Nat} (hn : S 0 0 < 10) (hC : NC σ b (nnew S k v (S 0 1) (2 ^ (4 * S 0 1)))) (e0 : σ' b 0 = σ b 0) (e1 : σ' b 1 = nI (S 0 1 + 1)) (e2 : σ' b 2 = nI (S 0 2 ||| 2 ^ S 0 0)) (e3 : σ' b 3 = σ b 3)
    (e4 : ∀ i, b < i → i < b + 17 → σ' i = σ i) (e5 : Up1 σ σ' (b + 17) (S 0 1) (nI (S 0 0))) (e6 : Up1 σ σ' (b + 18) (S 0 1) 0) : NC σ' b (nnd S k v) := by
  obtain ⟨n1, n2, n3, n4, n5, n6⟩ := hC
  rw [nnew_00] at n1
  rw [nnew_0 (by decide)] at n4
  unfold NC
  rw [nnd_00, nnd_01, nnd_02, nnd_03, e0, e3]
  refine ⟨n1, e1, e2, n4, fun j hj => ?_, fun e he => ?_⟩
  · rw [nnew_00] at n5
    rw [nnd_e (t := 1) (by decide) (by decide) (by decide), nnd_e (t := 2) (by decide) (by decide) (by decide), nnd_e (t := 3) (by decide) (by decide) (by decide), nnd_e (t := 4) (by decide) (by decide) (by decide), nnd_e (t := 5) (by decide) (by decide) (by decide), e4 (b + 1) (by omega) (by omega), e4 (b + 2) (by omega) (by omega), e4 (b + 3) (by omega) (by omega), e4 (b + 4) (by omega) (by omega), e4 (b + 5) (by omega) (by omega), e4 (b + 7 + j) (by omega) (by omega)]
    obtain ⟨a1, a2, a3, a4, a5, a6⟩ := n5 j hj
    exact ⟨a1, a2, a3, a4, a5, fun q hq => by rw [nnd_e (by omega) (by omega) (by omega)]; exact a6 q hq⟩
  · rw [nnd_8 (by omega), nnd_7 (by omega)]
    by_cases ee : e = S 0 1
    · subst ee
      rw [if_pos rfl, if_pos rfl]
      exact ⟨e5.1, e6.1⟩
    · rw [if_neg ee, if_neg ee, e5.2 e ee, e6.2 e ee]
      have h := n6 e (by rw [nnew_0 (by decide)]; omega)
      rw [nnew_e (by decide) (Or.inr (by decide)) (by omega), nnew_e (by decide) (Or.inr (by decide)) (by omega)] at h
      exact h
theorem NR.new {σ σ' : ex_S} (hV : VS S) (hn : S 0 0 < 10) (hR : NR σ S) (e0 : σ' 127 5 = nI (S 0 0 + 1)) (e01 : σ' 127 6 = σ 127 6) (e02 : σ' 127 7 = nI (S 0 0 + 1 - S 0 1)) (e1 : Up1 σ σ' 131 (S 0 0) (nI k)) (e2 : Up1 σ σ' 132 (S 0 0) (nI v)) (e3 : Up1 σ σ' 133 (S 0 0) (wI w)) (e4 : Up1 σ σ' 134 (S 0 0) 0) (e5 : Up1 σ σ' 135 (S 0 0) 0)
    (e6 : ∀ i, i < 5 * S 0 0 → σ' 136 i = σ 136 i) (e7 : ∀ c, c < 5 → σ' 136 (5 * S 0 0 + c) = nI (nib f c)) (e8 : ∀ i, i < 4 * S 0 0 → σ' 137 i = σ 137 i) (e9 : ∀ c, c < 4 → σ' 137 (4 * S 0 0 + c) = 0) (ea : σ' 138 = σ 138) (eb : σ' 139 = σ 139) : NR σ' (nnew S k v w f) := by
  obtain ⟨n1, n2, n3, n4, n5⟩ := hR
  have v6 := hV.2.2.2.2.2.1
  unfold NR
  rw [nnew_00, nnew_0 (by decide), nnew_0 (by decide)]
  refine ⟨e0, by rw [e01]; exact n2, e02, fun j hj => ?_, fun e he => ?_⟩
  · by_cases ej : j = S 0 0
    · subst ej
      rw [nnew_1, nnew_2, nnew_3, nnew_4, nnew_5, tb_ge v6]
      exact ⟨e1.1, e2.1, e3.1, e4.1, e5.1, e7, fun q hq => by rw [nnew_r]; exact e9 q hq⟩
    · rw [nnew_e (by decide) (Or.inl ej) (by omega), nnew_e (by decide) (Or.inl ej) (by omega), nnew_e (by decide) (Or.inl ej) (by omega), nnew_e (by decide) (Or.inl ej) (by omega), nnew_e (by decide) (Or.inl ej) (by omega), e1.2 j ej, e2.2 j ej, e3.2 j ej, e4.2 j ej, e5.2 j ej]
      obtain ⟨a1, a2, a3, a4, a5, a6, a7⟩ := n4 j (by omega)
      exact ⟨a1, a2, a3, a4, a5, fun c hc => by rw [e6 _ (by omega)]; exact a6 c hc, fun q hq => by rw [nnew_e (by omega) (Or.inr (by omega)) (by omega), e8 _ (by omega)]; exact a7 q hq⟩
  · rw [nnew_e (by decide) (Or.inr (by decide)) (by omega), nnew_e (by decide) (Or.inr (by decide)) (by omega), ea, eb]
    exact n5 e he
theorem NR.dat {σ σ' : ex_S} (hV : VS S) (hn : S 0 0 < 10) (hR : NR σ S) (e0 : σ' 127 5 = nI (S 0 0 + 1)) (e01 : σ' 127 6 = nI (S 0 1 + 1)) (e02 : σ' 127 7 = σ 127 7) (e1 : Up1 σ σ' 131 (S 0 0) (nI k)) (e2 : Up1 σ σ' 132 (S 0 0) (nI v)) (e3 : Up1 σ σ' 133 (S 0 0) (nI (S 0 1))) (e4 : Up1 σ σ' 134 (S 0 0) 0) (e5 : Up1 σ σ' 135 (S 0 0) 0)
    (e6 : ∀ i, i < 5 * S 0 0 → σ' 136 i = σ 136 i) (e7 : ∀ c, c < 5 → σ' 136 (5 * S 0 0 + c) = nI (nib (2 ^ (4 * S 0 1)) c)) (e8 : ∀ i, i < 4 * S 0 0 → σ' 137 i = σ 137 i) (e9 : ∀ c, c < 4 → σ' 137 (4 * S 0 0 + c) = 0) (ea : Up1 σ σ' 138 (S 0 1) 0) (eb : Up1 σ σ' 139 (S 0 1) (nI (S 0 0))) : NR σ' (nnd S k v) := by
  obtain ⟨n1, n2, n3, n4, n5⟩ := hR
  have v6 := hV.2.2.2.2.2.1
  have v1 := hV.1
  have v2 := hV.2.1
  have v3 := hV.2.2.1
  unfold NR
  rw [nnd_00, nnd_01, nnd_03]
  refine ⟨e0, e01, by rw [e02, n3]; congr 1; omega, fun j hj => ?_, fun e he => ?_⟩
  · rw [nnd_e (t := 1) (by decide) (by decide) (by decide), nnd_e (t := 2) (by decide) (by decide) (by decide), nnd_e (t := 3) (by decide) (by decide) (by decide), nnd_e (t := 4) (by decide) (by decide) (by decide), nnd_e (t := 5) (by decide) (by decide) (by decide)]
    by_cases ej : j = S 0 0
    · subst ej
      rw [nnew_1, nnew_2, nnew_3, nnew_4, nnew_5, tb_ge v6]
      exact ⟨e1.1, e2.1, by rw [wI_lt (by omega)]; exact e3.1, e4.1, e5.1, e7, fun q hq => by rw [nnd_e (by omega) (by omega) (by omega), nnew_r]; exact e9 q hq⟩
    · rw [nnew_e (by decide) (Or.inl ej) (by omega), nnew_e (by decide) (Or.inl ej) (by omega), nnew_e (by decide) (Or.inl ej) (by omega), nnew_e (by decide) (Or.inl ej) (by omega), nnew_e (by decide) (Or.inl ej) (by omega), e1.2 j ej, e2.2 j ej, e3.2 j ej, e4.2 j ej, e5.2 j ej]
      obtain ⟨a1, a2, a3, a4, a5, a6, a7⟩ := n4 j (by omega)
      exact ⟨a1, a2, a3, a4, a5, fun c hc => by rw [e6 _ (by omega)]; exact a6 c hc, fun q hq => by rw [nnd_e (by omega) (by omega) (by omega), nnew_e (by omega) (Or.inr (by omega)) (by omega), e8 _ (by omega)]; exact a7 q hq⟩
  · rw [nnd_8 v1, nnd_7 v1]
    by_cases ee : e = S 0 1
    · subst ee
      rw [if_pos rfl, if_pos rfl]
      exact ⟨ea.1, eb.1⟩
    · rw [if_neg ee, if_neg ee, ea.2 e ee, eb.2 e ee]
      exact n5 e (by omega)
end NW

set_option maxRecDepth 100000 in
theorem c3_add {b : Nat} (hN : NodesAt b) {S : ns_T} {k v w f : Nat} (hn : S 0 0 < 10) {σ : ex_S} {μ : ex_L}(hC : NC σ b S) : Ci 2 yX3_add cX3_add 7 (some .int) [.ref b, .int (nI k), .int (nI v), .int (wI w), .int (nI f)] TT σ μ (fun z' σ' μ' => z' = nI (S 0 0) ∧ NC σ' b (nnew S k v w f) ∧ (∀ i, (i < b ∨ b + 17 ≤ i) → σ' i = σ i) ∧ μ' = μ) := by
  refine Cl_of (by decide +kernel) (Nat.le_of_ble_eq_true rfl) ?_
  show Ev RX3 cX3_add 7 2 0 0 "add" (some .int) ev_ext _ _ 0 0 0 [(0, .ref b), (1, .int (nI k)), (2, .int (nI v)), (3, .int (wI w)), (4, .int (nI f))] [] TT σ μ
  have loop : ∀ (m c : Nat) (σ1 : ex_S), c + m = 4 → Up1 σ σ1 (b + 1) (S 0 0) (nI k) → Up1 σ σ1 (b + 2) (S 0 0) (nI v) → Up1 σ σ1 (b + 3) (S 0 0) (wI w) → Up1 σ σ1 (b + 4) (S 0 0) (nI f) → Up1 σ σ1 (b + 5) (S 0 0) 0 → (∀ i, (i < b + 1 ∨ b + 5 < i) → i ≠ b + 7 + S 0 0 → σ1 i = σ i) → (∀ q, q < c → σ1 (b + 7 + S 0 0) q = 0) → Ev RX3 cX3_add 7 2 0 0 "add" (some .int) ev_ext TT.length (fun v9 T9 σ9 μ9 => T9 = TT ∧ ∃ z9, v9 = some (.int z9) ∧ (fun z' σ' μ' => z' = nI (S 0 0) ∧ NC σ' b (nnew S k v w f) ∧ (∀ i, (i < b ∨ b + 17 ≤ i) → σ' i = σ i) ∧ μ' = μ) z9 σ9 μ9) 0 0 62 [(0, .ref b), (1, .int (nI k)), (2, .int (nI v)), (3, .int (wI w)), (4, .int (nI f)), (5, .int (nI (S 0 0))), (6, .int (nI c))] [] TT σ1 μ := by
    intro m
    induction m with
    | zero =>
      intro c σ1 hc e1 e2 e3 e4 e5 e6 e7
      obtain rfl : c = 4 := by omega
      refine e_iload dX3_add_62 6 rfl ?_
      refine e_iconst (v := 4) dX3_add_64 rfl ?_
      refine e_icmp_ge (t := 85) dX3_add_65 (by decide) (fun h65 => ?_) (fun h65 => ?_)
      · skip
        refine e_aload_n dX3_add_85 rfl 0 rfl ?_
        refine e_dup dX3_add_86 rfl ?_
        refine e_getI dX3_add_87 lkX3_9 (nodes_0 hN) rfl ?_
        refine e_iconst (v := 1) dX3_add_90 rfl ?_
        refine e_iadd dX3_add_91 ?_
        rw [e6 b (by omega) (by omega), hC.1, nI_1 (S 0 0)]
        refine e_putI dX3_add_92 lkX3_9' (nodes_0 hN) rfl rfl rfl ?_
        refine e_iload dX3_add_95 5 rfl ?_
        refine e_reti dX3_add_97 ev_nwi (Nat.le_refl _) (Nat.le_refl _) ?_
        exact ⟨rfl, NC.new hn hC ⟨sup_same, fun j hj => by rw [sup_idx hj, e6 b (by omega) (by omega)]⟩ ⟨by rw [sup_obj (by omega)]; exact e1.1, fun j hj => by rw [sup_obj (by omega)]; exact e1.2 j hj⟩ ⟨by rw [sup_obj (by omega)]; exact e2.1, fun j hj => by rw [sup_obj (by omega)]; exact e2.2 j hj⟩ ⟨by rw [sup_obj (by omega)]; exact e3.1, fun j hj => by rw [sup_obj (by omega)]; exact e3.2 j hj⟩ ⟨by rw [sup_obj (by omega)]; exact e4.1, fun j hj => by rw [sup_obj (by omega)]; exact e4.2 j hj⟩ ⟨by rw [sup_obj (by omega)]; exact e5.1, fun j hj => by rw [sup_obj (by omega)]; exact e5.2 j hj⟩ (fun j hj hj2 => by rw [sup_obj (by omega)]; exact e6 _ (by omega) (by omega)) (fun q hq => by rw [sup_obj (by omega)]; exact e7 q hq) (by rw [sup_obj (by omega)]; exact e6 _ (by omega) (by omega)) (by rw [sup_obj (by omega)]; exact e6 _ (by omega) (by omega)), fun i hi => by rw [sup_obj (by omega)]; exact e6 i (by omega) (by omega), rfl⟩
      · skip
        exact absurd (show nI 4 ≤ nI 4 from (i_le (by omega) (by omega)).mpr (by omega)) h65
    | succ m ih =>
      intro c σ1 hc e1 e2 e3 e4 e5 e6 e7
      refine e_iload dX3_add_62 6 rfl ?_
      refine e_iconst (v := 4) dX3_add_64 rfl ?_
      refine e_icmp_ge (t := 85) dX3_add_65 (by decide) (fun h65 => ?_) (fun h65 => ?_)
      · skip
        exact absurd ((i_le (by omega) (by omega)).mp (show nI 4 ≤ nI c from h65)) (by omega)
      · skip
        refine e_aload_n dX3_add_68 rfl 0 rfl ?_
        refine e_getR dX3_add_69 lkX3_42 (nodes_0 hN) rfl ?_
        refine e_iload dX3_add_72 5 rfl ?_
        refine e_aald dX3_add_74 (nodes_6 hN) (Or.inl rfl) (vp_in_nI (by omega) (by decide)) (by rw [i_cl (by omega)]; exact nodes_rowAt b (by omega)) ?_
        refine e_iload dX3_add_75 6 rfl ?_
        refine e_iconst (v := 0) dX3_add_77 rfl ?_
        refine e_iast dX3_add_78 (nodes_row hN hn) (vp_in_nI (by omega) (by decide)) ?_
        refine e_iinc (nI (c + 1)) [(0, .ref b), (1, .int (nI k)), (2, .int (nI v)), (3, .int (wI w)), (4, .int (nI f)), (5, .int (nI (S 0 0))), (6, .int (nI (c + 1)))] dX3_add_79 6 rfl (nI_1 c) (by decide) rfl ?_
        refine e_goto (t := 62) dX3_add_82 (by decide) ?_
        rw [i_cl (show c < 2 ^ 31 by omega)]
        refine ih (c + 1) _ (by omega) ⟨by rw [sup_obj (by omega)]; exact e1.1, fun j hj => by rw [sup_obj (by omega)]; exact e1.2 j hj⟩ ⟨by rw [sup_obj (by omega)]; exact e2.1, fun j hj => by rw [sup_obj (by omega)]; exact e2.2 j hj⟩ ⟨by rw [sup_obj (by omega)]; exact e3.1, fun j hj => by rw [sup_obj (by omega)]; exact e3.2 j hj⟩ ⟨by rw [sup_obj (by omega)]; exact e4.1, fun j hj => by rw [sup_obj (by omega)]; exact e4.2 j hj⟩ ⟨by rw [sup_obj (by omega)]; exact e5.1, fun j hj => by rw [sup_obj (by omega)]; exact e5.2 j hj⟩ (fun i h1 h2 => by rw [sup_obj h2]; exact e6 i h1 h2) (fun q hq => ?_)
        by_cases e : q = c
        · rw [e, sup_same]
        · rw [sup_idx e]
          exact e7 q (by omega)
  refine e_aload_n dX3_add_0 rfl 0 rfl ?_
  refine e_getI dX3_add_1 lkX3_9 (nodes_0 hN) rfl ?_
  refine e_bipush (v := 10) dX3_add_4 rfl ?_
  rw [hC.1]
  refine e_icmp_lt (t := 12) dX3_add_6 (by decide) (fun h6 => ?_) (fun h6 => ?_)
  · skip
    refine e_aload_n dX3_add_12 rfl 0 rfl ?_
    refine e_getI dX3_add_13 lkX3_9 (nodes_0 hN) rfl ?_
    rw [hC.1]
    refine e_istore [(0, .ref b), (1, .int (nI k)), (2, .int (nI v)), (3, .int (wI w)), (4, .int (nI f)), (5, .int (nI (S 0 0)))] dX3_add_16 (by decide) rfl ?_
    refine e_aload_n dX3_add_18 rfl 0 rfl ?_
    refine e_getR dX3_add_19 lkX3_24 (nodes_0 hN) rfl ?_
    refine e_iload dX3_add_22 5 rfl ?_
    refine e_iload_n dX3_add_24 rfl 1 rfl ?_
    refine e_iast dX3_add_25 (nodes_1 hN) (vp_in_nI (by omega) (by decide)) ?_
    refine e_aload_n dX3_add_26 rfl 0 rfl ?_
    refine e_getR dX3_add_27 lkX3_28 (nodes_0 hN) rfl ?_
    refine e_iload dX3_add_30 5 rfl ?_
    refine e_iload_n dX3_add_32 rfl 2 rfl ?_
    refine e_iast dX3_add_33 (nodes_2 hN) (vp_in_nI (by omega) (by decide)) ?_
    refine e_aload_n dX3_add_34 rfl 0 rfl ?_
    refine e_getR dX3_add_35 lkX3_31 (nodes_0 hN) rfl ?_
    refine e_iload dX3_add_38 5 rfl ?_
    refine e_iload_n dX3_add_40 rfl 3 rfl ?_
    refine e_iast dX3_add_41 (nodes_3 hN) (vp_in_nI (by omega) (by decide)) ?_
    refine e_aload_n dX3_add_42 rfl 0 rfl ?_
    refine e_getR dX3_add_43 lkX3_34 (nodes_0 hN) rfl ?_
    refine e_iload dX3_add_46 5 rfl ?_
    refine e_iload dX3_add_48 4 rfl ?_
    refine e_iast dX3_add_50 (nodes_4 hN) (vp_in_nI (by omega) (by decide)) ?_
    refine e_aload_n dX3_add_51 rfl 0 rfl ?_
    refine e_getR dX3_add_52 lkX3_37 (nodes_0 hN) rfl ?_
    refine e_iload dX3_add_55 5 rfl ?_
    refine e_iconst (v := 0) dX3_add_57 rfl ?_
    refine e_iast dX3_add_58 (nodes_5 hN) (vp_in_nI (by omega) (by decide)) ?_
    refine e_iconst (v := 0) dX3_add_59 rfl ?_
    refine e_istore [(0, .ref b), (1, .int (nI k)), (2, .int (nI v)), (3, .int (wI w)), (4, .int (nI f)), (5, .int (nI (S 0 0))), (6, .int (nI 0))] dX3_add_60 (by decide) rfl ?_
    rw [i_cl (show S 0 0 < 2 ^ 31 by omega)]
    exact loop 4 0 _ (by omega) ⟨by rw [sup_obj (by omega), sup_obj (by omega), sup_obj (by omega), sup_obj (by omega), sup_same], fun j hj => by rw [sup_obj (by omega), sup_obj (by omega), sup_obj (by omega), sup_obj (by omega), sup_idx hj]⟩ ⟨by rw [sup_obj (by omega), sup_obj (by omega), sup_obj (by omega), sup_same], fun j hj => by rw [sup_obj (by omega), sup_obj (by omega), sup_obj (by omega), sup_idx hj, sup_obj (by omega)]⟩ ⟨by rw [sup_obj (by omega), sup_obj (by omega), sup_same], fun j hj => by rw [sup_obj (by omega), sup_obj (by omega), sup_idx hj, sup_obj (by omega), sup_obj (by omega)]⟩ ⟨by rw [sup_obj (by omega), sup_same], fun j hj => by rw [sup_obj (by omega), sup_idx hj, sup_obj (by omega), sup_obj (by omega), sup_obj (by omega)]⟩ ⟨by rw [sup_same], fun j hj => by rw [sup_idx hj, sup_obj (by omega), sup_obj (by omega), sup_obj (by omega), sup_obj (by omega)]⟩ (fun i h1 h2 => by rw [sup_obj (by omega), sup_obj (by omega), sup_obj (by omega), sup_obj (by omega), sup_obj (by omega)]) (fun q hq => absurd hq (by omega))
  · skip
    exact absurd (show nI (S 0 0) < nI 10 from (i_lt (by omega) (by omega)).mpr (by omega)) h6

set_option maxRecDepth 100000 in
theorem c3_addParity {b : Nat} (hN : NodesAt b) {S : ns_T} {k v f : Nat} (hn : S 0 0 < 10) {σ : ex_S} {μ : ex_L}(hC : NC σ b S) : Ci 3 yX3_addParity cX3_addParity 4 (some .int) [.ref b, .int (nI k), .int (nI v), .int (nI f)] TT σ μ (fun z' σ' μ' => z' = nI (S 0 0) ∧ NC σ' b (nnew S k v 9 f) ∧ (∀ i, (i < b ∨ b + 17 ≤ i) → σ' i = σ i) ∧ μ' = μ) := by
  refine Cl_of (by decide +kernel) (Nat.le_of_ble_eq_true rfl) ?_
  show Ev RX3 cX3_addParity 4 3 0 0 "addParity" (some .int) ev_ext _ _ 0 0 0 [(0, .ref b), (1, .int (nI k)), (2, .int (nI v)), (3, .int (nI f))] [] TT σ μ
  refine e_aload_n dX3_addParity_0 rfl 0 rfl ?_
  refine e_iload_n dX3_addParity_1 rfl 1 rfl ?_
  refine e_iload_n dX3_addParity_2 rfl 2 rfl ?_
  refine e_bipush (v := (-5)) dX3_addParity_3 rfl ?_
  refine e_iload_n dX3_addParity_5 rfl 3 rfl ?_
  refine e_callVi dX3_addParity_6 cvX3_57 rfl (nodes_0 hN) rfl (c3_add (w := 9) hN hn hC) (Nat.le_of_ble_eq_true rfl) (Nat.le_refl _) (Nat.le_refl _) rfl (Nat.le_of_ble_eq_true rfl) (fun r6 s6 m6 q6 => ?_)
  obtain ⟨q6, a1, a2, a3⟩ := q6
  rw [a3]
  refine e_reti dX3_addParity_9 ev_nwi (Nat.le_refl _) (Nat.le_refl _) ?_
  exact ⟨q6, a1, a2, rfl⟩

set_option maxRecDepth 100000 in
theorem c3_addData {b : Nat} (hN : NodesAt b) {S : ns_T} {k v : Nat} (hV : VS S) (hd : S 0 1 < 5) {σ : ex_S} {μ : ex_L}(hC : NC σ b S) : Ci 4 yX3_addData cX3_addData 4 (some .int) [.ref b, .int (nI k), .int (nI v)] TT σ μ (fun z' σ' μ' => z' = nI (S 0 0) ∧ NC σ' b (nnd S k v) ∧ (∀ i, (i < b ∨ b + 19 ≤ i) → σ' i = σ i) ∧ μ' = μ) := by
  refine Cl_of (by decide +kernel) (Nat.le_of_ble_eq_true rfl) ?_
  show Ev RX3 cX3_addData 4 4 0 0 "addData" (some .int) ev_ext _ _ 0 0 0 [(0, .ref b), (1, .int (nI k)), (2, .int (nI v))] [] TT σ μ
  have hn : S 0 0 < 10 := by have := hV.2.2.2.1; omega
  have h02 : S 0 2 < 2 ^ 31 := Nat.lt_trans hV.2.2.2.2.1 (Nat.pow_lt_pow_right (by decide) (by omega))
  have hp : 2 ^ (4 * S 0 1) < 2 ^ 20 := Nat.pow_lt_pow_right (by decide) (by omega)
  refine e_aload_n dX3_addData_0 rfl 0 rfl ?_
  refine e_getI dX3_addData_1 lkX3_15 (nodes_0 hN) rfl ?_
  refine e_iconst (v := 5) dX3_addData_4 rfl ?_
  refine e_icmp_lt (t := 11) dX3_addData_5 (by decide) (fun h5 => ?_) (fun h5 => ?_)
  · skip
    refine e_aload_n dX3_addData_11 rfl 0 rfl ?_
    refine e_iload_n dX3_addData_12 rfl 1 rfl ?_
    refine e_iload_n dX3_addData_13 rfl 2 rfl ?_
    refine e_aload_n dX3_addData_14 rfl 0 rfl ?_
    refine e_getI dX3_addData_15 lkX3_15 (nodes_0 hN) rfl ?_
    refine e_iconst (v := 1) dX3_addData_18 rfl ?_
    refine e_iconst (v := 4) dX3_addData_19 rfl ?_
    refine e_aload_n dX3_addData_20 rfl 0 rfl ?_
    refine e_getI dX3_addData_21 lkX3_15 (nodes_0 hN) rfl ?_
    refine e_imul dX3_addData_24 ?_
    refine e_ishl dX3_addData_25 ?_
    rw [hC.2.1, show (4 : Int32) = nI 4 from rfl, i_mul, i_shl1 (by omega), ← wI_lt (show S 0 1 < 9 by omega)]
    refine e_callVi dX3_addData_26 cvX3_57 rfl (nodes_0 hN) rfl (c3_add (w := S 0 1) (f := 2 ^ (4 * S 0 1)) hN hn hC) (Nat.le_of_ble_eq_true rfl) (Nat.le_refl _) (Nat.le_refl _) rfl (Nat.le_of_ble_eq_true rfl) (fun r26 s26 m26 q26 => ?_)
    obtain ⟨q26, a1, a2, a3⟩ := q26
    rw [a3]
    have c0 := a1.1
    have c1 := a1.2.1
    have c2 := a1.2.2.1
    rw [nnew_0 (by decide)] at c1 c2
    rw [q26]
    refine e_istore_n [(0, .ref b), (1, .int (nI k)), (2, .int (nI v)), (3, .int (nI (S 0 0)))] dX3_addData_29 rfl (by decide) rfl ?_
    refine e_aload_n dX3_addData_30 rfl 0 rfl ?_
    refine e_dup dX3_addData_31 rfl ?_
    refine e_getI dX3_addData_32 lkX3_18 (nodes_0 hN) rfl ?_
    refine e_iconst (v := 1) dX3_addData_35 rfl ?_
    refine e_iload_n dX3_addData_36 rfl 3 rfl ?_
    refine e_ishl dX3_addData_37 ?_
    rw [c2, i_shl1 (by omega)]
    refine e_ior dX3_addData_38 ?_
    rw [fa_or]
    refine e_putI dX3_addData_39 lkX3_18' (nodes_0 hN) rfl rfl rfl ?_
    refine e_aload_n dX3_addData_42 rfl 0 rfl ?_
    refine e_getR dX3_addData_43 lkX3_45 (nodes_0 hN) rfl ?_
    refine e_aload_n dX3_addData_46 rfl 0 rfl ?_
    refine e_getI dX3_addData_47 lkX3_15 (nodes_0 hN) rfl ?_
    rw [sup_idx (by decide), c1]
    refine e_iload_n dX3_addData_50 rfl 3 rfl ?_
    refine e_iast dX3_addData_51 (nodes_17 hN) (vp_in_nI (by omega) (by decide)) ?_
    refine e_aload_n dX3_addData_52 rfl 0 rfl ?_
    refine e_getR dX3_addData_53 lkX3_48 (nodes_0 hN) rfl ?_
    refine e_aload_n dX3_addData_56 rfl 0 rfl ?_
    refine e_getI dX3_addData_57 lkX3_15 (nodes_0 hN) rfl ?_
    rw [sup_obj (show b ≠ b + 17 by omega), sup_idx (by decide), c1]
    refine e_iconst (v := 0) dX3_addData_60 rfl ?_
    refine e_iast dX3_addData_61 (nodes_18 hN) (vp_in_nI (by omega) (by decide)) ?_
    refine e_aload_n dX3_addData_62 rfl 0 rfl ?_
    refine e_dup dX3_addData_63 rfl ?_
    refine e_getI dX3_addData_64 lkX3_15 (nodes_0 hN) rfl ?_
    refine e_iconst (v := 1) dX3_addData_67 rfl ?_
    rw [sup_obj (show b ≠ b + 18 by omega), sup_obj (show b ≠ b + 17 by omega), sup_idx (by decide), c1]
    refine e_iadd dX3_addData_68 ?_
    rw [nI_1 (S 0 1)]
    refine e_putI dX3_addData_69 lkX3_15' (nodes_0 hN) rfl rfl rfl ?_
    refine e_iload_n dX3_addData_72 rfl 3 rfl ?_
    refine e_reti dX3_addData_73 ev_nwi (Nat.le_refl _) (Nat.le_refl _) ?_
    rw [i_cl (show S 0 1 < 2 ^ 31 by omega)]
    refine ⟨rfl, NC.dat hn a1 ?_ sup_same ?_ ?_ (fun i h1 h2 => by rw [sup_obj (by omega), sup_obj (by omega), sup_obj (by omega), sup_obj (by omega)]) ⟨?_, fun j hj => ?_⟩ ⟨?_, fun j hj => ?_⟩, fun i hi => by rw [sup_obj (by omega), sup_obj (by omega), sup_obj (by omega), sup_obj (by omega)]; exact a2 i (by omega), rfl⟩
    · rw [sup_idx (by decide), sup_obj (by omega), sup_obj (by omega), sup_idx (by decide)]
    · rw [sup_idx (by decide), sup_obj (by omega), sup_obj (by omega), sup_same]
    · rw [sup_idx (by decide), sup_obj (by omega), sup_obj (by omega), sup_idx (by decide)]
    · rw [sup_obj (by omega), sup_obj (by omega), sup_same]
    · rw [sup_obj (by omega), sup_obj (by omega), sup_idx hj, sup_obj (by omega)]
    · rw [sup_obj (by omega), sup_same]
    · rw [sup_obj (by omega), sup_idx hj, sup_obj (by omega), sup_obj (by omega)]
  · skip
    rw [hC.2.1] at h5
    exact absurd (show nI (S 0 1) < nI 5 from (i_lt (by omega) (by omega)).mpr (by omega)) h5
