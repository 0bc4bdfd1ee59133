/-! the class's spans: rows kept by their leading places -/
theorem Lp_cons {p : Nat} (h : gP p) {w : Nat} {ws : List Nat} {u' q0 : Nat} (g2 : Sp p ws (w ^^^ u')) (hw : w < 2 ^ 24) (g1 : u' < 2 ^ 24) (g3 : q0 < 6) (g4 : LD u' q0) (g5 : ¬ Lp p ws q0) : ∀ q, q < 6 → (Lp p (w :: ws) q ↔ (Lp p ws q ∨ q = q0)) := by
  intro q hq
  constructor
  · rintro ⟨v, hv, ⟨c, hc, hsv⟩, hl⟩
    by_cases hc0 : c = 0
    · subst hc0
      rw [gsc_0 h, Nat.xor_zero] at hsv
      exact Or.inl ⟨v, hv, hsv, hl⟩
    · by_cases e : q = q0
      · exact Or.inr e
      · have ht : Sp p ws (v ^^^ gsc p u' c) := by
          have h1 := sp_add h hsv (sp_smul h hc g2)
          rw [gsc_xor h _ _ hc, Nat.xor_assoc, ← Nat.xor_assoc (gsc p w c), Nat.xor_self, Nat.zero_xor] at h1
          exact h1
        have hcu : ∀ j, j < 6 → nib (gsc p u' c) j = gmul p (nib u' j) c := fun j hj => gsc_nib h hc hj
        have hz0 : ∀ j, q0 < j → j < 6 → nib (gsc p u' c) j = 0 := fun j hj hj6 => by
          rw [hcu j hj6, g4.2 j hj hj6, gmul_comm h _ (by decide) _ hc, gmul_zero h _ hc]
        have hne : nib (gsc p u' c) q0 ≠ 0 := by
          rw [hcu q0 g3]
          intro z
          have hi := ginv_ok h c hc
          have h2 : gmul p (gmul p (nib u' q0) c) (ginv p c) = nib u' q0 := by rw [gmul_assoc h _ (nib_lt _ _) _ hc _ hi.1, hi.2.1 hc0, gmul_one h _ (nib_lt _ _)]
          rw [z, gmul_comm h _ (by decide) _ hi.1, gmul_zero h _ hi.1] at h2
          exact g4.1 h2.symm
        rcases Nat.lt_or_gt_of_ne e with hlt | hgt
        · exfalso
          refine g5 ⟨_, xor_lt24 hv (gsc_lt h hc), ht, ?_, fun j hj hj6 => ?_⟩
          · rw [nib_xor, hl.2 q0 hlt g3, Nat.zero_xor]
            exact hne
          · rw [nib_xor, hl.2 j (by omega) hj6, hz0 j hj hj6]
            rfl
        · refine Or.inl ⟨_, xor_lt24 hv (gsc_lt h hc), ht, ?_, fun j hj hj6 => ?_⟩
          · rw [nib_xor, hz0 q hgt hq, Nat.xor_zero]
            exact hl.1
          · rw [nib_xor, hl.2 j hj hj6, hz0 j (by omega) hj6]
            rfl
  · rintro (⟨v, hv, hsv, hl⟩ | rfl)
    · exact ⟨v, hv, sp_cons h hsv, hl⟩
    · exact ⟨u', g1, ⟨1, by decide, by
        rw [gsc_1 h hw, Nat.xor_comm]
        exact g2⟩, g4⟩
/-- what a row is less some in the span -/
def lf (p : Nat) (R : Nat → Nat) : Nat → Nat → Nat
  | 0, v => v
  | k + 1, v => lf p R k (if nib v k ≠ 0 ∧ R k ≠ 0 then v ^^^ gsc p (R k) (nib v k) else v)
/-- a row kept at q leads there with a 1 -/
def Ech (R : Nat → Nat) : Prop := ∀ q, q < 6 → R q < 2 ^ 24 ∧ (R q ≠ 0 → nib (R q) q = 1 ∧ ∀ j, q < j → j < 6 → nib (R q) j = 0)
def SpI (p : Nat) (R : Nat → Nat) (ws : List Nat) : Prop := Vs ws ∧ Ech R ∧ (∀ q, q < 6 → R q ≠ 0 → Sp p ws (R q)) ∧ ∀ q, q < 6 → Lp p ws q → R q ≠ 0
theorem lf_lt {p : Nat} (h : gP p) {R : Nat → Nat} : ∀ (k v : Nat), v < 2 ^ 24 → lf p R k v < 2 ^ 24
  | 0, _, hv => hv
  | k + 1, v, hv => by
    refine lf_lt h k _ ?_
    split
    · exact xor_lt24 hv (gsc_lt h (nib_lt _ _))
    · exact hv
theorem lf_sp {p : Nat} (h : gP p) {R : Nat → Nat} {ws : List Nat} (hs : ∀ q, q < 6 → R q ≠ 0 → Sp p ws (R q)) : ∀ (k v : Nat), k ≤ 6 → Sp p ws (v ^^^ lf p R k v)
  | 0, v, _ => by
    show Sp p ws (v ^^^ v)
    rw [Nat.xor_self]
    exact sp_0 h ws
  | k + 1, v, hk => by
    show Sp p ws (v ^^^ lf p R k _)
    split
    · rename_i hc
      have h1 := lf_sp h hs k (v ^^^ gsc p (R k) (nib v k)) (by omega)
      have h2 := sp_add h h1 (sp_smul h (nib_lt v k) (hs k (by omega) hc.2))
      rwa [Nat.xor_assoc, Nat.xor_comm (lf p R k _), ← Nat.xor_assoc, xx] at h2
    · exact lf_sp h hs k v (by omega)
/-- places from k on stay as they are -/
theorem lf_up {p : Nat} (h : gP p) {R : Nat → Nat} (hE : Ech R) : ∀ (k v q : Nat), k ≤ q → q < 6 → nib (lf p R k v) q = nib v q
  | 0, _, _, _, _ => rfl
  | k + 1, v, q, hk, hq => by
    show nib (lf p R k _) q = _
    rw [lf_up h hE k _ q (by omega) hq]
    split
    · rename_i hc
      rw [nib_xor, gsc_nib h (nib_lt _ _) hq, ((hE k (by omega)).2 hc.2).2 q (by omega) hq, gmul_comm h _ (by decide) _ (nib_lt _ _), gmul_zero h _ (nib_lt _ _), Nat.xor_zero]
    · rfl
theorem lf_0 {p : Nat} (h : gP p) {R : Nat → Nat} (hE : Ech R) : ∀ (k v q : Nat), q < k → k ≤ 6 → R q ≠ 0 → nib (lf p R k v) q = 0
  | 0, _, q, hq, _, _ => absurd hq (by omega)
  | k + 1, v, q, hq, hk, hR => by
    show nib (lf p R k _) q = 0
    by_cases e : q = k
    · subst e
      rw [lf_up h hE q _ q (Nat.le_refl _) (by omega)]
      split
      · rename_i hc
        rw [nib_xor, gsc_nib h (nib_lt _ _) (by omega), ((hE q (by omega)).2 hR).1, gmul_comm h _ (by decide) _ (nib_lt _ _), gmul_one h _ (nib_lt _ _), Nat.xor_self]
      · rename_i hc
        cases Nat.eq_zero_or_pos (nib v q) with
        | inl z => exact z
        | inr z => exact absurd ⟨by omega, hR⟩ hc
    · exact lf_0 h hE k _ q (by omega) (by omega) hR
theorem ld_ex {v : Nat} (hv : v < 2 ^ 24) (h0 : v ≠ 0) : ∃ q, q < 6 ∧ LD v q := by
  have hk : ∀ k, k ≤ 6 → (∀ j, k ≤ j → j < 6 → nib v j = 0) → ∃ q, q < 6 ∧ LD v q := by
    intro k
    induction k with
    | zero => intro _ hz; exact absurd (nib_0_all hv (fun j hj => hz j (Nat.zero_le _) hj)) h0
    | succ k ih =>
      intro hk6 hz
      by_cases e : nib v k = 0
      · exact ih (by omega) (fun j hj hj6 => by
          by_cases e2 : j = k
          · rw [e2]; exact e
          · exact hz j (by omega) hj6)
      · exact ⟨k, by omega, e, fun j hj hj6 => hz j (by omega) hj6⟩
  exact hk 6 (Nat.le_refl 6) (fun j hj hj6 => by omega)
theorem lf_iff {p : Nat} (h : gP p) {R : Nat → Nat} {ws : List Nat} (hI : SpI p R ws) {v : Nat} (hv : v < 2 ^ 24) : lf p R 6 v = 0 ↔ Sp p ws v := by
  have h1 := lf_sp h hI.2.2.1 6 v (Nat.le_refl 6)
  constructor
  · intro e
    rwa [e, Nat.xor_zero] at h1
  · intro hs
    cases Nat.eq_zero_or_pos (lf p R 6 v) with
    | inl z => exact z
    | inr z =>
      exfalso
      have hl := lf_lt h (R := R) 6 v hv
      obtain ⟨q, hq, hld⟩ := ld_ex hl (by omega)
      have h2 : Sp p ws (lf p R 6 v) := by
        have := sp_add h hs h1
        rwa [← Nat.xor_assoc, Nat.xor_self, Nat.zero_xor] at this
      exact hld.1 (lf_0 h hI.2.1 6 v q hq (Nat.le_refl 6) (hI.2.2.2 q hq ⟨_, hl, h2, hld⟩))
theorem SpI_nil (p : Nat) : SpI p (fun _ => 0) [] := by
  refine ⟨fun w hw => absurd hw List.not_mem_nil, fun q hq => ⟨Nat.two_pow_pos 24, fun z => absurd rfl z⟩, fun q hq z => absurd rfl z, fun q hq ⟨v, hv, hs, hl⟩ => ?_⟩
  rw [show v = 0 from hs] at hl
  exact absurd (nib_0 q) hl.1
theorem SpI_congr {p : Nat} (h : gP p) {R R' : Nat → Nat} {us ws : List Nat} (hI : SpI p R us) (hR : ∀ q, q < 6 → R' q = R q) (he : ∀ v, v ∈ us ↔ v ∈ ws) : SpI p R' ws := by
  obtain ⟨i1, i2, i3, i4⟩ := hI
  have hW : Vs ws := fun w hw => i1 w ((he w).mpr hw)
  refine ⟨hW, fun q hq => by rw [hR q hq]; exact i2 q hq, fun q hq => by rw [hR q hq]; exact fun z => sp_sub h hW (fun u hu => (he u).mp hu) (i3 q hq z), fun q hq ⟨v, hv, hs, hl⟩ => by rw [hR q hq]; exact i4 q hq ⟨v, hv, sp_sub h i1 (fun u hu => (he u).mpr hu) hs, hl⟩⟩
/-- a row that the span doesn't tell is kept where it leads -/
theorem SpI_new {p : Nat} (h : gP p) {R : Nat → Nat} {ws : List Nat} (hI : SpI p R ws) {w q : Nat} (hw : w < 2 ^ 24) (hq : q < 6) (hl : LD (lf p R 6 w) q) {R' : Nat → Nat} (hR' : R' q = gsc p (lf p R 6 w) (ginv p (nib (lf p R 6 w) q))) (hR : ∀ j, j < 6 → j ≠ q → R' j = R j) :
    SpI p R' (w :: ws) ∧ ¬ Sp p ws w ∧ R q = 0 := by
  obtain ⟨i1, i2, i3, i4⟩ := id hI
  have hlt := lf_lt h (R := R) 6 w hw
  have hsp := lf_sp h i3 6 w (Nat.le_refl 6)
  have hns : ¬ Sp p ws w := fun z => by
    rw [(lf_iff h hI hw).mpr z] at hl
    exact hl.1 (nib_0 q)
  have hq0 : R q = 0 := by
    cases Nat.eq_zero_or_pos (R q) with
    | inl z => exact z
    | inr z => exact absurd (lf_0 h i2 6 w q hq (Nat.le_refl 6) (by omega)) hl.1
  have hnl : ¬ Lp p ws q := fun z => i4 q hq z hq0
  have hi := ginv_ok h (nib (lf p R 6 w) q) (nib_lt _ _)
  have hV : Vs (w :: ws) := fun x hx => by
    rcases List.mem_cons.mp hx with rfl | hx
    · exact hw
    · exact i1 x hx
  refine ⟨⟨hV, fun j hj => ?_, fun j hj z => ?_, fun j hj z => ?_⟩, hns, hq0⟩
  · by_cases e : j = q
    · subst e
      rw [hR']
      refine ⟨gsc_lt h hi.1, fun _ => ⟨?_, fun k hk hk6 => ?_⟩⟩
      · rw [gsc_nib h hi.1 hj, hi.2.1 hl.1]
      · rw [gsc_nib h hi.1 hk6, hl.2 k hk hk6, gmul_comm h _ (by decide) _ hi.1, gmul_zero h _ hi.1]
    · rw [hR j hj e]
      exact i2 j hj
  · by_cases e : j = q
    · subst e
      rw [hR']
      refine sp_smul h hi.1 ⟨1, by decide, ?_⟩
      rw [gsc_1 h hw, Nat.xor_comm]
      exact hsp
    · rw [hR j hj e] at z ⊢
      exact sp_cons h (i3 j hj z)
  · rcases (Lp_cons h hsp hw hlt hq hl hnl j hj).mp z with z | rfl
    · by_cases e : j = q
      · subst e
        exact absurd z hnl
      · rw [hR j hj e]
        exact i4 j hj z
    · rw [hR']
      intro z2
      have h1 := gsc_nib h (r := lf p R 6 w) hi.1 hj
      rw [z2, nib_0, hi.2.1 hl.1] at h1
      exact absurd h1 (by decide)
theorem SpI_told {p : Nat} (h : gP p) {R : Nat → Nat} {ws : List Nat} (hI : SpI p R ws) {w : Nat} (hw : w < 2 ^ 24) (hs : Sp p ws w) : SpI p R (w :: ws) := by
  obtain ⟨i1, i2, i3, i4⟩ := hI
  refine ⟨fun x hx => ?_, i2, fun q hq z => sp_cons h (i3 q hq z), fun q hq ⟨v, hv, ⟨c, hc, hsv⟩, hl⟩ => i4 q hq ⟨v, hv, (sp_xor_iff h (sp_smul h hc hs)).mp hsv, hl⟩⟩
  rcases List.mem_cons.mp hx with rfl | hx
  · exact hw
  · exact i1 x hx
/-- the forms of a set of nodes, the highest first -/
def fl (S : ns_T) (t : Nat) : Nat → List Nat
  | 0 => []
  | n + 1 => if t.testBit n then S 5 n :: fl S t n else fl S t n
theorem fl_mem {S : ns_T} {t v : Nat} : ∀ {n : Nat}, v ∈ fl S t n ↔ ∃ j, j < n ∧ t.testBit j = true ∧ v = S 5 j
  | 0 => ⟨fun h => absurd h List.not_mem_nil, fun ⟨j, hj, _⟩ => absurd hj (by omega)⟩
  | n + 1 => by
    unfold fl
    have ih := fl_mem (S := S) (t := t) (v := v) (n := n)
    constructor
    · intro h
      split at h
      · rename_i hb
        rcases List.mem_cons.mp h with h | h
        · exact ⟨n, by omega, hb, h⟩
        · obtain ⟨j, h1, h2⟩ := ih.mp h
          exact ⟨j, by omega, h2⟩
      · obtain ⟨j, h1, h2⟩ := ih.mp h
        exact ⟨j, by omega, h2⟩
    · rintro ⟨j, h1, h2, h3⟩
      by_cases e : j = n
      · subst e
        rw [if_pos h2, h3]
        exact List.mem_cons_self
      · have := ih.mpr ⟨j, by omega, h2, h3⟩
        split
        · exact List.mem_cons_of_mem _ this
        · exact this
theorem fl_lt {S : ns_T} (hV : VS S) (t : Nat) {n : Nat} (hn : n ≤ S 0 0) : Vs (fl S t n) := fun v hv => by
  obtain ⟨j, h1, -, rfl⟩ := fl_mem.mp hv
  have := (hV.2.2.2.2.2.2.1 j (by omega)).2.2.2.1
  omega
/-- RANK of a set -/
noncomputable def nrk (p : Nat) (S : ns_T) (t : Nat) : Nat := grk p (fl S t (S 0 0))
/-- a span's cells: its rows, how many -/
def SpV (σ : ex_S) (b : Nat) (R : Nat → Nat) (z : Nat) : Prop := (∀ q, q < 6 → σ (b + 1) q = nI (R q)) ∧ σ b 1 = nI z
theorem SpV.to {σ σ' : ex_S} {b : Nat} {R : Nat → Nat} {z : Nat} (h : SpV σ b R z) (h1 : σ' b = σ b) (h2 : σ' (b + 1) = σ (b + 1)) : SpV σ' b R z := ⟨fun q hq => by rw [h2]; exact h.1 q hq, by rw [h1]; exact h.2⟩
theorem FC.to {σ σ' : ex_S} {p : Nat} (h : FC σ p) (h1 : σ' 1 = σ 1) (h2 : σ' 2 = σ 2) : FC σ' p := ⟨by rw [h1]; exact h.1, by rw [h1]; exact h.2.1, fun j hj => by rw [h2]; exact h.2.2 j hj⟩
theorem NC.to {σ σ' : ex_S} {b : Nat} {S : ns_T} (hV : VS S) (h : NC σ b S) (hs : ∀ i, b ≤ i → i < b + 19 → σ' i = σ i) : NC σ' b S := by
  obtain ⟨n1, n2, n3, n4, n5, n6⟩ := h
  have h0 := hs b (Nat.le_refl _) (by omega)
  have hn := hV.1
  refine ⟨by rw [h0]; exact n1, by rw [h0]; exact n2, by rw [h0]; exact n3, by rw [h0]; exact n4, fun j hj => ?_, fun e he => ?_⟩
  · rw [hs (b + 1) (by omega) (by omega), hs (b + 2) (by omega) (by omega), hs (b + 3) (by omega) (by omega), hs (b + 4) (by omega) (by omega), hs (b + 5) (by omega) (by omega), hs (b + 7 + j) (by omega) (by omega)]
    exact n5 j hj
  · rw [hs (b + 17) (by omega) (by omega), hs (b + 18) (by omega) (by omega)]
    exact n6 e he
