/-! SPANS of rows over the FIELD: rows are numbers below 2 ^ 24, six numbers each -/
theorem gsc_0 {p : Nat} (h : gP p) (r : Nat) : gsc p r 0 = 0 := nib_ext6 (gsc_lt h (by decide)) (by decide) fun q hq => by rw [gsc_nib h (by decide) hq, nib_0, gmul_zero h _ (nib_lt _ _)]
theorem gsc_1 {p : Nat} (h : gP p) {r : Nat} (hr : r < 2 ^ 24) : gsc p r 1 = r := nib_ext6 (gsc_lt h (by decide)) hr fun q hq => by rw [gsc_nib h (by decide) hq, gmul_one h _ (nib_lt _ _)]
theorem gsc_xor {p : Nat} (h : gP p) (a b : Nat) {c : Nat} (hc : c < 16) : gsc p (a ^^^ b) c = gsc p a c ^^^ gsc p b c :=
  nib_ext6 (gsc_lt h hc) (Nat.xor_lt_two_pow (gsc_lt h hc) (gsc_lt h hc)) fun q hq => by rw [nib_xor, gsc_nib h hc hq, gsc_nib h hc hq, gsc_nib h hc hq, nib_xor, gmul_dist2 h (nib_lt _ _) (nib_lt _ _) hc]
theorem gsc_add {p : Nat} (h : gP p) (r : Nat) {c d : Nat} (hc : c < 16) (hd : d < 16) : gsc p r (c ^^^ d) = gsc p r c ^^^ gsc p r d :=
  nib_ext6 (gsc_lt h (Nat.xor_lt_two_pow (n := 4) hc hd)) (Nat.xor_lt_two_pow (gsc_lt h hc) (gsc_lt h hd)) fun q hq => by rw [nib_xor, gsc_nib h (Nat.xor_lt_two_pow (n := 4) hc hd) hq, gsc_nib h hc hq, gsc_nib h hd hq, gmul_dist h _ (nib_lt _ _) _ hc _ hd]
theorem gsc_gsc {p : Nat} (h : gP p) (r : Nat) {c d : Nat} (hc : c < 16) (hd : d < 16) : gsc p (gsc p r c) d = gsc p r (gmul p c d) :=
  nib_ext6 (gsc_lt h hd) (gsc_lt h (gmul_lt h _ hc _ hd)) fun q hq => by rw [gsc_nib h hd hq, gsc_nib h hc hq, gsc_nib h (gmul_lt h _ hc _ hd) hq, gmul_assoc h _ (nib_lt _ _) _ hc _ hd]
theorem gsc_of0 {p : Nat} (h : gP p) {c : Nat} (hc : c < 16) : gsc p 0 c = 0 := nib_ext6 (gsc_lt h hc) (by decide) fun q hq => by rw [gsc_nib h hc hq, nib_0, gmul_comm h _ (by decide) _ hc, gmul_zero h _ hc]
theorem x4 (a b c : Nat) : (a ^^^ c) ^^^ (b ^^^ c) = a ^^^ b := by
  rw [Nat.xor_comm b c, Nat.xor_assoc, ← Nat.xor_assoc c c b, Nat.xor_self, Nat.zero_xor]
theorem x4' (a b c d : Nat) : (a ^^^ b) ^^^ (c ^^^ d) = (a ^^^ c) ^^^ (b ^^^ d) := by
  rw [Nat.xor_assoc, ← Nat.xor_assoc b c d, Nat.xor_comm b c, Nat.xor_assoc c b d, ← Nat.xor_assoc]
theorem xx (a b : Nat) : (a ^^^ b) ^^^ b = a := by rw [Nat.xor_assoc, Nat.xor_self, Nat.xor_zero]
/-- all sums of the rows times numbers -/
def Sp (p : Nat) : List Nat → Nat → Prop
  | [], v => v = 0
  | w :: ws, v => ∃ c, c < 16 ∧ Sp p ws (v ^^^ gsc p w c)
def Vs (ws : List Nat) : Prop := ∀ w ∈ ws, w < 2 ^ 24
theorem Vs.tl {w : Nat} {ws : List Nat} (h : Vs (w :: ws)) : Vs ws := fun x hx => h x (List.mem_cons_of_mem _ hx)
theorem sp_0 {p : Nat} (h : gP p) : ∀ ws, Sp p ws 0
  | [] => rfl
  | w :: ws => ⟨0, by decide, by rw [gsc_0 h, Nat.xor_self]; exact sp_0 h ws⟩
theorem sp_add {p : Nat} (h : gP p) : ∀ {ws : List Nat} {u v : Nat}, Sp p ws u → Sp p ws v → Sp p ws (u ^^^ v)
  | [], _, _, hu, hv => by
    show _ = 0
    rw [show _ = 0 from hu, show _ = 0 from hv]
    rfl
  | w :: ws, u, v, ⟨c, hc, hu⟩, ⟨d, hd, hv⟩ => ⟨c ^^^ d, Nat.xor_lt_two_pow (n := 4) hc hd, by
    rw [gsc_add h w hc hd, x4']
    exact sp_add h hu hv⟩
theorem sp_smul {p : Nat} (h : gP p) {c : Nat} (hc : c < 16) : ∀ {ws : List Nat} {v : Nat}, Sp p ws v → Sp p ws (gsc p v c)
  | [], v, hv => by
    show _ = 0
    rw [show v = 0 from hv, gsc_of0 h hc]
  | w :: ws, v, ⟨d, hd, hv⟩ => ⟨gmul p d c, gmul_lt h _ hd _ hc, by
    rw [← gsc_gsc h w hd hc, ← gsc_xor h _ _ hc]
    exact sp_smul h hc hv⟩
theorem sp_cons {p : Nat} (h : gP p) {w v : Nat} {ws : List Nat} (hv : Sp p ws v) : Sp p (w :: ws) v := ⟨0, by decide, by rw [gsc_0 h, Nat.xor_zero]; exact hv⟩
theorem sp_mem {p : Nat} (h : gP p) : ∀ {ws : List Nat} {w : Nat}, Vs ws → w ∈ ws → Sp p ws w
  | [], _, _, hw => absurd hw List.not_mem_nil
  | x :: ws, w, hV, hw => by
    rcases List.mem_cons.mp hw with rfl | hw
    · exact ⟨1, by decide, by rw [gsc_1 h (hV w List.mem_cons_self), Nat.xor_self]; exact sp_0 h ws⟩
    · exact sp_cons h (sp_mem h hV.tl hw)
theorem sp_trans {p : Nat} (h : gP p) {ws : List Nat} : ∀ {us : List Nat} {v : Nat}, (∀ u ∈ us, Sp p ws u) → Sp p us v → Sp p ws v
  | [], v, _, hv => by
    rw [show v = 0 from hv]
    exact sp_0 h ws
  | u :: us, v, hu, ⟨c, hc, hv⟩ => by
    have h1 := sp_trans h (fun x hx => hu x (List.mem_cons_of_mem _ hx)) hv
    have h2 := sp_add h h1 (sp_smul h hc (hu u List.mem_cons_self))
    rwa [xx] at h2
theorem sp_sub {p : Nat} (h : gP p) {us ws : List Nat} {v : Nat} (hW : Vs ws) (hs : ∀ u ∈ us, u ∈ ws) (hv : Sp p us v) : Sp p ws v := sp_trans h (fun u hu => sp_mem h hW (hs u hu)) hv
theorem sp_xor_iff {p : Nat} (h : gP p) {ws : List Nat} {u v : Nat} (hu : Sp p ws u) : Sp p ws (v ^^^ u) ↔ Sp p ws v :=
  ⟨fun hv => by
    have := sp_add h hv hu
    rwa [xx] at this, fun hv => sp_add h hv hu⟩
-- leading places
def LD (v q : Nat) : Prop := nib v q ≠ 0 ∧ ∀ j, q < j → j < 6 → nib v j = 0
def Lp (p : Nat) (ws : List Nat) (q : Nat) : Prop := ∃ v, v < 2 ^ 24 ∧ Sp p ws v ∧ LD v q
noncomputable def cntP (P : Nat → Prop) : Nat → Nat
  | 0 => 0
  | n + 1 => cntP P n + @ite _ (P n) (Classical.propDecidable _) 1 0
theorem cntP_congr {P Q : Nat → Prop} : ∀ {n : Nat}, (∀ q, q < n → (P q ↔ Q q)) → cntP P n = cntP Q n
  | 0, _ => rfl
  | n + 1, h => by
    unfold cntP
    rw [cntP_congr (fun q hq => h q (Nat.lt_succ_of_lt hq))]
    by_cases hp : P n
    · rw [if_pos hp, if_pos ((h n (Nat.lt_succ_self n)).mp hp)]
    · rw [if_neg hp, if_neg (fun hq => hp ((h n (Nat.lt_succ_self n)).mpr hq))]
theorem cntP_add {P Q : Nat → Prop} {q0 : Nat} (h0 : ¬ P q0) : ∀ {n : Nat}, (∀ q, q < n → (Q q ↔ (P q ∨ q = q0))) → cntP Q n = cntP P n + (if q0 < n then 1 else 0)
  | 0, _ => rfl
  | n + 1, h => by
    have ih := cntP_add h0 (n := n) (fun q hq => h q (Nat.lt_succ_of_lt hq))
    have hn := h n (Nat.lt_succ_self n)
    unfold cntP
    rw [ih]
    by_cases e : n = q0
    · subst e
      rw [if_pos (hn.mpr (Or.inr rfl)), if_neg h0, if_neg (Nat.lt_irrefl n), if_pos (Nat.lt_succ_self n)]
    · by_cases hp : P n
      · rw [if_pos (hn.mpr (Or.inl hp)), if_pos hp]
        split <;> split <;> omega
      · rw [if_neg (fun hq => (hn.mp hq).elim hp e), if_neg hp]
        split <;> split <;> omega
/-- RANK of a row of rows: one more for each that those behind it don't tell -/
noncomputable def grk (p : Nat) : List Nat → Nat
  | [] => 0
  | w :: ws => grk p ws + @ite _ (Sp p ws w) (Classical.propDecidable _) 0 1
theorem grk_told {p w : Nat} {ws : List Nat} (h : Sp p ws w) : grk p (w :: ws) = grk p ws := by
  conv => lhs; unfold grk
  rw [if_pos h, Nat.add_zero]
theorem grk_new {p w : Nat} {ws : List Nat} (h : ¬ Sp p ws w) : grk p (w :: ws) = grk p ws + 1 := by
  conv => lhs; unfold grk
  rw [if_neg h]
theorem nib_0_all {v : Nat} (hv : v < 2 ^ 24) (h : ∀ j, j < 6 → nib v j = 0) : v = 0 := nib_ext6 hv (by decide) fun q hq => by rw [h q hq, nib_0]
theorem xor_lt24 {a b : Nat} (ha : a < 2 ^ 24) (hb : b < 2 ^ 24) : a ^^^ b < 2 ^ 24 := Nat.xor_lt_two_pow ha hb
theorem sp_reduce {p : Nat} (h : gP p) {ws : List Nat} : ∀ (n : Nat) (u : Nat), n ≤ 6 → u < 2 ^ 24 → (∀ j, n ≤ j → j < 6 → nib u j = 0) → ¬ Sp p ws u →
    ∃ u' q0, u' < 2 ^ 24 ∧ Sp p ws (u ^^^ u') ∧ q0 < 6 ∧ LD u' q0 ∧ ¬ Lp p ws q0
  | 0, u, _, hu, hz, hs => by
    have := nib_0_all hu (fun j hj => hz j (Nat.zero_le _) hj)
    subst this
    exact absurd (sp_0 h ws) hs
  | n + 1, u, hn, hu, hz, hs => by
    by_cases h0 : nib u n = 0
    · exact sp_reduce h n u (by omega) hu (fun j hj hj6 => by
        by_cases e : j = n
        · rw [e]; exact h0
        · exact hz j (by omega) hj6) hs
    · by_cases hL : Lp p ws n
      · obtain ⟨v, hv, hvs, hv1, hv2⟩ := hL
        have hi := ginv_ok h (nib v n) (nib_lt v n)
        have hc : gmul p (ginv p (nib v n)) (nib u n) < 16 := gmul_lt h _ hi.1 _ (nib_lt u n)
        have hk : gmul p (nib v n) (gmul p (ginv p (nib v n)) (nib u n)) = nib u n := by
          rw [← gmul_assoc h _ (nib_lt v n) _ hi.1 _ (nib_lt u n), hi.2.1 hv1, gmul_comm h _ (by decide) _ (nib_lt u n), gmul_one h _ (nib_lt u n)]
        generalize gmul p (ginv p (nib v n)) (nib u n) = c at hc hk
        have hsv := sp_smul h hc hvs
        obtain ⟨u', q0, g1, g2, g3⟩ := sp_reduce h n (u ^^^ gsc p v c) (by omega) (xor_lt24 hu (gsc_lt h hc)) (fun j hj hj6 => by
          rw [nib_xor, gsc_nib h hc hj6]
          by_cases e : j = n
          · rw [e, hk, Nat.xor_self]
          · rw [hz j (by omega) hj6, hv2 j (by omega) hj6, gmul_comm h _ (by decide) _ hc, gmul_zero h _ hc]
            rfl) (fun q => hs ((sp_xor_iff h hsv).mp q))
        refine ⟨u', q0, g1, ?_, g3⟩
        have := sp_add h g2 hsv
        rw [Nat.xor_assoc, Nat.xor_comm u', ← Nat.xor_assoc, xx] at this
        exact this
      · exact ⟨u, n, hu, by rw [Nat.xor_self]; exact sp_0 h ws, by omega, ⟨h0, fun j hj hj6 => hz j (by omega) hj6⟩, hL⟩
theorem grk_cnt {p : Nat} (h : gP p) : ∀ {ws : List Nat}, Vs ws → grk p ws = cntP (Lp p ws) 6
  | [], _ => by
    have : cntP (Lp p []) 6 = cntP (fun _ => False) 6 := cntP_congr fun q _ => ⟨fun ⟨v, _, hs, hl, _⟩ => by
      rw [show v = 0 from hs] at hl
      exact hl (nib_0 q), fun q => q.elim⟩
    rw [this]
    simp [cntP, grk]
  | w :: ws, hV => by
    have ih := grk_cnt h hV.tl
    have hw : w < 2 ^ 24 := hV w List.mem_cons_self
    by_cases hs : Sp p ws w
    · rw [grk_told hs, ih]
      refine cntP_congr fun q _ => ⟨fun ⟨v, hv, hsv, hl⟩ => ⟨v, hv, sp_cons h hsv, hl⟩, fun ⟨v, hv, ⟨c, hc, hsv⟩, hl⟩ => ⟨v, hv, ?_, hl⟩⟩
      exact (sp_xor_iff h (sp_smul h hc hs)).mp hsv
    · obtain ⟨u', q0, g1, g2, g3, g4, g5⟩ := sp_reduce h 6 w (Nat.le_refl 6) hw (fun j hj hj6 => by omega) hs
      rw [grk_new hs, ih, cntP_add g5 (Q := Lp p (w :: ws)) (n := 6), if_pos g3]
      intro q hq
      constructor
      · rintro ⟨v, hv, ⟨c, hc, hsv⟩, hl⟩
        by_cases hc0 : c = 0
        · subst hc0
          rw [gsc_0 h, Nat.xor_zero] at hsv
          exact Or.inl ⟨v, hv, hsv, hl⟩
        · by_cases e : q = q0
          · exact Or.inr e
          · -- t = v - c u' is told by ws
            have ht : Sp p ws (v ^^^ gsc p u' c) := by
              have h1 := sp_add h hsv (sp_smul h hc g2)
              rw [gsc_xor h _ _ hc, Nat.xor_assoc, ← Nat.xor_assoc (gsc p w c), Nat.xor_self, Nat.zero_xor] at h1
              exact h1
            have hcu : ∀ j, j < 6 → nib (gsc p u' c) j = gmul p (nib u' j) c := fun j hj => gsc_nib h hc hj
            have hz0 : ∀ j, q0 < j → j < 6 → nib (gsc p u' c) j = 0 := fun j hj hj6 => by
              rw [hcu j hj6, g4.2 j hj hj6, gmul_comm h _ (by decide) _ hc, gmul_zero h _ hc]
            have hne : nib (gsc p u' c) q0 ≠ 0 := by
              rw [hcu q0 g3]
              intro z
              have hi := ginv_ok h c hc
              have h2 : gmul p (gmul p (nib u' q0) c) (ginv p c) = nib u' q0 := by rw [gmul_assoc h _ (nib_lt _ _) _ hc _ hi.1, hi.2.1 hc0, gmul_one h _ (nib_lt _ _)]
              rw [z, gmul_comm h _ (by decide) _ hi.1, gmul_zero h _ hi.1] at h2
              exact g4.1 h2.symm
            rcases Nat.lt_or_gt_of_ne e with hlt | hgt
            · exfalso
              refine g5 ⟨_, xor_lt24 hv (gsc_lt h hc), ht, ?_, fun j hj hj6 => ?_⟩
              · rw [nib_xor, hl.2 q0 hlt g3, Nat.zero_xor]
                exact hne
              · rw [nib_xor, hl.2 j (by omega) hj6, hz0 j hj hj6]
                rfl
            · refine Or.inl ⟨_, xor_lt24 hv (gsc_lt h hc), ht, ?_, fun j hj hj6 => ?_⟩
              · rw [nib_xor, hz0 q hgt hq, Nat.xor_zero]
                exact hl.1
              · rw [nib_xor, hl.2 j hj hj6, hz0 j (by omega) hj6]
                rfl
      · rintro (⟨v, hv, hsv, hl⟩ | rfl)
        · exact ⟨v, hv, sp_cons h hsv, hl⟩
        · exact ⟨u', g1, ⟨1, by decide, by
            rw [gsc_1 h hw, Nat.xor_comm]
            exact g2⟩, g4⟩
/-- RANK hangs on the span alone -/
theorem grk_same {p : Nat} (h : gP p) {us ws : List Nat} (hU : Vs us) (hW : Vs ws) (he : ∀ v, v < 2 ^ 24 → (Sp p us v ↔ Sp p ws v)) : grk p us = grk p ws := by
  rw [grk_cnt h hU, grk_cnt h hW]
  exact cntP_congr fun q _ => ⟨fun ⟨v, hv, hs, hl⟩ => ⟨v, hv, (he v hv).mp hs, hl⟩, fun ⟨v, hv, hs, hl⟩ => ⟨v, hv, (he v hv).mpr hs, hl⟩⟩
theorem grk_perm {p : Nat} (h : gP p) {us ws : List Nat} (hU : Vs us) (hW : Vs ws) (he : ∀ v, v ∈ us ↔ v ∈ ws) : grk p us = grk p ws :=
  grk_same h hU hW fun v _ => ⟨sp_sub h hW (fun u hu => (he u).mp hu), sp_sub h hU (fun u hu => (he u).mpr hu)⟩
/-- a row is told just when it adds nothing -/
theorem grk_tells {p w : Nat} {ws : List Nat} : grk p (w :: ws) = grk p ws ↔ Sp p ws w := by
  by_cases hs : Sp p ws w
  · exact ⟨fun _ => hs, fun _ => grk_told hs⟩
  · rw [grk_new hs]
    exact ⟨fun q => by omega, fun q => absurd q hs⟩
theorem grk_le {p : Nat} : ∀ ws : List Nat, grk p ws ≤ ws.length
  | [] => Nat.le_refl 0
  | w :: ws => by
    have := grk_le (p := p) ws
    by_cases hs : Sp p ws w
    · rw [grk_told hs, List.length_cons]; omega
    · rw [grk_new hs, List.length_cons]; omega
