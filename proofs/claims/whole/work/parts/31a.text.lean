/-! THE TEXT: the sign at a place (200: none), a C's number (99: none); a T, an E: whether, the place behind, the FORM -/
def sgn (X : Nat → Nat) (z a : Nat) : Nat := if a < z then X a else 200
def sI (s : Nat) : Int32 := if s = 200 then -1 else nI s
def hxN (s : Nat) : Nat := if 48 ≤ s ∧ s ≤ 57 then s - 48 else if 97 ≤ s ∧ s ≤ 102 then s - 87 else 99
def hxI (s : Nat) : Int32 := if hxN s < 16 then nI (hxN s) else -1
abbrev ps_T : Type := Bool × Nat × Nat
def dat (X : Nat → Nat) (z b t f : Nat) : ps_T := if 48 ≤ sgn X z b ∧ sgn X z b ≤ 52 then (true, b + 1, f ^^^ t * 2 ^ (4 * (sgn X z b - 48))) else (false, b, f)
def clo (X : Nat → Nat) (z : Nat) (r : ps_T) : ps_T := if r.1 = true ∧ sgn X z r.2.1 = 41 then (true, r.2.1 + 1, r.2.2) else (false, r.2.1, r.2.2)
def smF (tm : Nat → Nat → ps_T) (X : Nat → Nat) (z : Nat) : Nat → Nat → Nat → ps_T
  | 0, a, f => (false, a, f)
  | n + 1, a, f => if (tm a f).1 = true ∧ sgn X z (tm a f).2.1 = 43 then smF tm X z n ((tm a f).2.1 + 1) (tm a f).2.2 else tm a f
def tmP (p : Nat) (X : Nat → Nat) (z : Nat) : Nat → Nat → Nat → Nat → ps_T
  | 0, a, t, f => if sgn X z a = 120 then dat X z (a + 1) t f else (false, a, f)
  | k + 1, a, t, f => if sgn X z a = 120 then dat X z (a + 1) t f else if hxN (sgn X z a) < 16 then (if sgn X z (a + 1) = 42 then tmP p X z k (a + 2) (gmul p t (hxN (sgn X z a))) f else (false, a + 1, f)) else if sgn X z a = 40 then clo X z (smF (fun a' f' => tmP p X z k a' t f') X z 100 (a + 1) f) else (false, a, f)
abbrev smP (p : Nat) (X : Nat → Nat) (z k a t f : Nat) : ps_T := smF (fun a' f' => tmP p X z k a' t f') X z 100 a f
section TXT
variable {p z a t f k : Nat} {X : Nat → Nat}
theorem tm_x (h : sgn X z a = 120) : tmP p X z k a t f = dat X z (a + 1) t f := by
  cases k with
  | zero => exact if_pos h
  | succ k => exact if_pos h
theorem tm_0 (h : ¬ sgn X z a = 120) : tmP p X z 0 a t f = (false, a, f) := if_neg h
theorem tm_c (h : hxN (sgn X z a) < 16) (h2 : sgn X z (a + 1) = 42) : tmP p X z (k + 1) a t f = tmP p X z k (a + 2) (gmul p t (hxN (sgn X z a))) f := by
  have hn : ¬ sgn X z a = 120 := fun q => by rw [q] at h; exact absurd h (by decide)
  exact (if_neg hn).trans ((if_pos h).trans (if_pos h2))
theorem tm_cn (h : hxN (sgn X z a) < 16) (h2 : ¬ sgn X z (a + 1) = 42) : tmP p X z (k + 1) a t f = (false, a + 1, f) := by
  have hn : ¬ sgn X z a = 120 := fun q => by rw [q] at h; exact absurd h (by decide)
  exact (if_neg hn).trans ((if_pos h).trans (if_neg h2))
theorem tm_o (h : sgn X z a = 40) : tmP p X z (k + 1) a t f = clo X z (smP p X z k (a + 1) t f) := by
  have hn : ¬ sgn X z a = 120 := fun q => by rw [q] at h; exact absurd h (by decide)
  have h2 : ¬ hxN (sgn X z a) < 16 := fun q => by rw [h] at q; exact absurd q (by decide)
  exact (if_neg hn).trans ((if_neg h2).trans (if_pos h))
theorem tm_n (h1 : ¬ sgn X z a = 120) (h2 : ¬ hxN (sgn X z a) < 16) (h : ¬ sgn X z a = 40) : tmP p X z (k + 1) a t f = (false, a, f) := (if_neg h1).trans ((if_neg h2).trans (if_neg h))
theorem sgn_in {c : Nat} (h : sgn X z a = c) (hc : c < 200) : a < z := by
  unfold sgn at h
  split at h
  · assumption
  · omega
theorem sgn_out (h : z ≤ a) : sgn X z a = 200 := if_neg (by omega)
theorem sgn_lt (hX : ∀ i, i < z → X i < 128) (a : Nat) : sgn X z a < 128 ∨ sgn X z a = 200 := by
  unfold sgn
  split
  · exact Or.inl (hX _ (by assumption))
  · exact Or.inr rfl
theorem hx_in (h : hxN (sgn X z a) < 16) : a < z := by
  by_cases e : a < z
  · exact e
  · rw [sgn_out (by omega)] at h
    exact absurd h (by decide)
/-- what is read ends in the text, and its FORM is one -/
def PB (z a : Nat) (r : ps_T) : Prop := a ≤ r.2.1 ∧ r.2.1 ≤ z ∧ r.2.2 < 2 ^ 20 ∧ (r.1 = true → a < r.2.1)
theorem dat_b (ha : a ≤ z) (ht : t < 16) (hf : f < 2 ^ 20) : PB z a (dat X z a t f) := by
  unfold dat
  split
  · rename_i h
    have h1 : a < z := by
      by_cases e : a < z
      · exact e
      · rw [sgn_out (by omega)] at h
        omega
    refine ⟨Nat.le_succ a, h1, Nat.xor_lt_two_pow hf ?_, fun _ => Nat.lt_succ_self a⟩
    have h2 : 2 ^ (4 * (sgn X z a - 48)) ≤ 2 ^ 16 := Nat.pow_le_pow_right (by decide) (by omega)
    have h3 := Nat.mul_le_mul (show t ≤ 15 by omega) h2
    omega
  · exact ⟨Nat.le_refl a, ha, hf, fun q => by cases q⟩
theorem PB.up {b : Nat} {r : ps_T} (h : PB z b r) (hb : a < b) : PB z a r := ⟨by have := h.1; omega, h.2.1, h.2.2.1, fun q => by have := h.1; omega⟩
theorem clo_b {r : ps_T} (h : PB z a r) : PB z a (clo X z r) := by
  obtain ⟨h1, h2, h3, h4⟩ := h
  unfold clo
  split
  · rename_i q
    have := sgn_in q.2 (by decide)
    exact ⟨Nat.le_succ_of_le h1, this, h3, fun _ => Nat.lt_succ_of_le h1⟩
  · exact ⟨h1, h2, h3, fun q => by cases q⟩
theorem smF_b {tm : Nat → Nat → ps_T} (htm : ∀ a f, a ≤ z → f < 2 ^ 20 → PB z a (tm a f)) : ∀ (n a f : Nat), a ≤ z → f < 2 ^ 20 → PB z a (smF tm X z n a f)
  | 0, a, f, ha, hf => ⟨Nat.le_refl a, ha, hf, fun q => by cases q⟩
  | n + 1, a, f, ha, hf => by
    have h := htm a f ha hf
    unfold smF
    split
    · rename_i q
      have h1 := sgn_in q.2 (by decide)
      exact (smF_b htm n ((tm a f).2.1 + 1) (tm a f).2.2 h1 h.2.2.1).up (by have := h.1; omega)
    · exact h
theorem tm_b (hp : gP p) : ∀ (k a t f : Nat), a ≤ z → t < 16 → f < 2 ^ 20 → PB z a (tmP p X z k a t f)
  | 0, a, t, f, ha, ht, hf => by
    by_cases h : sgn X z a = 120
    · rw [tm_x h]
      have := sgn_in h (by decide)
      exact (dat_b this ht hf).up (Nat.lt_succ_self a)
    · rw [tm_0 h]
      exact ⟨Nat.le_refl a, ha, hf, fun q => by cases q⟩
  | k + 1, a, t, f, ha, ht, hf => by
    by_cases h : sgn X z a = 120
    · rw [tm_x h]
      have := sgn_in h (by decide)
      exact (dat_b this ht hf).up (Nat.lt_succ_self a)
    · by_cases h2 : hxN (sgn X z a) < 16
      · by_cases h3 : sgn X z (a + 1) = 42
        · rw [tm_c h2 h3]
          have := sgn_in h3 (by decide)
          exact (tm_b hp k (a + 2) _ f (by omega) (gmul_lt hp _ ht _ h2) hf).up (by omega)
        · rw [tm_cn h2 h3]
          have := hx_in h2
          exact ⟨Nat.le_succ a, this, hf, fun q => by cases q⟩
      · by_cases h3 : sgn X z a = 40
        · rw [tm_o h3]
          have := sgn_in h3 (by decide)
          exact (clo_b (smF_b (fun a' f' h1 h2 => tm_b hp k a' t f' h1 ht h2) 100 (a + 1) f this hf)).up (Nat.lt_succ_self a)
        · rw [tm_n h h2 h3]
          exact ⟨Nat.le_refl a, ha, hf, fun q => by cases q⟩
theorem sm_b (hp : gP p) (ha : a ≤ z) (ht : t < 16) (hf : f < 2 ^ 20) (n : Nat) : PB z a (smF (fun a' f' => tmP p X z k a' t f') X z n a f) := smF_b (fun a' f' h1 h2 => tm_b hp k a' t f' h1 ht h2) n a f ha hf
theorem tm_end (h : z ≤ a) : tmP p X z k a t f = (false, a, f) := by
  have hs := sgn_out (X := X) h
  cases k with
  | zero => exact tm_0 (by rw [hs]; decide)
  | succ k => exact tm_n (by rw [hs]; decide) (by rw [hs]; decide) (by rw [hs]; decide)
theorem smF_s {tm : Nat → Nat → ps_T} {n : Nat} (h : (tm a f).1 = true) (h2 : sgn X z (tm a f).2.1 = 43) : smF tm X z (n + 1) a f = smF tm X z n ((tm a f).2.1 + 1) (tm a f).2.2 := if_pos ⟨h, h2⟩
theorem smF_e {tm : Nat → Nat → ps_T} {n : Nat} (h : ¬ ((tm a f).1 = true ∧ sgn X z (tm a f).2.1 = 43)) : smF tm X z (n + 1) a f = tm a f := if_neg h
theorem sI_lit : ∀ c, c < 128 → ∀ s, s < 201 → (sI s = nI c ↔ s = c) := by decide +kernel
theorem sI_c {s c : Nat} (hs : s < 128 ∨ s = 200) (hc : c < 128) : sI s = nI c ↔ s = c := sI_lit c hc s (by omega)
theorem hx_1 : ∀ s, s < 201 → ¬ sI s < 48 → ¬ 57 < sI s → sI s - 48 = hxI s := by decide +kernel
theorem hx_2 : ∀ s, s < 201 → (sI s < 48 ∨ 57 < sI s) → ¬ sI s < 97 → ¬ 102 < sI s → sI s - 97 + 10 = hxI s := by decide +kernel
theorem hx_3 : ∀ s, s < 201 → (sI s < 48 ∨ 57 < sI s) → (sI s < 97 ∨ 102 < sI s) → -1 = hxI s := by decide +kernel
theorem hx_neg : ∀ s, s < 201 → (hxI s < 0 ↔ ¬ hxN s < 16) := by decide +kernel
theorem hx_m1 : ∀ s, s < 201 → (hxI s = -1 ↔ ¬ hxN s < 16) := by decide +kernel
theorem dt_1 : ∀ s, s < 201 → sI s - 48 < 0 → ¬ (48 ≤ s ∧ s ≤ 52) := by decide +kernel
theorem dt_2 : ∀ s, s < 201 → ¬ sI s - 48 < 5 → ¬ (48 ≤ s ∧ s ≤ 52) := by decide +kernel
theorem dt_3 : ∀ s, s < 201 → ¬ sI s - 48 < 0 → sI s - 48 < 5 → (48 ≤ s ∧ s ≤ 52) ∧ sI s - 48 = nI (s - 48) := by decide +kernel
theorem dt_4 : ∀ s, s < 201 → ((48 ≤ sI s ∧ sI s ≤ 52) ↔ (48 ≤ s ∧ s ≤ 52)) := by decide +kernel
theorem dt_5 : ∀ s, s < 201 → (48 ≤ s ∧ s ≤ 52) → sI s - 48 = nI (s - 48) := by decide +kernel
theorem dat_y (h : 48 ≤ sgn X z a ∧ sgn X z a ≤ 52) : dat X z a t f = (true, a + 1, f ^^^ t * 2 ^ (4 * (sgn X z a - 48))) := if_pos h
theorem dat_n (h : ¬ (48 ≤ sgn X z a ∧ sgn X z a ≤ 52)) : dat X z a t f = (false, a, f) := if_neg h
theorem clo_y {r : ps_T} (h : r.1 = true) (h2 : sgn X z r.2.1 = 41) : clo X z r = (true, r.2.1 + 1, r.2.2) := if_pos ⟨h, h2⟩
theorem clo_n {r : ps_T} (h : ¬ (r.1 = true ∧ sgn X z r.2.1 = 41)) : clo X z r = (false, r.2.1, r.2.2) := if_neg h
end TXT
