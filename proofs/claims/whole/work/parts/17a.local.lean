/-! LOCAL: the fewest; SAFE: how many -/
def Bst (P : Nat → Prop) (f : Nat → Nat) (s : Nat) (b : Option Nat) : Prop :=
  (∀ r, b = some r → (∃ t, t < s ∧ P t ∧ f t = r) ∧ ∀ t, t < s → P t → r ≤ f t) ∧ (b = none → ∀ t, t < s → ¬ P t)
theorem Bst_0 {P : Nat → Prop} {f : Nat → Nat} : Bst P f 0 none := ⟨fun r h => (by cases h), fun _ t h => absurd h (by omega)⟩
theorem Bst_keep {P : Nat → Prop} {f : Nat → Nat} {s : Nat} {b : Option Nat} (h : Bst P f s b) (hs : ¬ P s) : Bst P f (s + 1) b := by
  refine ⟨fun r hr => ?_, fun hb t ht hp => ?_⟩
  · obtain ⟨⟨t, g1, g2, g3⟩, g4⟩ := h.1 r hr
    refine ⟨⟨t, by omega, g2, g3⟩, fun t2 h2 hp => ?_⟩
    by_cases e : t2 = s
    · rw [e] at hp; exact absurd hp hs
    · exact g4 t2 (by omega) hp
  · by_cases e : t = s
    · rw [e] at hp; exact hs hp
    · exact h.2 hb t (by omega) hp
theorem Bst_more {P : Nat → Prop} {f : Nat → Nat} {s r : Nat} (h : Bst P f s (some r)) (hs : r ≤ f s) : Bst P f (s + 1) (some r) := by
  obtain ⟨⟨t, g1, g2, g3⟩, g4⟩ := h.1 r rfl
  refine ⟨fun r2 hr => ?_, fun hb => (by cases hb)⟩
  cases hr
  refine ⟨⟨t, by omega, g2, g3⟩, fun t2 h2 hp => ?_⟩
  by_cases e : t2 = s
  · rw [e]; exact hs
  · exact g4 t2 (by omega) hp
theorem Bst_new {P : Nat → Prop} {f : Nat → Nat} {s : Nat} {b : Option Nat} (h : Bst P f s b) (hs : P s) (hb : ∀ r, b = some r → f s < r) : Bst P f (s + 1) (some (f s)) := by
  refine ⟨fun r2 hr => ?_, fun hb => (by cases hb)⟩
  cases hr
  refine ⟨⟨s, by omega, hs, rfl⟩, fun t2 h2 hp => ?_⟩
  by_cases e : t2 = s
  · rw [e]; exact Nat.le_refl _
  · cases b with
    | none => exact absurd hp (h.2 rfl t2 (by omega))
    | some r =>
      have h1 := (h.1 r rfl).2 t2 (by omega) hp
      have h2 := hb r rfl
      omega
theorem Bst_uniq {P : Nat → Prop} {f : Nat → Nat} {s : Nat} {b c : Option Nat} (h : Bst P f s b) (h' : Bst P f s c) : b = c := by
  cases b with
  | none =>
    cases c with
    | none => rfl
    | some r =>
      obtain ⟨⟨t, g1, g2, g3⟩, -⟩ := h'.1 r rfl
      exact absurd g2 (h.2 rfl t g1)
  | some r =>
    obtain ⟨⟨t, g1, g2, g3⟩, g4⟩ := h.1 r rfl
    cases c with
    | none => exact absurd g2 (h'.2 rfl t g1)
    | some r2 =>
      obtain ⟨⟨t2, k1, k2, k3⟩, k4⟩ := h'.1 r2 rfl
      have a1 := g4 t2 k1 k2
      have a2 := k4 t g1 g2
      exact congrArg some (by omega)
theorem Bst_up {P : Nat → Prop} {f : Nat → Nat} {s : Nat} {b : Option Nat} (h : Bst P f s b) : ∀ m, (∀ t, s ≤ t → t < s + m → ¬ P t) → Bst P f (s + m) b
  | 0, _ => h
  | m + 1, hz => Bst_keep (Bst_up h m (fun t h1 h2 => hz t h1 (by omega))) (hz (s + m) (by omega) (by omega))
def LocP (p : Nat) (S : ns_T) (j t : Nat) : Prop := t.testBit j = false ∧ nrk p S (t ||| 2 ^ j) = nrk p S t
noncomputable def nloc (p : Nat) (S : ns_T) (j : Nat) : Option Nat := @dite _ (∃ b, Bst (LocP p S j) npop (2 ^ S 0 0) b) (Classical.propDecidable _) (fun h => h.choose) (fun _ => none)
theorem nloc_eq {p : Nat} {S : ns_T} {j : Nat} {b : Option Nat} (h : Bst (LocP p S j) npop (2 ^ S 0 0) b) : nloc p S j = b := by
  have he : ∃ b, Bst (LocP p S j) npop (2 ^ S 0 0) b := ⟨b, h⟩
  unfold nloc
  rw [dif_pos he]
  exact Bst_uniq he.choose_spec h
/-- all others -/
def naoth (S : ns_T) (j : Nat) : Nat := nall S &&& (nall S ^^^ (nall S &&& 2 ^ j))
theorem naoth_bit {S : ns_T} {j i : Nat} : (naoth S j).testBit i = (decide (i < S 0 0) && decide (i ≠ j)) := by
  unfold naoth
  rw [Nat.testBit_and, Nat.testBit_xor, Nat.testBit_and, Nat.testBit_two_pow, nall_bit]
  by_cases e : j = i
  · have e1 : decide (i ≠ j) = false := decide_eq_false (fun q => q e.symm)
    rw [decide_eq_true e, e1]
    cases decide (i < S 0 0) <;> rfl
  · have e1 : decide (i ≠ j) = true := decide_eq_true (fun q => e q.symm)
    rw [decide_eq_false e, e1]
    cases decide (i < S 0 0) <;> rfl
theorem naoth_le (S : ns_T) (j : Nat) : naoth S j ≤ nall S := Nat.and_le_left
theorem naoth_iff {S : ns_T} {j t : Nat} (ht : t < 2 ^ S 0 0) : t &&& naoth S j = t ↔ t.testBit j = false := by
  constructor
  · intro h
    have h1 := congrArg (fun z => z.testBit j) h
    (try dsimp only at h1)
    have e1 : decide (j ≠ j) = false := decide_eq_false (fun q => q rfl)
    rw [Nat.testBit_and, naoth_bit, e1, Bool.and_false, Bool.and_false] at h1
    exact h1.symm
  · intro h
    apply Nat.eq_of_testBit_eq
    intro i
    rw [Nat.testBit_and, naoth_bit]
    by_cases e : i = j
    · rw [e, h]; rfl
    · have e1 : decide (i ≠ j) = true := decide_eq_true e
      by_cases hi : i < S 0 0
      · rw [decide_eq_true hi, e1, Bool.and_true, Bool.and_true]
      · rw [Nat.testBit_lt_two_pow (Nat.lt_of_lt_of_le ht (Nat.pow_le_pow_right (by decide) (by omega)))]
        rfl
/-- a count of those below m -/
noncomputable def ncnt (P : Nat → Prop) : Nat → Nat
  | 0 => 0
  | m + 1 => ncnt P m + @ite _ (P m) (Classical.propDecidable _) 1 0
theorem ncnt_t {P : Nat → Prop} {m : Nat} (h : P m) : ncnt P (m + 1) = ncnt P m + 1 := by
  show ncnt P m + _ = _
  rw [if_pos h]
theorem ncnt_f {P : Nat → Prop} {m : Nat} (h : ¬ P m) : ncnt P (m + 1) = ncnt P m := by
  show ncnt P m + _ = _
  rw [if_neg h, Nat.add_zero]
theorem ncnt_le (P : Nat → Prop) : ∀ m, ncnt P m ≤ m
  | 0 => Nat.le_refl 0
  | m + 1 => by
    have := ncnt_le P m
    by_cases h : P m
    · rw [ncnt_t h]; omega
    · rw [ncnt_f h]; omega
theorem ncnt_congr {P Q : Nat → Prop} : ∀ {m : Nat}, (∀ t, t < m → (P t ↔ Q t)) → ncnt P m = ncnt Q m
  | 0, _ => rfl
  | m + 1, h => by
    have ih := ncnt_congr (m := m) (fun t ht => h t (by omega))
    by_cases hp : P m
    · rw [ncnt_t hp, ncnt_t ((h m (by omega)).mp hp), ih]
    · rw [ncnt_f hp, ncnt_f (fun q => hp ((h m (by omega)).mpr q)), ih]
/-- those left when a set is lost -/
def nleft (S : ns_T) (t : Nat) : Nat := nall S &&& (nall S ^^^ (nall S &&& t))
theorem nleft_lt {S : ns_T} (t : Nat) : nleft S t < 2 ^ S 0 0 := Nat.lt_of_le_of_lt Nat.and_le_left (by unfold nall; have := Nat.two_pow_pos (S 0 0); omega)
def SafeP (p : Nat) (S : ns_T) (e t : Nat) : Prop := npop t = e ∧ nrk p S (nleft S t ||| S 0 2) = nrk p S (nleft S t)
/-- COUNT; how many sets of so many there are -/
noncomputable def nsafe (p : Nat) (S : ns_T) (e : Nat) : Nat := ncnt (SafeP p S e) (2 ^ S 0 0)
noncomputable def nany (S : ns_T) (e : Nat) : Nat := ncnt (fun t => npop t = e) (2 ^ S 0 0)
def nbin (n : Nat) : Nat → Nat → Nat → Nat
  | 0, _, b => b
  | m + 1, i, b => nbin n m (i + 1) (b * (n - i) / (i + 1))
def popc (e : Nat) : Nat → Nat
  | 0 => 0
  | m + 1 => popc e m + (if npop m = e then 1 else 0)
theorem popc_eq (e : Nat) : ∀ m, ncnt (fun t => npop t = e) m = popc e m
  | 0 => rfl
  | m + 1 => by
    have ih := popc_eq e m
    show ncnt (fun t => npop t = e) m + _ = popc e m + _
    rw [ih]
    by_cases h : npop m = e
    · rw [if_pos h, if_pos h]
    · rw [if_neg h, if_neg h]
theorem nbin_ok : ∀ n, n < 11 → ∀ e, e < 11 → nbin n e 0 1 = popc e (2 ^ n) := by decide +kernel
theorem nany_eq {S : ns_T} (h : VS S) {e : Nat} (he : e ≤ 10) : nany S e = nbin (S 0 0) e 0 1 := by
  unfold nany
  rw [popc_eq]
  exact (nbin_ok _ (by have := h.1; omega) e (by omega)).symm
