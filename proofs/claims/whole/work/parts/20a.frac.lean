/-! fractions in lowest terms; ODDS, MEAN -/
def gmF : Nat → Nat → Nat → Nat
  | 0, g, _ => g
  | m + 1, g, l => if l = 0 then g else gmF m l (g % l)
theorem gcd_step (g l : Nat) : Nat.gcd g l = Nat.gcd l (g % l) := by
  rw [Nat.gcd_comm g l, Nat.gcd_rec l g, Nat.gcd_comm]
theorem gmF_gcd : ∀ (k m g l : Nat), l < 2 ^ k → 2 * k + 1 ≤ m → gmF m g l = Nat.gcd g l
  | 0, m, g, l, hl, hm => by
    obtain rfl : l = 0 := by omega
    obtain ⟨m, rfl⟩ : ∃ m', m = m' + 1 := ⟨m - 1, by omega⟩
    show (if 0 = 0 then g else _) = _
    rw [if_pos rfl, Nat.gcd_zero_right]
  | k + 1, m, g, l, hl, hm => by
    obtain ⟨m, rfl⟩ : ∃ m', m = m' + 2 := ⟨m - 2, by omega⟩
    show (if l = 0 then g else (if g % l = 0 then l else gmF m (g % l) (l % (g % l)))) = _
    by_cases h0 : l = 0
    · rw [if_pos h0, h0, Nat.gcd_zero_right]
    · rw [if_neg h0, gcd_step g l]
      by_cases h1 : g % l = 0
      · rw [if_pos h1, h1, Nat.gcd_zero_right]
      · rw [if_neg h1, gcd_step l (g % l)]
        refine gmF_gcd k m _ _ ?_ (by omega)
        have a1 := Nat.mod_lt l (show 0 < g % l by omega)
        have a2 := Nat.mod_lt g (show 0 < l by omega)
        have a3 := Nat.div_add_mod l (g % l)
        have a4 : 1 ≤ l / (g % l) := (Nat.le_div_iff_mul_le (by omega)).mpr (by omega)
        have a5 := Nat.mul_le_mul_left (g % l) a4
        rw [Nat.pow_succ] at hl
        omega
theorem lcmp0 {y : Nat} (hy : y < 2 ^ 63) : lg_cmp (lN y) 0 = 0 ↔ y = 0 := by
  unfold lg_cmp
  have e : (0 : Int64) = lN 0 := rfl
  rw [e]
  constructor
  · intro h
    by_cases h1 : lN y > lN 0
    · rw [if_pos h1] at h
      exact absurd h (by decide)
    · rw [if_neg h1] at h
      by_cases h2 : lN y = lN 0
      · exact (pk_lEQ hy (by decide)).mp h2
      · rw [if_neg h2] at h
        exact absurd h (by decide)
  · rintro rfl
    rfl
theorem labs_i {a : Nat} (ha : a < 2 ^ 31) : (if 0 < lN a then lN a else -lN a) = lN a := by
  by_cases h : a = 0
  · subst h
    rfl
  · exact if_pos (show (lN 0) < lN a from (pk_lLT (a := 0) (by decide) (by omega)).mpr (by omega))
def nfrac (a b : Nat) (w : Int32) : Int64 := if w = 0 then lN (a / Nat.gcd a b) else lN (b / Nat.gcd a b)
def nNO : Int64 := -9223372036854775808
noncomputable def nodds (p : Nat) (S : ns_T) (e w : Int32) : Int64 := if (0 ≤ e ∧ e ≤ 10) ∧ e.toNatClampNeg ≤ S 0 0 ∧ (w = 0 ∨ w = 1) then nfrac (nsafe p S e.toNatClampNeg) (nany S e.toNatClampNeg) w else nNO
theorem nbin_0 : ∀ n, n < 11 → ∀ e, e < 11 → (nbin n e 0 1 = 0 ↔ n < e) := by decide +kernel
/-- COSTS of all HELPS, how many there are -/
noncomputable def nmcF (p : Nat) (S : ns_T) : Nat → Nat
  | 0 => 0
  | i + 1 => nmcF p S i + ((nhelp p S i).map (ncs S)).getD 0
noncomputable def nmhF (p : Nat) (S : ns_T) : Nat → Nat
  | 0 => 0
  | i + 1 => nmhF p S i + (if (nhelp p S i).isSome = true then 1 else 0)
noncomputable def nmean (p : Nat) (S : ns_T) (w : Int32) : Int64 := if (w = 0 ∨ w = 1) ∧ nmhF p S (S 0 0) ≠ 0 then nfrac (nmcF p S (S 0 0)) (nmhF p S (S 0 0)) w else nNO
theorem nmcF_le {p : Nat} {S : ns_T} (h : VS S) : ∀ i, nmcF p S i ≤ 400 * i
  | 0 => Nat.le_refl 0
  | i + 1 => by
    have ih := nmcF_le (p := p) h i
    show nmcF p S i + _ ≤ _
    cases hh : nhelp p S i with
    | none =>
      show nmcF p S i + 0 ≤ _
      omega
    | some t =>
      have := ncs_le h t
      show nmcF p S i + ncs S t ≤ _
      omega
theorem nmhF_le {p : Nat} {S : ns_T} : ∀ i, nmhF p S i ≤ i
  | 0 => Nat.le_refl 0
  | i + 1 => by
    have ih := nmhF_le (p := p) (S := S) i
    show nmhF p S i + _ ≤ _
    split <;> omega
