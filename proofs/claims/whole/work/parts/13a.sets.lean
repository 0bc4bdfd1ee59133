/-! sets of nodes, who tells whom -/
theorem tell_iff {p : Nat} (h : gP p) {S : ns_T} (hV : VS S) {t j : Nat} (hj : j < S 0 0) : nrk p S (t ||| 2 ^ j) = nrk p S t ↔ Sp p (fl S t (S 0 0)) (S 5 j) := by
  have hf := (hV.2.2.2.2.2.2.1 j hj).2.2.2.1
  have h1 := fl_lt hV t (Nat.le_refl (S 0 0))
  have h2 := fl_lt hV (t ||| 2 ^ j) (Nat.le_refl (S 0 0))
  have hm : ∀ v, v ∈ fl S (t ||| 2 ^ j) (S 0 0) ↔ v ∈ S 5 j :: fl S t (S 0 0) := by
    intro v
    rw [List.mem_cons, fl_mem, fl_mem]
    constructor
    · rintro ⟨i, g1, g2, g3⟩
      rw [Nat.testBit_or, Nat.testBit_two_pow] at g2
      rcases Bool.or_eq_true_iff.mp g2 with g2 | g2
      · exact Or.inr ⟨i, g1, g2, g3⟩
      · have := of_decide_eq_true g2
        subst this
        exact Or.inl g3
    · rintro (rfl | ⟨i, g1, g2, g3⟩)
      · exact ⟨j, hj, by rw [Nat.testBit_or, Nat.testBit_two_pow, decide_eq_true rfl, Bool.or_true], rfl⟩
      · exact ⟨i, g1, by rw [Nat.testBit_or, g2]; rfl, g3⟩
  have hC : Vs (S 5 j :: fl S t (S 0 0)) := fun v hv => by
    rcases List.mem_cons.mp hv with rfl | hv
    · omega
    · exact h1 v hv
  unfold nrk
  rw [grk_perm h h2 hC hm]
  exact grk_tells
theorem nrk_le {p : Nat} (S : ns_T) (t : Nat) : nrk p S t ≤ S 0 0 := by
  have h : ∀ n, (fl S t n).length ≤ n := by
    intro n
    induction n with
    | zero => exact Nat.le_refl 0
    | succ n ih =>
      unfold fl
      split
      · rw [List.length_cons]; omega
      · omega
  exact Nat.le_trans (grk_le _) (h _)
theorem tell_mono {p : Nat} (h : gP p) {S : ns_T} (hV : VS S) {s t : Nat} {v : Nat} (hs : ∀ j, j < S 0 0 → s.testBit j = true → t.testBit j = true) (hv : Sp p (fl S s (S 0 0)) v) : Sp p (fl S t (S 0 0)) v :=
  sp_sub h (fl_lt hV t (Nat.le_refl _)) (fun u hu => by
    obtain ⟨j, g1, g2, g3⟩ := fl_mem.mp hu
    exact fl_mem.mpr ⟨j, g1, hs j g1 g2, g3⟩) hv
/-- all nodes; those that are there -/
def nall (S : ns_T) : Nat := 2 ^ S 0 0 - 1
def nthere (S : ns_T) : Nat := nall S ^^^ S 0 3
theorem nall_lt {S : ns_T} (h : VS S) : nall S < 2 ^ 10 := by
  unfold nall
  have := Nat.pow_le_pow_right (n := 2) (by decide) h.1
  have := Nat.two_pow_pos (S 0 0)
  omega
theorem nall_bit (S : ns_T) (j : Nat) : (nall S).testBit j = decide (j < S 0 0) := Nat.testBit_two_pow_sub_one _ _
theorem nthere_lt {S : ns_T} (h : VS S) : nthere S < 2 ^ S 0 0 := Nat.xor_lt_two_pow (by unfold nall; have := Nat.two_pow_pos (S 0 0); omega) h.2.2.2.2.2.1
theorem nthere_bit {S : ns_T} {j : Nat} (hj : j < S 0 0) : (nthere S).testBit j = !(S 0 3).testBit j := by
  unfold nthere
  rw [Nat.testBit_xor, nall_bit, decide_eq_true hj, Bool.true_xor]
theorem two_n {S : ns_T} (h : VS S) : 2 ^ S 0 0 ≤ 1024 := Nat.pow_le_pow_right (n := 2) (by decide) h.1
theorem i_shl1 {j : Nat} (hj : j < 31) : (1 : Int32) <<< (nI j &&& 31) = nI (2 ^ j) := by
  have := i_shl (n := 1) (i := j) (by rw [Nat.one_mul]; exact Nat.pow_lt_pow_right (by decide) (by omega)) (by omega)
  rwa [Nat.one_mul] at this
/-- one more bit of x -/
theorem mod_bit (x i : Nat) : x % 2 ^ (i + 1) = if x.testBit i then x % 2 ^ i ||| 2 ^ i else x % 2 ^ i := by
  apply Nat.eq_of_testBit_eq
  intro j
  rw [Nat.testBit_mod_two_pow]
  split
  · rename_i h
    rw [Nat.testBit_or, Nat.testBit_mod_two_pow, Nat.testBit_two_pow]
    by_cases e : j = i
    · subst e
      rw [h]
      simp
    · have e0 : decide (i = j) = false := decide_eq_false (fun q => e q.symm)
      rw [e0, Bool.or_false]
      by_cases e2 : j < i
      · rw [decide_eq_true e2, decide_eq_true (show j < i + 1 by omega)]
      · rw [decide_eq_false e2, decide_eq_false (show ¬ j < i + 1 by omega)]
  · rename_i h
    rw [Nat.testBit_mod_two_pow]
    by_cases e : j = i
    · subst e
      rw [eq_false_of_ne_true h]
      simp
    · by_cases e2 : j < i
      · rw [decide_eq_true e2, decide_eq_true (show j < i + 1 by omega)]
      · rw [decide_eq_false e2, decide_eq_false (show ¬ j < i + 1 by omega)]
/-- the data as bits, out of their nodes -/
def ndF (S : ns_T) : Nat → Nat
  | 0 => 0
  | e + 1 => ndF S e ||| 2 ^ S 8 e
theorem ndF_bit (S : ns_T) (j : Nat) : ∀ e, (ndF S e).testBit j = true ↔ ∃ e', e' < e ∧ S 8 e' = j
  | 0 => ⟨fun h => absurd (show Nat.testBit 0 j = true from h) (by rw [Nat.zero_testBit]; decide), fun ⟨e', h, _⟩ => by omega⟩
  | e + 1 => by
    show (ndF S e ||| 2 ^ S 8 e).testBit j = true ↔ _
    rw [Nat.testBit_or, Nat.testBit_two_pow, Bool.or_eq_true_iff, ndF_bit S j e, decide_eq_true_iff]
    constructor
    · rintro (⟨e', h1, h2⟩ | h)
      · exact ⟨e', by omega, h2⟩
      · exact ⟨e, by omega, h⟩
    · rintro ⟨e', h1, h2⟩
      by_cases q : e' = e
      · subst q; exact Or.inr h2
      · exact Or.inl ⟨e', by omega, h2⟩
theorem ndF_lt {S : ns_T} (h : VS S) : ∀ e, e ≤ S 0 1 → ndF S e < 2 ^ S 0 0
  | 0, _ => Nat.two_pow_pos _
  | e + 1, he => Nat.or_lt_two_pow (ndF_lt h e (by omega)) (Nat.pow_lt_pow_right (by decide) (h.2.2.2.2.2.2.2 e (by omega)).1)
theorem ndF_eq {S : ns_T} (h : VS S) : ndF S (S 0 1) = S 0 2 := by
  apply Nat.eq_of_testBit_eq
  intro j
  obtain ⟨v1, v2, v3, v4, v5, v6, v7, v8⟩ := id h
  by_cases hj : j < S 0 0
  · have h1 := ndF_bit S j (S 0 1)
    obtain ⟨u1, u2, u3, u4, u5, u6, u7, u8⟩ := v7 j hj
    rw [u7]
    by_cases e : S 3 j = 9
    · rw [decide_eq_false (fun q => q e)]
      cases hb : (ndF S (S 0 1)).testBit j with
      | false => rfl
      | true =>
        obtain ⟨e', g1, g2⟩ := h1.mp hb
        have g3 := (v8 e' g1).2.1
        rw [g2, e] at g3
        omega
    · rw [decide_eq_true e]
      exact h1.mpr ⟨S 3 j, by omega, u8 (by omega)⟩
  · rw [Nat.testBit_lt_two_pow (Nat.lt_of_lt_of_le (ndF_lt h _ (Nat.le_refl _)) (Nat.pow_le_pow_right (by decide) (by omega))), Nat.testBit_lt_two_pow (Nat.lt_of_lt_of_le v5 (Nat.pow_le_pow_right (by decide) (by omega)))]
/-- the class's table of ranks -/
def RKI (σ : ex_S) (p : Nat) (S : ns_T) : Prop := ∀ t, t < 2 ^ S 0 0 → σ 6 t = nI (nrk p S t)
theorem rk_i {σ : ex_S} {p : Nat} {S : ns_T} (hV : VS S) (h : RKI σ p S) {t : Nat} (ht : t < 2 ^ S 0 0) : rk σ (nI t) = nI (nrk p S t) := by
  have h2 := two_n hV
  unfold rk
  rw [if_pos ⟨i_nn (by omega), (i_lt (by omega) (by decide)).mpr (show t < 1024 by omega)⟩, i_cl (by omega)]
  exact h t ht
theorem not_i (x : Nat) (y : Nat) (hx : x < 2 ^ 31) : nI x &&& (nI y ^^^ (-1)) = nI (x &&& (x ^^^ (x &&& y))) := by
  apply b_ext
  intro i hi
  have e : ∀ z i : Nat, i < 32 → bt (nI z) i = z.testBit i := by
    intro z i hi
    show (BitVec.ofNat 32 z).getLsbD i = _
    rw [BitVec.getLsbD_ofNat]
    simp [hi]
  rw [b_and, b_xor, e _ i hi, e _ i hi, e _ i hi, b_m1 i hi, Nat.testBit_and, Nat.testBit_xor, Nat.testBit_and]
  cases x.testBit i <;> cases y.testBit i <;> rfl
