/-! COSTS of a set; HELP -/
def ncsF (S : ns_T) (t : Nat) : Nat → Nat
  | 0 => 0
  | i + 1 => ncsF S t i + (if t.testBit i then ncost S i else 0)
def ncs (S : ns_T) (t : Nat) : Nat := ncsF S t (S 0 0)
theorem ncsF_le {S : ns_T} (h : VS S) (t : Nat) : ∀ i, i ≤ S 0 0 → ncsF S t i ≤ 40 * i
  | 0, _ => Nat.le_refl 0
  | i + 1, hi => by
    have h1 := ncsF_le h t i (by omega)
    have h2 := (ncost_lt h (show i < S 0 0 by omega)).1
    show ncsF S t i + _ ≤ _
    split <;> omega
theorem ncs_le {S : ns_T} (h : VS S) (t : Nat) : ncs S t ≤ 400 := by
  have := ncsF_le h t (S 0 0) (Nat.le_refl _)
  have := h.1
  unfold ncs
  omega
theorem ncsF_lo {S : ns_T} {t i : Nat} (h : t < 2 ^ i) : ncsF S t (i + 1) = ncsF S t i := by
  show ncsF S t i + _ = _
  rw [if_neg (by rw [Nat.testBit_lt_two_pow h]; decide), Nat.add_zero]
theorem ncsF_congr {S : ns_T} {t u : Nat} : ∀ {i : Nat}, (∀ j, j < i → t.testBit j = u.testBit j) → ncsF S t i = ncsF S u i
  | 0, _ => rfl
  | i + 1, h => by
    show ncsF S t i + _ = ncsF S u i + _
    rw [ncsF_congr (fun j hj => h j (by omega)), h i (by omega)]
theorem ncsF_hi {S : ns_T} {t i : Nat} (h : t < 2 ^ i) : ncsF S (t + 2 ^ i) (i + 1) = ncsF S t i + ncost S i := by
  show ncsF S (t + 2 ^ i) i + _ = _
  rw [ncsF_congr (t := t + 2 ^ i) (u := t) (fun j hj => by rw [tb_hi h, if_pos hj]), if_pos (by rw [tb_hi h, if_neg (Nat.lt_irrefl i)]; exact decide_eq_true rfl)]
def Hp (p : Nat) (S : ns_T) (o j t : Nat) : Prop := t &&& o = t ∧ nrk p S (t ||| 2 ^ j) = nrk p S t
def IsHelp (p : Nat) (S : ns_T) (o j r : Nat) : Prop := r < 2 ^ S 0 0 ∧ Hp p S o j r ∧ ∀ s, s < 2 ^ S 0 0 → Hp p S o j s → ncs S r < ncs S s ∨ (ncs S r = ncs S s ∧ r ≤ s)
/-- the others that are there -/
def noth (S : ns_T) (j : Nat) : Nat := nthere S &&& (nthere S ^^^ (nthere S &&& 2 ^ j))
noncomputable def nhelp (p : Nat) (S : ns_T) (j : Nat) : Option Nat := @dite _ (∃ r, IsHelp p S (noth S j) j r) (Classical.propDecidable _) (fun h => some h.choose) (fun _ => none)
theorem help_uniq {p : Nat} {S : ns_T} {o j r r' : Nat} (h : IsHelp p S o j r) (h' : IsHelp p S o j r') : r = r' := by
  have h1 := h.2.2 r' h'.1 h'.2.1
  have h2 := h'.2.2 r h.1 h.2.1
  omega
theorem nhelp_some {p : Nat} {S : ns_T} {j r : Nat} (h : IsHelp p S (noth S j) j r) : nhelp p S j = some r := by
  unfold nhelp
  have he : ∃ r, IsHelp p S (noth S j) j r := ⟨r, h⟩
  rw [dif_pos he]
  exact congrArg some (help_uniq he.choose_spec h)
theorem nhelp_none {p : Nat} {S : ns_T} {j : Nat} (h : ∀ s, s < 2 ^ S 0 0 → ¬ Hp p S (noth S j) j s) : nhelp p S j = none := by
  unfold nhelp
  rw [dif_neg]
  rintro ⟨r, h1, h2, -⟩
  exact h r h1 h2
theorem nhelp_is {p : Nat} {S : ns_T} {j r : Nat} (h : nhelp p S j = some r) : IsHelp p S (noth S j) j r := by
  unfold nhelp at h
  by_cases he : ∃ r, IsHelp p S (noth S j) j r
  · rw [dif_pos he] at h
    have := he.choose_spec
    rwa [Option.some.inj h] at this
  · rw [dif_neg he] at h
    cases h
/-- a number or -5 -/
def hI : Option Nat → Int32
  | none => -5
  | some t => nI t
theorem hI_some {t : Nat} (h : t < 2 ^ 31) : ¬ nI t = -5 := fun q => by
  have h1 := i_toInt h
  rw [q] at h1
  have : (-5 : Int32).toInt = -5 := by decide
  omega
theorem sub_iff (t o : Nat) : t &&& (t ^^^ (t &&& o)) = 0 ↔ t &&& o = t := by
  constructor
  · intro h
    apply Nat.eq_of_testBit_eq
    intro i
    have h1 := congrArg (fun z => z.testBit i) h
    (try dsimp only at h1)
    rw [Nat.testBit_and, Nat.testBit_xor, Nat.testBit_and, Nat.zero_testBit] at h1
    rw [Nat.testBit_and]
    cases h2 : t.testBit i <;> cases h3 : o.testBit i <;> simp [h2, h3] at h1 ⊢
  · intro h
    rw [h, Nat.xor_self, Nat.and_zero]
theorem sub_le {t o : Nat} (h : t &&& o = t) : t ≤ o := by
  rw [← h]
  exact Nat.and_le_right
theorem noth_lt {S : ns_T} (h : VS S) (j : Nat) : noth S j < 2 ^ S 0 0 := Nat.lt_of_le_of_lt Nat.and_le_left (nthere_lt h)
theorem noth_bit {S : ns_T} {j i : Nat} : (noth S j).testBit i = ((nthere S).testBit i && decide (i ≠ j)) := by
  unfold noth
  rw [Nat.testBit_and, Nat.testBit_xor, Nat.testBit_and, Nat.testBit_two_pow]
  by_cases e : j = i
  · rw [decide_eq_true e, decide_eq_false (fun q => q e.symm)]
    cases (nthere S).testBit i <;> rfl
  · have e1 : decide (i ≠ j) = true := decide_eq_true (fun q => e q.symm)
    rw [decide_eq_false e, e1]
    cases (nthere S).testBit i <;> rfl
theorem i_oth {S : ns_T} (h : VS S) {j : Nat} (hj : j < S 0 0) : nI (nthere S) &&& ((1 <<< (nI j &&& 31)) ^^^ (-1)) = nI (noth S j) := by
  have := nthere_lt h
  have := two_n h
  have := h.1
  rw [i_shl1 (by omega), not_i _ _ (by omega)]
  rfl
/-- if a set of others tells, then all others do -/
theorem Hp_all {p : Nat} (hp : gP p) {S : ns_T} (hV : VS S) {o j s : Nat} (hj : j < S 0 0) (h : Hp p S o j s) : nrk p S (o ||| 2 ^ j) = nrk p S o :=
  (tell_iff hp hV hj).mpr (tell_mono hp hV (fun i _ hb => by
    have h1 := congrArg (fun z => z.testBit i) h.1
    (try dsimp only at h1)
    rw [Nat.testBit_and, hb] at h1
    simpa using h1) ((tell_iff hp hV hj).mp h.2))
/-- a node is back: its help has been read -/
def nrep (S : ns_T) (j t : Nat) : ns_T := fun a k => if a = 0 ∧ k = 3 then S 0 3 &&& (S 0 3 ^^^ (S 0 3 &&& 2 ^ j)) else if a = 4 ∧ t.testBit k = true then min 9999 (S 4 k + 1) else S a k
theorem nrep_ne {S : ns_T} {j t a k : Nat} (h1 : ¬ (a = 0 ∧ k = 3)) (h2 : a ≠ 4) : nrep S j t a k = S a k := by
  unfold nrep
  rw [if_neg h1, if_neg (fun q => h2 q.1)]
theorem nrep_3 {S : ns_T} {j t : Nat} : nrep S j t 0 3 = S 0 3 &&& (S 0 3 ^^^ (S 0 3 &&& 2 ^ j)) := if_pos ⟨rfl, rfl⟩
theorem nrep_4 {S : ns_T} {j t k : Nat} : nrep S j t 4 k = if t.testBit k = true then min 9999 (S 4 k + 1) else S 4 k := by
  unfold nrep
  rw [if_neg (by omega)]
  by_cases h : t.testBit k = true
  · rw [if_pos ⟨rfl, h⟩, if_pos h]
  · rw [if_neg (fun q => h q.2), if_neg h]
theorem VS.rep {S : ns_T} (h : VS S) (j t : Nat) : VS (nrep S j t) := by
  obtain ⟨v1, v2, v3, v4, v5, v6, v7, v8⟩ := h
  have e0 : nrep S j t 0 0 = S 0 0 := nrep_ne (by omega) (by omega)
  have e1 : nrep S j t 0 1 = S 0 1 := nrep_ne (by omega) (by omega)
  have e2 : nrep S j t 0 2 = S 0 2 := nrep_ne (by omega) (by omega)
  unfold VS
  rw [e0, e1, e2, nrep_3]
  refine ⟨v1, v2, v3, v4, v5, Nat.lt_of_le_of_lt Nat.and_le_left v6, fun i hi => ?_, fun e he => ?_⟩
  · obtain ⟨u1, u2, u3, u4, u5, u6, u7, u8⟩ := v7 i hi
    rw [show nrep S j t 1 i = S 1 i from nrep_ne (by omega) (by omega), show nrep S j t 2 i = S 2 i from nrep_ne (by omega) (by omega), show nrep S j t 5 i = S 5 i from nrep_ne (by omega) (by omega), show nrep S j t 3 i = S 3 i from nrep_ne (by omega) (by omega), nrep_4]
    refine ⟨u1, u2, ?_, u4, fun q hq => by rw [nrep_ne (by omega) (by omega)]; exact u5 q hq, u6, u7, fun hw => by rw [nrep_ne (by omega) (by omega)]; exact u8 hw⟩
    rw [Nat.min_def]
    split
    · split <;> omega
    · exact u3
  · rw [show nrep S j t 8 e = S 8 e from nrep_ne (by omega) (by omega), show nrep S j t 3 (S 8 e) = S 3 (S 8 e) from nrep_ne (by omega) (by omega), show nrep S j t 7 e = S 7 e from nrep_ne (by omega) (by omega), show nrep S j t 5 (S 8 e) = S 5 (S 8 e) from nrep_ne (by omega) (by omega)]
    exact v8 e he
theorem nrk_nrep {p : Nat} {S : ns_T} {j t u : Nat} : nrk p (nrep S j t) u = nrk p S u := by
  have h : ∀ n, fl (nrep S j t) u n = fl S u n := by
    intro n
    induction n with
    | zero => rfl
    | succ n ih =>
      unfold fl
      rw [ih, nrep_ne (by omega) (by omega)]
  unfold nrk
  rw [h, nrep_ne (by omega) (by omega)]
theorem RKI.rep {σ : ex_S} {p : Nat} {S : ns_T} {j t : Nat} (h : RKI σ p S) : RKI σ p (nrep S j t) := fun u hu => by
  rw [nrk_nrep]
  exact h u (by rwa [nrep_ne (by omega) (by omega)] at hu)
