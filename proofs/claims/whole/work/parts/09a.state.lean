/-! THE STATE: nodes as a table of numbers S: 0 0 how many, 0 1 how many data, 0 2 the data as bits, 0 3 the missing as bits; 1 kind, 2 v, 3 which data (9: a parity), 4 reads, 5 form (four bits a number), 7 written, 8 the data's nodes, 20 + j the row of node j -/
abbrev ns_T : Type := Nat → Nat → Nat
def wI (w : Nat) : Int32 := if w = 9 then -5 else nI w
def nup (S : ns_T) (t k v : Nat) : ns_T := fun t' k' => if t' = t ∧ k' = k then v else S t' k'
theorem nup_same {S : ns_T} {t k v : Nat} : nup S t k v t k = v := if_pos ⟨rfl, rfl⟩
theorem nup_ne {S : ns_T} {t k v t' k' : Nat} (h : ¬ (t' = t ∧ k' = k)) : nup S t k v t' k' = S t' k' := if_neg h
def ncost (S : ns_T) (j : Nat) : Nat :=
  if S 1 j = 1 then max 1 ((S 2 j + 1) / 2) else
  if S 1 j = 2 then 2 * (S 2 j + 1) else
  if S 1 j = 3 then S 2 j + 1 + min 9 (S 4 j) else
  if S 1 j = 4 then (if S 4 j % 2 = 1 then 1 else max 1 ((S 2 j + 1) / 2)) else
  if S 1 j = 5 then 2 * (S 2 j + 1) + (if S 3 j = 9 then 5 else 0) else
  if S 1 j = 6 then S 2 j + 1 + min 9 (S 4 j) + S (20 + j) (S 4 j % 4) else S 2 j + 1
/-- what always holds of the nodes -/
def VS (S : ns_T) : Prop :=
  S 0 0 ≤ 10 ∧ S 0 1 ≤ 5 ∧ S 0 1 ≤ S 0 0 ∧ S 0 0 ≤ S 0 1 + 5 ∧ S 0 2 < 2 ^ S 0 0 ∧ S 0 3 < 2 ^ S 0 0 ∧
  (∀ j, j < S 0 0 → S 1 j < 7 ∧ S 2 j ≤ 9 ∧ S 4 j ≤ 9999 ∧ S 5 j < 2 ^ 20 ∧ (∀ q, q < 4 → S (20 + j) q ≤ 9) ∧ (S 3 j < S 0 1 ∨ S 3 j = 9) ∧ ((S 0 2).testBit j = decide (S 3 j ≠ 9)) ∧ (S 3 j < S 0 1 → S 8 (S 3 j) = j)) ∧
  (∀ e, e < S 0 1 → S 8 e < S 0 0 ∧ S 3 (S 8 e) = e ∧ S 7 e < 16 ∧ S 5 (S 8 e) = 2 ^ (4 * e))
/-- the class's nodes, at b -/
def NC (σ : ex_S) (b : Nat) (S : ns_T) : Prop :=
  σ b 0 = nI (S 0 0) ∧ σ b 1 = nI (S 0 1) ∧ σ b 2 = nI (S 0 2) ∧ σ b 3 = nI (S 0 3) ∧
  (∀ j, j < S 0 0 → σ (b + 1) j = nI (S 1 j) ∧ σ (b + 2) j = nI (S 2 j) ∧ σ (b + 3) j = wI (S 3 j) ∧ σ (b + 4) j = nI (S 5 j) ∧ σ (b + 5) j = nI (S 4 j) ∧ ∀ q, q < 4 → σ (b + 7 + j) q = nI (S (20 + j) q)) ∧
  (∀ e, e < S 0 1 → σ (b + 17) e = nI (S 8 e) ∧ σ (b + 18) e = nI (S 7 e))
/-- the reference's nodes -/
def NR (σ : ex_S) (S : ns_T) : Prop :=
  σ 127 5 = nI (S 0 0) ∧ σ 127 6 = nI (S 0 1) ∧ σ 127 7 = nI (S 0 0 - S 0 1) ∧
  (∀ j, j < S 0 0 → σ 131 j = nI (S 1 j) ∧ σ 132 j = nI (S 2 j) ∧ σ 133 j = wI (S 3 j) ∧ σ 134 j = nI (S 4 j) ∧ σ 135 j = nI (if (S 0 3).testBit j then 1 else 0) ∧ (∀ c, c < 5 → σ 136 (5 * j + c) = nI (nib (S 5 j) c)) ∧ ∀ q, q < 4 → σ 137 (4 * j + q) = nI (S (20 + j) q)) ∧
  (∀ e, e < S 0 1 → σ 138 e = nI (S 7 e) ∧ σ 139 e = nI (S 8 e))
theorem i_max {a b : Nat} (ha : a < 2 ^ 31) (hb : b < 2 ^ 31) : (if nI a < nI b then nI b else nI a) = nI (max a b) := by
  rw [Nat.max_def]
  by_cases h : a < b
  · rw [if_pos ((i_lt ha hb).mpr h), if_pos (by omega)]
  · rw [if_neg (fun q => h ((i_lt ha hb).mp q))]
    by_cases e : a = b
    · rw [if_pos (by omega), e]
    · rw [if_neg (by omega)]
theorem i_min {a b : Nat} (ha : a < 2 ^ 31) (hb : b < 2 ^ 31) : (if nI b < nI a then nI b else nI a) = nI (min a b) := by
  rw [Nat.min_def]
  by_cases h : b < a
  · rw [if_pos ((i_lt hb ha).mpr h), if_neg (by omega)]
  · rw [if_neg (fun q => h ((i_lt hb ha).mp q)), if_pos (by omega)]
theorem i_div2 {a : Nat} (ha : a < 2 ^ 31) : nI a / 2 = nI (a / 2) := pk_div ha (by decide) (by decide)
theorem i_rem {a d : Nat} (ha : a < 2 ^ 31) (h0 : 0 < d) (hd : d < 2 ^ 31) : nI a - nI a / nI d * nI d = nI (a % d) := pk_rem ha h0 hd
theorem i_and3 {n : Nat} (hn : n < 2 ^ 32) : nI n &&& 3 = nI (n % 4) := pk_andN hn 2 (by decide)
theorem wI_9 (w : Nat) (h : w < 9 ∨ w = 9) : wI w = -5 ↔ w = 9 := by
  unfold wI
  by_cases e : w = 9
  · rw [if_pos e]; exact ⟨fun _ => e, fun _ => rfl⟩
  · rw [if_neg e]
    constructor
    · intro q
      exfalso
      have h1 : (nI w).toInt = (w : Int) := i_toInt (by omega)
      rw [q] at h1
      have h2 : (-5 : Int32).toInt = -5 := by decide
      omega
    · intro q; exact absurd q e
theorem ncost_lt {S : ns_T} (h : VS S) {j : Nat} (hj : j < S 0 0) : ncost S j ≤ 40 ∧ 1 ≤ ncost S j := by
  obtain ⟨-, -, -, -, -, -, hv, -⟩ := h
  obtain ⟨a1, a2, a3, a4, a5, a6, -⟩ := hv j hj
  have a7 := a5 (S 4 j % 4) (Nat.mod_lt _ (by decide))
  unfold ncost
  simp only [Nat.max_def, Nat.min_def]
  repeat' split
  all_goals omega
def nsymF (p : Nat) (S : ns_T) (j : Nat) : Nat → Nat → Nat → Nat
  | 0, _, a => a
  | m + 1, e, a => nsymF p S j m (e + 1) (a ^^^ gmul p (S 7 e) (nib (S 5 j) e))
/-- SYMBOL -/
def nsym (p : Nat) (S : ns_T) (j : Nat) : Nat := nsymF p S j (S 0 1) 0 0
theorem nsymF_lt {p : Nat} (hp : gP p) {S : ns_T} (hw : ∀ e, e < S 0 1 → S 7 e < 16) (j : Nat) : ∀ (m e a : Nat), e + m ≤ S 0 1 → a < 16 → nsymF p S j m e a < 16
  | 0, _, _, _, ha => ha
  | m + 1, e, a, he, ha => nsymF_lt hp hw j m (e + 1) _ (by omega) (Nat.xor_lt_two_pow (n := 4) ha (gmul_lt hp _ (hw e (by omega)) _ (nib_lt _ _)))
theorem nsym_lt {p : Nat} (hp : gP p) {S : ns_T} (hV : VS S) (j : Nat) : nsym p S j < 16 := nsymF_lt hp (fun e he => (hV.2.2.2.2.2.2.2 e he).2.2.1) j _ _ _ (by omega) (by decide)
theorem i_nib {f e : Nat} (hf : f < 2 ^ 31) (he : e < 8) : ((nI f).toUInt32 >>> (((4 : Int32) * nI e).toUInt32 &&& Int32.toUInt32 31)).toInt32 &&& 15 = nI (nib f e) := by
  rw [show (4 : Int32) = nI 4 from rfl, i_mul, i_ushr (by omega) (by omega), i_and15 (Nat.lt_of_le_of_lt (Nat.div_le_self _ _) (by omega))]
  rfl
theorem i_lin5 (a b : Nat) : (5 : Int32) * nI a + nI b = nI (5 * a + b) := by
  rw [show (5 : Int32) = nI 5 from rfl, i_mul, i_add]
theorem i_lin4 (a b : Nat) : (4 : Int32) * nI a + nI b = nI (4 * a + b) := by
  rw [show (4 : Int32) = nI 4 from rfl, i_mul, i_add]
