/-! Int32 that are small numbers -/
theorem i_shr {n i : Nat} (hn : n < 2 ^ 31) (hi : i < 32) : nI n >>> (nI i &&& 31) = nI (n / 2 ^ i) := pk_shrN hn _ i (s_l i hi)
theorem i_shl {n i : Nat} (h : n * 2 ^ i < 2 ^ 32) (hi : i < 32) : nI n <<< (nI i &&& 31) = nI (n * 2 ^ i) := pk_shlN _ i (s_l i hi) h
theorem i_ushr {n i : Nat} (hn : n < 2 ^ 32) (hi : i < 32) : ((nI n).toUInt32 >>> ((nI i).toUInt32 &&& Int32.toUInt32 31)).toInt32 = nI (n / 2 ^ i) := pk_ushrN hn _ i (s_u i hi)
theorem i_and1 {n : Nat} (hn : n < 2 ^ 32) : nI n &&& 1 = nI (n % 2) := pk_andN hn 1 (by decide)
theorem i_and15 {n : Nat} (hn : n < 2 ^ 32) : nI n &&& 15 = nI (n % 16) := pk_andN hn 4 (by decide)
theorem i_eq {a b : Nat} (ha : a < 2 ^ 31) (hb : b < 2 ^ 31) : nI a = nI b ↔ a = b := nI_eq ha hb
theorem i_bit {n i : Nat} (hn : n < 2 ^ 31) (hi : i < 32) : (nI n >>> (nI i &&& 31)) &&& 1 = 0 ↔ n.testBit i = false := by
  rw [i_shr hn hi, i_and1 (Nat.lt_of_le_of_lt (Nat.div_le_self _ _) (by omega)), show (0 : Int32) = nI 0 from rfl, i_eq (by omega) (by omega), Nat.testBit_eq_decide_div_mod_eq]
  have : n / 2 ^ i % 2 < 2 := Nat.mod_lt _ (by decide)
  constructor
  · intro h; rw [h]; rfl
  · intro h
    have := of_decide_eq_false h
    omega
theorem i_bit1 {n i : Nat} (hn : n < 2 ^ 31) (hi : i < 32) : (nI n >>> (nI i &&& 31)) &&& 1 = 1 ↔ n.testBit i = true := by
  rw [i_shr hn hi, i_and1 (Nat.lt_of_le_of_lt (Nat.div_le_self _ _) (by omega)), show (1 : Int32) = nI 1 from rfl, i_eq (by omega) (by omega), Nat.testBit_eq_decide_div_mod_eq, decide_eq_true_iff]
theorem i_lt {a b : Nat} (ha : a < 2 ^ 31) (hb : b < 2 ^ 31) : nI a < nI b ↔ a < b := nI_ltI ha hb
theorem i_le {a b : Nat} (ha : a < 2 ^ 31) (hb : b < 2 ^ 31) : nI a ≤ nI b ↔ a ≤ b := nI_leI ha hb
theorem i_toInt {n : Nat} (h : n < 2 ^ 31) : (nI n).toInt = (n : Int) := nI_toInt h
theorem i_cl {n : Nat} (h : n < 2 ^ 31) : (nI n).toNatClampNeg = n := nI_clamp h
/-- a number between two small ones is small -/
theorem i_of {x : Int32} {m : Nat} (hm : m < 2 ^ 31) (h0 : 0 ≤ x) (h : x ≤ nI m) : ∃ j, j ≤ m ∧ x = nI j := by
  obtain ⟨j, h1, h2⟩ := nI_of (x := x) (Int32.not_lt.mpr h0)
  subst h2
  exact ⟨j, (i_le h1 hm).mp h, rfl⟩
theorem i_ofl {x : Int32} {m : Nat} (hm : m < 2 ^ 31) (h0 : 0 ≤ x) (h : x < nI m) : ∃ j, j < m ∧ x = nI j := by
  obtain ⟨j, h1, h2⟩ := nI_of (x := x) (Int32.not_lt.mpr h0)
  subst h2
  exact ⟨j, (i_lt h1 hm).mp h, rfl⟩
theorem i_nn {n : Nat} (h : n < 2 ^ 31) : 0 ≤ nI n := nI_pos' h
theorem i_in {x : Int32} {j N : Nat} (e : x = nI j) (h : j < N) (hN : N < 2 ^ 31) : vp_in x N := by
  subst e
  exact vp_in_nI h hN
theorem i_sub {a b : Nat} (h : b ≤ a) : nI a - nI b = nI (a - b) := pk_sub h
theorem i_mul (a b : Nat) : nI a * nI b = nI (a * b) := pk_mul a b
theorem i_add (a b : Nat) : nI a + nI b = nI (a + b) := nI_add a b
theorem tb_xor (b : Bool) (x y : Nat) : (if b then x ^^^ y else x) = x ^^^ (if b then y else 0) := by
  cases b
  · exact (Nat.xor_zero x).symm
  · rfl
/-- the class's product as its loop has it -/
def prR (p c : Nat) : Nat → Nat → Nat → Nat → Nat
  | 0, _, P, _ => P
  | m + 1, i, P, h => prR p c m (i + 1) (if c.testBit i then P ^^^ h else P) (xtN p h)
theorem prR_eq (p r c : Nat) : prR p c 4 0 0 r = prN p r c := by
  show (if c.testBit 3 then _ else _) = _
  simp only [tb_xor, Nat.zero_add, Nat.reduceAdd, Nat.zero_xor, prN]
theorem xt_i {p h : Nat} (hp : p < 2 ^ 31) (hh : h < 2 ^ 24) : ((nI h <<< ((1 : Int32) &&& 31)) &&& (-286331154)) ^^^ ((((nI h).toUInt32 >>> ((3 : Int32).toUInt32 &&& Int32.toUInt32 31)).toInt32 &&& 286331153) * (nI p &&& 15)) = nI (xtN p h) := by
  have e1 : nI h <<< ((1 : Int32) &&& 31) = nI (h * 2) := i_shl (i := 1) (by omega) (by decide)
  have e2 : ((nI h).toUInt32 >>> ((3 : Int32).toUInt32 &&& Int32.toUInt32 31)).toInt32 = nI (h / 8) := i_ushr (i := 3) (by omega) (by decide)
  rw [e1, e2, i_and15 (by omega), show (-286331154 : Int32) = nI 4008636142 from rfl, show (286331153 : Int32) = nI 286331153 from rfl, nx_and, nx_and, i_mul, nx_xor]
  rfl
-- the reference's product as its loops have it
def pdA (a b : Nat) : Nat → Nat → Nat → Nat
  | 0, _, S => S
  | m + 1, i, S => pdA a b m (i + 1) (if a.testBit i then S ^^^ (b * 2 ^ i) else S)
def pdB (p : Nat) : Nat → Nat → Nat
  | 0, S => S
  | m + 1, S => pdB p m (if S.testBit (m + 4) then S ^^^ (p * 2 ^ m) else S)
theorem pd_eq (p a b : Nat) : pdB p 3 (pdA a b 4 0 0) = gmul p a b := by
  have hA : pdA a b 4 0 0 = (if a.testBit 0 then b else 0) ^^^ (if a.testBit 1 then b <<< 1 else 0) ^^^ (if a.testBit 2 then b <<< 2 else 0) ^^^ (if a.testBit 3 then b <<< 3 else 0) := by
    show (if a.testBit 3 then _ else _) = _
    simp only [tb_xor, Nat.zero_add, Nat.reduceAdd, Nat.zero_xor, Nat.shiftLeft_eq, Nat.pow_zero, Nat.mul_one]
  have hB : ∀ S, pdB p 3 S = (let s := if S.testBit 6 then S ^^^ (p <<< 2) else S
      let s := if s.testBit 5 then s ^^^ (p <<< 1) else s
      if s.testBit 4 then s ^^^ p else s) := by
    intro S
    simp only [pdB, Nat.reduceAdd, Nat.shiftLeft_eq, Nat.pow_zero, Nat.mul_one, Nat.zero_add]
  rw [hB, hA]
  rfl
theorem pdA_lt (a b : Nat) (hb : b < 16) : ∀ (m i S : Nat), i + m = 4 → S < 2 ^ 7 → pdA a b m i S < 2 ^ 7
  | 0, _, _, _, hS => hS
  | m + 1, i, S, h, hS => by
    refine pdA_lt a b hb m (i + 1) _ (by omega) ?_
    split
    · refine Nat.xor_lt_two_pow hS ?_
      have : b * 2 ^ i ≤ 15 * 2 ^ 3 := Nat.mul_le_mul (by omega) (Nat.pow_le_pow_right (by decide) (by omega))
      omega
    · exact hS
