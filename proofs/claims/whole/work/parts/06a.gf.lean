/-! THE FIELD of 16 numbers, on Nats; rows of numbers, four bits each -/
def gmul (p a b : Nat) : Nat :=
  let s := (if a.testBit 0 then b else 0) ^^^ (if a.testBit 1 then b <<< 1 else 0) ^^^ (if a.testBit 2 then b <<< 2 else 0) ^^^ (if a.testBit 3 then b <<< 3 else 0)
  let s := if s.testBit 6 then s ^^^ (p <<< 2) else s
  let s := if s.testBit 5 then s ^^^ (p <<< 1) else s
  if s.testBit 4 then s ^^^ p else s
/-- POLY is one of these -/
def gP (p : Nat) : Prop := p = 19 ∨ p = 25 ∨ p = 31
theorem gP_all {Q : Nat → Prop} (h1 : Q 19) (h2 : Q 25) (h3 : Q 31) {p : Nat} (h : gP p) : Q p := by
  rcases h with rfl | rfl | rfl <;> assumption
theorem gmul_lt {p : Nat} (h : gP p) : ∀ a, a < 16 → ∀ b, b < 16 → gmul p a b < 16 := gP_all (Q := fun p => ∀ a, a < 16 → ∀ b, b < 16 → gmul p a b < 16) (by decide +kernel) (by decide +kernel) (by decide +kernel) h
theorem gmul_comm {p : Nat} (h : gP p) : ∀ a, a < 16 → ∀ b, b < 16 → gmul p a b = gmul p b a := gP_all (Q := fun p => ∀ a, a < 16 → ∀ b, b < 16 → gmul p a b = gmul p b a) (by decide +kernel) (by decide +kernel) (by decide +kernel) h
theorem gmul_assoc {p : Nat} (h : gP p) : ∀ a, a < 16 → ∀ b, b < 16 → ∀ c, c < 16 → gmul p (gmul p a b) c = gmul p a (gmul p b c) := gP_all (Q := fun p => ∀ a, a < 16 → ∀ b, b < 16 → ∀ c, c < 16 → gmul p (gmul p a b) c = gmul p a (gmul p b c)) (by decide +kernel) (by decide +kernel) (by decide +kernel) h
theorem gmul_dist {p : Nat} (h : gP p) : ∀ a, a < 16 → ∀ b, b < 16 → ∀ c, c < 16 → gmul p a (b ^^^ c) = gmul p a b ^^^ gmul p a c := gP_all (Q := fun p => ∀ a, a < 16 → ∀ b, b < 16 → ∀ c, c < 16 → gmul p a (b ^^^ c) = gmul p a b ^^^ gmul p a c) (by decide +kernel) (by decide +kernel) (by decide +kernel) h
theorem gmul_one {p : Nat} (h : gP p) : ∀ a, a < 16 → gmul p a 1 = a := gP_all (Q := fun p => ∀ a, a < 16 → gmul p a 1 = a) (by decide +kernel) (by decide +kernel) (by decide +kernel) h
theorem gmul_zero {p : Nat} (h : gP p) : ∀ a, a < 16 → gmul p a 0 = 0 := gP_all (Q := fun p => ∀ a, a < 16 → gmul p a 0 = 0) (by decide +kernel) (by decide +kernel) (by decide +kernel) h
theorem gmul_dist2 {p : Nat} (h : gP p) {a b c : Nat} (ha : a < 16) (hb : b < 16) (hc : c < 16) : gmul p (a ^^^ b) c = gmul p a c ^^^ gmul p b c := by
  have hx : a ^^^ b < 16 := Nat.xor_lt_two_pow (n := 4) ha hb
  rw [gmul_comm h _ hx _ hc, gmul_dist h _ hc _ ha _ hb, gmul_comm h _ hc _ ha, gmul_comm h _ hc _ hb]
/-- the least number that times a is 1 (0: none) -/
def ginvF (p a : Nat) : Nat → Nat → Nat
  | 0, _ => 0
  | m + 1, o => if gmul p a o = 1 then o else ginvF p a m (o + 1)
def ginv (p a : Nat) : Nat := ginvF p a 15 1
theorem ginv_ok {p : Nat} (h : gP p) : ∀ a, a < 16 → ginv p a < 16 ∧ (a ≠ 0 → gmul p a (ginv p a) = 1) ∧ (a = 0 → ginv p a = 0) := gP_all (Q := fun p => ∀ a, a < 16 → ginv p a < 16 ∧ (a ≠ 0 → gmul p a (ginv p a) = 1) ∧ (a = 0 → ginv p a = 0)) (by decide +kernel) (by decide +kernel) (by decide +kernel) h
/-- whether it is a FIELD -/
def gfield (p : Nat) : Bool := (List.range 15).all fun k => decide (ginv p (k + 1) ≠ 0)
theorem gfield_iff : ∀ p, 16 ≤ p ∧ p ≤ 31 → (gfield p = true ↔ gP p) := by
  intro p h
  have h2 : ∀ k, k < 16 → (gfield (16 + k) = true ↔ (16 + k = 19 ∨ 16 + k = 25 ∨ 16 + k = 31)) := by decide +kernel
  have h3 := h2 (p - 16) (by omega)
  rw [show 16 + (p - 16) = p by omega] at h3
  exact h3
-- digits
def nib (x q : Nat) : Nat := x / 2 ^ (4 * q) % 16
theorem nib_lt (x q : Nat) : nib x q < 16 := Nat.mod_lt _ (by decide)
theorem nib_xor (a b q : Nat) : nib (a ^^^ b) q = nib a q ^^^ nib b q := by
  unfold nib
  rw [Nat.xor_div_two_pow, show 16 = 2 ^ 4 from rfl, Nat.xor_mod_two_pow]
theorem nib_and (a b q : Nat) : nib (a &&& b) q = nib a q &&& nib b q := by
  unfold nib
  rw [Nat.and_div_two_pow, show 16 = 2 ^ 4 from rfl, Nat.and_mod_two_pow]
theorem nib_0 (q : Nat) : nib 0 q = 0 := by
  unfold nib
  rw [Nat.zero_div]
theorem nib_big {x q n : Nat} (h : x < 2 ^ (4 * n)) (hq : n ≤ q) : nib x q = 0 := by
  unfold nib
  rw [Nat.div_eq_of_lt (Nat.lt_of_lt_of_le h (Nat.pow_le_pow_right (by decide) (by omega)))]
theorem nib_ext {x y : Nat} (h : ∀ q, nib x q = nib y q) : x = y := by
  apply Nat.eq_of_testBit_eq
  intro i
  have e : ∀ z : Nat, z.testBit i = (nib z (i / 4)).testBit (i % 4) := by
    intro z
    unfold nib
    have h4 : i % 4 < 4 := Nat.mod_lt _ (by decide)
    rw [show (16 : Nat) = 2 ^ 4 from rfl, Nat.testBit_mod_two_pow, Nat.testBit_div_two_pow, decide_eq_true h4, Bool.true_and]
    congr 1
    omega
  rw [e x, e y, h]
theorem nib_ext6 {x y : Nat} (hx : x < 2 ^ 24) (hy : y < 2 ^ 24) (h : ∀ q, q < 6 → nib x q = nib y q) : x = y := by
  apply nib_ext
  intro q
  by_cases hq : q < 6
  · exact h q hq
  · rw [nib_big (n := 6) hx (by omega), nib_big (n := 6) hy (by omega)]
theorem nib_sum {x : Nat} (h : x < 2 ^ 24) : x = nib x 0 + 16 * nib x 1 + 256 * nib x 2 + 4096 * nib x 3 + 65536 * nib x 4 + 1048576 * nib x 5 := by
  unfold nib
  simp only [Nat.reduceMul, Nat.reducePow, Nat.div_one]
  omega
theorem nib_of {a0 a1 a2 a3 a4 a5 : Nat} (h0 : a0 < 16) (h1 : a1 < 16) (h2 : a2 < 16) (h3 : a3 < 16) (h4 : a4 < 16) (h5 : a5 < 16) :
    let x := a0 + 16 * a1 + 256 * a2 + 4096 * a3 + 65536 * a4 + 1048576 * a5
    x < 2 ^ 24 ∧ nib x 0 = a0 ∧ nib x 1 = a1 ∧ nib x 2 = a2 ∧ nib x 3 = a3 ∧ nib x 4 = a4 ∧ nib x 5 = a5 := by
  dsimp only
  unfold nib
  simp only [Nat.reduceMul, Nat.reducePow, Nat.div_one]
  omega
/-- a row of six numbers, each times c -/
def gsc (p r c : Nat) : Nat := gmul p (nib r 0) c + 16 * gmul p (nib r 1) c + 256 * gmul p (nib r 2) c + 4096 * gmul p (nib r 3) c + 65536 * gmul p (nib r 4) c + 1048576 * gmul p (nib r 5) c
theorem lt6 {q : Nat} (h : q < 6) : q = 0 ∨ q = 1 ∨ q = 2 ∨ q = 3 ∨ q = 4 ∨ q = 5 := by omega
theorem gsc_lt {p : Nat} (h : gP p) {r c : Nat} (hc : c < 16) : gsc p r c < 2 ^ 24 :=
  (nib_of (gmul_lt h _ (nib_lt r 0) _ hc) (gmul_lt h _ (nib_lt r 1) _ hc) (gmul_lt h _ (nib_lt r 2) _ hc) (gmul_lt h _ (nib_lt r 3) _ hc) (gmul_lt h _ (nib_lt r 4) _ hc) (gmul_lt h _ (nib_lt r 5) _ hc)).1
theorem gsc_nib {p : Nat} (h : gP p) {r c q : Nat} (hc : c < 16) (hq : q < 6) : nib (gsc p r c) q = gmul p (nib r q) c := by
  have g := (nib_of (gmul_lt h _ (nib_lt r 0) _ hc) (gmul_lt h _ (nib_lt r 1) _ hc) (gmul_lt h _ (nib_lt r 2) _ hc) (gmul_lt h _ (nib_lt r 3) _ hc) (gmul_lt h _ (nib_lt r 4) _ hc) (gmul_lt h _ (nib_lt r 5) _ hc)).2
  rcases lt6 hq with rfl | rfl | rfl | rfl | rfl | rfl
  · exact g.1
  · exact g.2.1
  · exact g.2.2.1
  · exact g.2.2.2.1
  · exact g.2.2.2.2.1
  · exact g.2.2.2.2.2
-- the class's product, of a whole row at once
def xtN (p h : Nat) : Nat := ((h * 2) &&& 4008636142) ^^^ (((h / 8) &&& 286331153) * (p % 16))
theorem xt_nib {p h q : Nat} (hh : h < 2 ^ 24) (hq : q < 6) : nib (xtN p h) q = (2 * nib h q % 16) ^^^ (nib h q / 8 * (p % 16)) := by
  unfold xtN
  rw [nib_xor, nib_and]
  have hM : ∀ q, q < 6 → nib 4008636142 q = 14 := by decide +kernel
  have hO : ∀ q, q < 6 → nib 286331153 q = 1 := by decide +kernel
  have hk : p % 16 < 16 := Nat.mod_lt _ (by decide)
  generalize p % 16 = k at hk ⊢
  rw [hM q hq]
  congr 1
  · have h1 : ∀ z, z < 16 → ∀ c, c < 2 → (2 * z + c) % 16 &&& 14 = 2 * z % 16 := by decide +kernel
    have h2 : nib (h * 2) q = (2 * nib h q + (h * 2 / 2 ^ (4 * q)) % 2) % 16 := by
      unfold nib
      have : h * 2 / 2 ^ (4 * q) / 2 = h / 2 ^ (4 * q) := by
        rw [Nat.div_div_eq_div_mul, Nat.mul_comm (2 ^ (4 * q)) 2, ← Nat.div_div_eq_div_mul, Nat.mul_div_cancel _ (by decide)]
      omega
    rw [h2]
    exact h1 _ (nib_lt h q) _ (Nat.mod_lt _ (by decide))
  · have hx : ∀ j, j < 6 → nib ((h / 8) &&& 286331153) j = nib h j / 8 := by
      intro j hj
      rw [nib_and, hO j hj]
      have h1 : nib (h / 8) j &&& 1 = nib (h / 8) j % 2 := by rw [show (1 : Nat) = 2 ^ 1 - 1 from rfl, Nat.and_two_pow_sub_one_eq_mod]
      rw [h1]
      unfold nib
      have : h / 8 / 2 ^ (4 * j) = h / 2 ^ (4 * j) / 8 := by rw [Nat.div_div_eq_div_mul, Nat.mul_comm, ← Nat.div_div_eq_div_mul]
      omega
    have hlt : (h / 8) &&& 286331153 < 2 ^ 24 := by
      have h1 := Nat.and_le_left (n := h / 8) (m := 286331153)
      omega
    rw [← hx q hq]
    have hle : ∀ j, j < 6 → nib ((h / 8) &&& 286331153) j ≤ 1 := by
      intro j hj
      rw [hx j hj]
      have := nib_lt h j
      omega
    generalize (h / 8) &&& 286331153 = X at hlt hle
    have hs := nib_sum hlt
    have hm : X * k = nib X 0 * k + 16 * (nib X 1 * k) + 256 * (nib X 2 * k) + 4096 * (nib X 3 * k) + 65536 * (nib X 4 * k) + 1048576 * (nib X 5 * k) := by
      conv => lhs; rw [hs]
      simp only [Nat.add_mul, Nat.mul_assoc]
    have hb : ∀ j, j < 6 → nib X j * k < 16 := by
      intro j hj
      have h1 := hle j hj
      rcases (show nib X j = 0 ∨ nib X j = 1 by omega) with e | e <;> rw [e] <;> omega
    have g := nib_of (hb 0 (by decide)) (hb 1 (by decide)) (hb 2 (by decide)) (hb 3 (by decide)) (hb 4 (by decide)) (hb 5 (by decide))
    dsimp only at g
    rw [← hm] at g
    rcases lt6 hq with rfl | rfl | rfl | rfl | rfl | rfl
    · exact g.2.1
    · exact g.2.2.1
    · exact g.2.2.2.1
    · exact g.2.2.2.2.1
    · exact g.2.2.2.2.2.1
    · exact g.2.2.2.2.2.2
theorem xt_lt {p h : Nat} (hh : h < 2 ^ 24) : xtN p h < 2 ^ 24 := by
  unfold xtN
  have h1 : (h * 2) &&& 4008636142 < 2 ^ 24 := by
    have e1 : (h * 2) &&& 4008636142 = ((h * 2) &&& 4008636142) % 2 ^ 25 := by
      rw [Nat.mod_eq_of_lt]
      have := Nat.and_le_left (n := h * 2) (m := 4008636142)
      omega
    rw [e1, Nat.and_mod_two_pow]
    have := Nat.and_le_right (n := h * 2 % 2 ^ 25) (m := 4008636142 % 2 ^ 25)
    omega
  have h2 : ((h / 8) &&& 286331153) * (p % 16) < 2 ^ 24 := by
    have e1 : (h / 8) &&& 286331153 ≤ 1118481 := by
      have e2 : (h / 8) &&& 286331153 = ((h / 8) &&& 286331153) % 2 ^ 21 := by
        rw [Nat.mod_eq_of_lt]
        have := Nat.and_le_left (n := h / 8) (m := 286331153)
        omega
      rw [e2, Nat.and_mod_two_pow]
      have := Nat.and_le_right (n := h / 8 % 2 ^ 21) (m := 286331153 % 2 ^ 21)
      omega
    have h4 : p % 16 ≤ 15 := by omega
    have := Nat.mul_le_mul e1 h4
    omega
  exact Nat.xor_lt_two_pow h1 h2
def prN (p r c : Nat) : Nat := (if c.testBit 0 then r else 0) ^^^ (if c.testBit 1 then xtN p r else 0) ^^^ (if c.testBit 2 then xtN p (xtN p r) else 0) ^^^ (if c.testBit 3 then xtN p (xtN p (xtN p r)) else 0)
def xt1 (p a : Nat) : Nat := (2 * a % 16) ^^^ (a / 8 * (p % 16))
theorem xt_nib1 {p h q : Nat} (hh : h < 2 ^ 24) (hq : q < 6) : nib (xtN p h) q = xt1 p (nib h q) := xt_nib hh hq
theorem prN_nib {p : Nat} (hp : 16 ≤ p ∧ p < 32) {r c q : Nat} (hr : r < 2 ^ 24) (hc : c < 16) (hq : q < 6) : nib (prN p r c) q = gmul p (nib r q) c := by
  have h1 := xt_nib1 (p := p) hr hq
  have l1 := xt_lt (p := p) hr
  have h2 := xt_nib1 (p := p) l1 hq
  have l2 := xt_lt (p := p) l1
  have h3 := xt_nib1 (p := p) l2 hq
  unfold prN
  have hif : ∀ (b : Bool) (x : Nat), nib (if b then x else 0) q = if b then nib x q else 0 := by
    intro b x
    cases b
    · exact nib_0 q
    · rfl
  rw [nib_xor, nib_xor, nib_xor, hif, hif, hif, hif, h3, h2, h1]
  have hd : ∀ k, k < 16 → ∀ a, a < 16 → ∀ c, c < 16 → (((if c.testBit 0 then a else 0) ^^^ (if c.testBit 1 then xt1 (16 + k) a else 0)) ^^^ (if c.testBit 2 then xt1 (16 + k) (xt1 (16 + k) a) else 0)) ^^^ (if c.testBit 3 then xt1 (16 + k) (xt1 (16 + k) (xt1 (16 + k) a)) else 0) = gmul (16 + k) a c := by decide +kernel
  have h := hd (p - 16) (by omega) (nib r q) (nib_lt r q) c hc
  rw [show 16 + (p - 16) = p by omega] at h
  exact h
theorem prN_lt {p r c : Nat} (hr : r < 2 ^ 24) : prN p r c < 2 ^ 24 := by
  have l1 := xt_lt (p := p) hr
  have l2 := xt_lt (p := p) l1
  have l3 := xt_lt (p := p) l2
  have hif : ∀ (b : Bool) (x : Nat), x < 2 ^ 24 → (if b then x else 0) < 2 ^ 24 := by
    intro b x hx
    cases b
    · exact Nat.two_pow_pos 24
    · exact hx
  unfold prN
  exact Nat.xor_lt_two_pow (Nat.xor_lt_two_pow (Nat.xor_lt_two_pow (hif _ _ hr) (hif _ _ l1)) (hif _ _ l2)) (hif _ _ l3)
theorem prN_gsc {p : Nat} (hp : gP p) {r c : Nat} (hr : r < 2 ^ 24) (hc : c < 16) : prN p r c = gsc p r c :=
  nib_ext6 (prN_lt hr) (gsc_lt hp hc) fun q hq => (prN_nib (by rcases hp with rfl | rfl | rfl <;> omega) hr hc hq).trans (gsc_nib hp hc hq).symm
theorem prN_small {p : Nat} (hp : 16 ≤ p ∧ p < 32) {a c : Nat} (ha : a < 16) (hc : c < 16) : prN p a c = gmul p a c := by
  have hd : ∀ k, k < 16 → ∀ a, a < 16 → ∀ c, c < 16 → prN (16 + k) a c = gmul (16 + k) a c := by decide +kernel
  have h := hd (p - 16) (by omega) a ha c hc
  rw [show 16 + (p - 16) = p by omega] at h
  exact h
