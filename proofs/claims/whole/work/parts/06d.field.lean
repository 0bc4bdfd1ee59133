/-! the FIELD's GENERATOR, powers, logarithms; cells that change -/
theorem sup_same {σ : ex_S} {i k : Nat} {v : Int32} : sup σ i k v i k = v := by
  unfold sup srow
  rw [if_pos rfl]
  exact pk_us
theorem sup_idx {σ : ex_S} {i k m : Nat} {v : Int32} (h : m ≠ k) : sup σ i k v i m = σ i m := by
  unfold sup srow
  rw [if_pos rfl]
  exact pk_un h
theorem sup_obj {σ : ex_S} {i k j : Nat} {v : Int32} (h : j ≠ i) : sup σ i k v j = σ j := by
  unfold sup srow
  exact if_neg h
theorem srow_same {σ : ex_S} {i : Nat} {f : Nat → Int32} : srow σ i f i = f := if_pos rfl
theorem srow_obj {σ : ex_S} {i j : Nat} {f : Nat → Int32} (h : j ≠ i) : srow σ i f j = σ j := if_neg h
theorem lrow_same {μ : ex_L} {i : Nat} {f : Nat → Int64} : lrow μ i f i = f := if_pos rfl
theorem lrow_obj {μ : ex_L} {i j : Nat} {f : Nat → Int64} (h : j ≠ i) : lrow μ i f j = μ j := if_neg h
def gordF (p g : Nat) : Nat → Nat → Nat → Nat
  | 0, _, n => n
  | m + 1, w, n => if w = 1 then n else gordF p g m (gmul p w g) (n + 1)
def gord (p g : Nat) : Nat := gordF p g 14 g 1
def ggenF (p : Nat) : Nat → Nat → Nat
  | 0, _ => 0
  | m + 1, g => if gord p g = 15 then g else ggenF p m (g + 1)
def ggen (p : Nat) : Nat := ggenF p 15 1
theorem ggen_ok {p : Nat} (h : gP p) : 2 ≤ ggen p ∧ ggen p < 16 ∧ (∀ g, 2 ≤ g → g < ggen p → gord p g < 15) ∧ gord p (ggen p) = 15 := by
  refine gP_all (Q := fun p => 2 ≤ ggen p ∧ ggen p < 16 ∧ (∀ g, 2 ≤ g → g < ggen p → gord p g < 15) ∧ gord p (ggen p) = 15) ?_ ?_ ?_ h
  · have e : ggen 19 = 2 := by decide +kernel
    rw [e]
    exact ⟨by decide, by decide, fun g h1 h2 => by omega, by decide +kernel⟩
  · have e : ggen 25 = 2 := by decide +kernel
    rw [e]
    exact ⟨by decide, by decide, fun g h1 h2 => by omega, by decide +kernel⟩
  · have e : ggen 31 = 3 := by decide +kernel
    rw [e]
    refine ⟨by decide, by decide, fun g h1 h2 => ?_, by decide +kernel⟩
    obtain rfl : g = 2 := by omega
    decide +kernel
/-- the powers come back to 1 -/
def gback (p g : Nat) : Nat → Nat → Prop
  | 0, w => w = 1
  | m + 1, w => w = 1 ∨ gback p g m (gmul p w g)
def gbackB (p g : Nat) : Nat → Nat → Bool
  | 0, w => decide (w = 1)
  | m + 1, w => decide (w = 1) || gbackB p g m (gmul p w g)
theorem gback_of {p g : Nat} : ∀ (m w : Nat), gbackB p g m w = true → gback p g m w
  | 0, w, h => of_decide_eq_true (p := w = 1) h
  | m + 1, w, h => by
    rcases Bool.or_eq_true_iff.mp h with h | h
    · exact Or.inl (of_decide_eq_true (p := w = 1) h)
    · exact Or.inr (gback_of m _ h)
theorem gback_ok {p : Nat} (h : gP p) {g : Nat} (h1 : 1 ≤ g) (h2 : g < 16) : gback p g 14 g := by
  refine gback_of _ _ ?_
  have : ∀ k, k < 15 → gbackB p (k + 1) 14 (k + 1) = true := gP_all (Q := fun p => ∀ k, k < 15 → gbackB p (k + 1) 14 (k + 1) = true) (by decide +kernel) (by decide +kernel) (by decide +kernel) h
  have h3 := this (g - 1) (by omega)
  rwa [show g - 1 + 1 = g by omega] at h3
def gpow (p a : Nat) : Nat → Nat
  | 0 => 1
  | n + 1 => gmul p (gpow p a n) a
abbrev gexp (p n : Nat) : Nat := gpow p (ggen p) n
theorem gpow_lt {p : Nat} (h : gP p) {a : Nat} (ha : a < 16) : ∀ n, gpow p a n < 16
  | 0 => (by decide : 1 < 16)
  | n + 1 => gmul_lt h _ (gpow_lt h ha n) _ ha
def glogF (p x : Nat) : Nat → Nat → Nat → Nat
  | 0, _, _ => 0
  | m + 1, n, w => if w = x then n else glogF p x m (n + 1) (gmul p w (ggen p))
def glog (p x : Nat) : Nat := glogF p x 15 0 1
theorem glog_exp {p : Nat} (h : gP p) : ∀ n, n < 15 → glog p (gexp p n) = n ∧ gexp p n ≠ 0 := gP_all (Q := fun p => ∀ n, n < 15 → glog p (gexp p n) = n ∧ gexp p n ≠ 0) (by decide +kernel) (by decide +kernel) (by decide +kernel) h
theorem glog_lt {p : Nat} (h : gP p) : ∀ x, x < 16 → glog p x < 15 ∧ (x ≠ 0 → gexp p (glog p x) = x) := gP_all (Q := fun p => ∀ x, x < 16 → glog p x < 15 ∧ (x ≠ 0 → gexp p (glog p x) = x)) (by decide +kernel) (by decide +kernel) (by decide +kernel) h
/-- a by b -/
def gdiv (p a b : Nat) : Nat := gmul p a (ginv p b)
theorem gdiv_ok {p : Nat} (h : gP p) : ∀ a, a < 16 → ∀ b, b < 16 → b ≠ 0 → gdiv p a b = if a = 0 then 0 else gexp p ((glog p a + 15 - glog p b) % 15) := gP_all (Q := fun p => ∀ a, a < 16 → ∀ b, b < 16 → b ≠ 0 → gdiv p a b = if a = 0 then 0 else gexp p ((glog p a + 15 - glog p b) % 15)) (by decide +kernel) (by decide +kernel) (by decide +kernel) h
theorem gdiv_lt {p : Nat} (h : gP p) {a b : Nat} (ha : a < 16) (hb : b < 16) : gdiv p a b < 16 := gmul_lt h _ ha _ (ginv_ok h b hb).1
theorem gpow_add {p : Nat} (h : gP p) {a : Nat} (ha : a < 16) (m : Nat) : ∀ n, gpow p a (m + n) = gmul p (gpow p a m) (gpow p a n)
  | 0 => (gmul_one h _ (gpow_lt h ha m)).symm
  | n + 1 => by
    show gmul p (gpow p a (m + n)) a = gmul p (gpow p a m) (gmul p (gpow p a n) a)
    rw [gpow_add h ha m n, gmul_assoc h _ (gpow_lt h ha m) _ (gpow_lt h ha n) _ ha]
theorem gpow_15 {p : Nat} (h : gP p) : ∀ a, a < 16 → a ≠ 0 → gpow p a 15 = 1 := gP_all (Q := fun p => ∀ a, a < 16 → a ≠ 0 → gpow p a 15 = 1) (by decide +kernel) (by decide +kernel) (by decide +kernel) h
theorem gpow_mod {p : Nat} (h : gP p) {a : Nat} (ha : a < 16) (h0 : a ≠ 0) (n : Nat) : gpow p a n = gpow p a (n % 15) := by
  have hk : ∀ q r, gpow p a (15 * q + r) = gpow p a r := by
    intro q
    induction q with
    | zero => intro r; rw [Nat.mul_zero, Nat.zero_add]
    | succ q ih =>
      intro r
      rw [show 15 * (q + 1) + r = 15 + (15 * q + r) by omega, gpow_add h ha 15, gpow_15 h a ha h0, gmul_comm h _ (by decide) _ (gpow_lt h ha _), gmul_one h _ (gpow_lt h ha _), ih]
  have := hk (n / 15) (n % 15)
  rwa [Nat.div_add_mod] at this
theorem gpow_log {p : Nat} (h : gP p) {a : Nat} (ha : a < 16) (h0 : a ≠ 0) (n : Nat) : gpow p a n = gexp p (glog p a * n % 15) := by
  have hd : ∀ a, a < 16 → a ≠ 0 → ∀ n, n < 15 → gpow p a n = gexp p (glog p a * n % 15) := gP_all (Q := fun p => ∀ a, a < 16 → a ≠ 0 → ∀ n, n < 15 → gpow p a n = gexp p (glog p a * n % 15)) (by decide +kernel) (by decide +kernel) (by decide +kernel) h
  rw [gpow_mod h ha h0, hd a ha h0 _ (Nat.mod_lt _ (by decide))]
  congr 1
  rw [Nat.mul_mod, Nat.mod_mod, ← Nat.mul_mod]
theorem gpow_of0 {p : Nat} (h : gP p) : ∀ n, n ≠ 0 → gpow p 0 n = 0
  | 0, h0 => absurd rfl h0
  | n + 1, _ => by
    show gmul p (gpow p 0 n) 0 = 0
    rw [gmul_zero h _ (gpow_lt h (by decide) n)]
/-- the class has the FIELD by p; the reference has it -/
def FC (σ : ex_S) (p : Nat) : Prop := σ 1 0 = nI p ∧ σ 1 1 = nI (ggen p) ∧ ∀ j, j < 16 → σ 2 j = nI (ginv p j)
def FR (σ : ex_S) (p : Nat) : Prop := σ 127 0 = nI p ∧ σ 127 1 = nI (ggen p) ∧ (∀ a, a < 16 → ∀ b, b < 16 → σ 128 (16 * a + b) = nI (gmul p a b)) ∧ (∀ n, n < 15 → σ 129 n = nI (gexp p n)) ∧ ∀ x, x < 16 → x ≠ 0 → σ 130 x = nI (glog p x)
def NumbersAt (T : List ex_T) : Prop := T[1]? = some (.inl (4, [none, none, some (some 2)])) ∧ T[2]? = some (.inr (0, 16, []))
theorem numbers_0 {T : List ex_T} (h : NumbersAt T) : T[1]? = some (.inl (4, [none, none, some (some 2)])) := h.1
theorem numbers_1 {T : List ex_T} (h : NumbersAt T) : T[2]? = some (.inr (0, 16, [])) := h.2
theorem numbers_TT : NumbersAt TT := ⟨rfl, rfl⟩
