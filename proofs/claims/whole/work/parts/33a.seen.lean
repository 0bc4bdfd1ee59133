/-! SEEN: rows with the SYMBOL at place 0, the number for DATA d at place d + 1 -/
def dsum (p v y : Nat) : Nat → Nat
  | 0 => 0
  | n + 1 => dsum p v y n ^^^ gmul p (nib v n) (nib y n)
theorem dsum_lt {p : Nat} (h : gP p) (v y : Nat) : ∀ n, dsum p v y n < 16
  | 0 => (by decide : 0 < 16)
  | n + 1 => Nat.xor_lt_two_pow (n := 4) (dsum_lt h v y n) (gmul_lt h _ (nib_lt _ _) _ (nib_lt _ _))
theorem dsum_xor {p : Nat} (h : gP p) (a b y : Nat) : ∀ n, dsum p (a ^^^ b) y n = dsum p a y n ^^^ dsum p b y n
  | 0 => by
    show (0 : Nat) = 0 ^^^ 0
    rw [Nat.xor_self]
  | n + 1 => by
    show dsum p (a ^^^ b) y n ^^^ _ = (dsum p a y n ^^^ _) ^^^ (dsum p b y n ^^^ _)
    rw [dsum_xor h a b y n, nib_xor, gmul_dist2 h (nib_lt _ _) (nib_lt _ _) (nib_lt _ _), x4']
theorem dsum_gsc {p : Nat} (h : gP p) (r y : Nat) {c : Nat} (hc : c < 16) : ∀ n, n ≤ 6 → dsum p (gsc p r c) y n = gmul p (dsum p r y n) c
  | 0, _ => by
    show 0 = gmul p 0 c
    rw [gmul_comm h _ (by decide) _ hc, gmul_zero h _ hc]
  | n + 1, hn => by
    show dsum p (gsc p r c) y n ^^^ _ = gmul p (dsum p r y n ^^^ _) c
    rw [dsum_gsc h r y hc n (by omega), gsc_nib h hc (by omega), gmul_dist2 h (dsum_lt h r y n) (gmul_lt h _ (nib_lt _ _) _ (nib_lt _ _)) hc, gmul_assoc h _ (nib_lt _ _) _ hc _ (nib_lt _ _), gmul_assoc h _ (nib_lt _ _) _ (nib_lt _ _) _ hc, gmul_comm h c hc _ (nib_lt _ _)]
theorem dsum_0 {p : Nat} (h : gP p) (y : Nat) : ∀ n, dsum p 0 y n = 0
  | 0 => rfl
  | n + 1 => by
    show dsum p 0 y n ^^^ _ = 0
    rw [dsum_0 h y n, nib_0, gmul_comm h _ (by decide) _ (nib_lt _ _), gmul_zero h _ (nib_lt _ _)]
    rfl
theorem dsum_sp {p : Nat} (h : gP p) {y : Nat} : ∀ {W : List Nat} {v : Nat}, (∀ w ∈ W, dsum p w y 6 = 0) → Sp p W v → dsum p v y 6 = 0
  | [], v, _, hv => by
    rw [show v = 0 from hv]
    exact dsum_0 h y 6
  | w :: W, v, hw, ⟨c, hc, hv⟩ => by
    have h1 := dsum_sp h (fun x hx => hw x (List.mem_cons_of_mem _ hx)) hv
    rw [dsum_xor h, dsum_gsc h w y hc 6 (Nat.le_refl 6), hw w List.mem_cons_self, gmul_comm h _ (by decide) _ hc, gmul_zero h _ hc, Nat.xor_zero] at h1
    exact h1
theorem dsum_hi {p : Nat} (h : gP p) {v y n : Nat} : ∀ m, (∀ q, n ≤ q → q < n + m → nib v q = 0) → dsum p v y (n + m) = dsum p v y n
  | 0, _ => rfl
  | m + 1, hz => by
    show dsum p v y (n + m) ^^^ gmul p (nib v (n + m)) (nib y (n + m)) = _
    rw [dsum_hi h m (fun q h1 h2 => hz q h1 (by omega)), hz (n + m) (by omega) (by omega), gmul_comm h _ (by decide) _ (nib_lt _ _), gmul_zero h _ (nib_lt _ _), Nat.xor_zero]
theorem dsum_cg {p v y y' : Nat} : ∀ {n : Nat}, (∀ q, q < n → nib y q = nib y' q) → dsum p v y n = dsum p v y' n
  | 0, _ => rfl
  | n + 1, hq => by
    show dsum p v y n ^^^ _ = dsum p v y' n ^^^ _
    rw [dsum_cg (fun q hq' => hq q (by omega)), hq n (by omega)]
/-- no row of the span is a symbol alone -/
def Cons (p : Nat) (W : List Nat) : Prop := ¬ Sp p W 1
def Sol (p : Nat) (W : List Nat) (y : Nat) : Prop := nib y 0 = 1 ∧ ∀ w ∈ W, dsum p w y 6 = 0
theorem nib_1 : ∀ q, q < 6 → nib 1 q = if q = 0 then 1 else 0 := by decide +kernel
theorem g11 {p : Nat} (h : gP p) : gmul p 1 1 = 1 := gmul_one h 1 (by decide)
theorem dsum_1 {p : Nat} (h : gP p) {y : Nat} (hy : nib y 0 = 1) : dsum p 1 y 6 = 1 := by
  have e := dsum_hi h (v := 1) (y := y) (n := 1) 5 (fun q h1 h2 => by rw [nib_1 q (by omega), if_neg (by omega)])
  rw [show 1 + 5 = 6 from rfl] at e
  rw [e]
  show 0 ^^^ gmul p (nib 1 0) (nib y 0) = 1
  rw [hy, nib_1 0 (by decide), if_pos rfl, g11 h]
  rfl
theorem Sol.cons {p : Nat} (h : gP p) {W : List Nat} {y : Nat} (hs : Sol p W y) : Cons p W := fun q => by
  have h1 := dsum_sp h hs.2 q
  rw [dsum_1 h hs.1] at h1
  exact absurd h1 (by decide)
theorem SpI_ex {p : Nat} (h : gP p) : ∀ {W : List Nat}, Vs W → ∃ R, SpI p R W
  | [], _ => ⟨_, SpI_nil p⟩
  | w :: W, hV => by
    obtain ⟨R, hI⟩ := SpI_ex h hV.tl
    have hw := hV w List.mem_cons_self
    by_cases hs : Sp p W w
    · exact ⟨R, SpI_told h hI hw hs⟩
    · have h0 : lf p R 6 w ≠ 0 := fun q => hs ((lf_iff h hI hw).mp q)
      obtain ⟨q, hq, hl⟩ := ld_ex (lf_lt h 6 w hw) h0
      refine ⟨fun j => if j = q then gsc p (lf p R 6 w) (ginv p (nib (lf p R 6 w) q)) else R j, ?_⟩
      exact (SpI_new h hI hw hq hl (R' := fun j => if j = q then gsc p (lf p R 6 w) (ginv p (nib (lf p R 6 w) q)) else R j) (by exact if_pos rfl) (fun j _ hj => by exact if_neg hj)).1
theorem R0_cons {p : Nat} {R : Nat → Nat} {W : List Nat} (hI : SpI p R W) : R 0 = 0 ↔ Cons p W := by
  obtain ⟨i1, i2, i3, i4⟩ := hI
  constructor
  · intro h0 hs
    refine i4 0 (by decide) ⟨1, by decide, hs, ?_, fun j h1 h2 => ?_⟩ h0
    · rw [nib_1 0 (by decide), if_pos rfl]; decide
    · rw [nib_1 j h2, if_neg (by omega)]
  · intro hc
    cases Nat.eq_zero_or_pos (R 0) with
    | inl z => exact z
    | inr z =>
      exfalso
      have hne : R 0 ≠ 0 := by omega
      obtain ⟨e1, e2⟩ := (i2 0 (by decide)).2 hne
      have e : R 0 = 1 := nib_ext6 (i2 0 (by decide)).1 (by decide) (fun q hq => by
        rw [nib_1 q hq]
        by_cases z : q = 0
        · rw [z, if_pos rfl, e1]
        · rw [if_neg z, e2 q (by omega) hq])
      have := i3 0 (by decide) hne
      rw [e] at this
      exact hc this
/-- the way that the kept rows tell: 1, then DATA by DATA -/
def ysy (p : Nat) (R : Nat → Nat) (y d : Nat) : Nat := dsum p (R (d + 1)) y (d + 1)
def yv (p : Nat) (R : Nat → Nat) : Nat → Nat
  | 0 => 1
  | d + 1 => yv p R d + ysy p R (yv p R d) d * 2 ^ (4 * (d + 1))
def ysm (p : Nat) (R : Nat → Nat) (d : Nat) : Nat := ysy p R (yv p R d) d
def ylv (p : Nat) (R : Nat → Nat) : Nat → Nat
  | 0 => 0
  | d + 1 => 16 * ylv p R d + ysm p R d
theorem ysm_lt {p : Nat} (h : gP p) (R : Nat → Nat) (d : Nat) : ysm p R d < 16 := dsum_lt h _ _ _
theorem yv_lt {p : Nat} (h : gP p) (R : Nat → Nat) : ∀ d, yv p R d < 2 ^ (4 * (d + 1))
  | 0 => (by decide : 1 < 2 ^ 4)
  | d + 1 => by
    have h1 := yv_lt h R d
    have h2 := ysm_lt h R d
    show yv p R d + ysm p R d * 2 ^ (4 * (d + 1)) < 2 ^ (4 * (d + 2))
    have e : 2 ^ (4 * (d + 2)) = 16 * 2 ^ (4 * (d + 1)) := by rw [show 4 * (d + 2) = 4 + 4 * (d + 1) by omega, Nat.pow_add]
    rw [e]
    have := Nat.mul_le_mul_right (2 ^ (4 * (d + 1))) (show ysm p R d ≤ 15 by omega)
    omega
theorem yv_top {p : Nat} (h : gP p) (R : Nat → Nat) (d : Nat) : nib (yv p R (d + 1)) (d + 1) = ysm p R d := by
  have h1 := yv_lt h R d
  have h2 := ysm_lt h R d
  show (yv p R d + ysm p R d * 2 ^ (4 * (d + 1))) / 2 ^ (4 * (d + 1)) % 16 = _
  rw [Nat.add_mul_div_right _ _ (Nat.two_pow_pos _), Nat.div_eq_of_lt h1, Nat.zero_add]
  exact Nat.mod_eq_of_lt h2
theorem yv_low {p : Nat} (R : Nat → Nat) {d q : Nat} (hq : q ≤ d) : nib (yv p R (d + 1)) q = nib (yv p R d) q := by
  show (yv p R d + ysm p R d * 2 ^ (4 * (d + 1))) / 2 ^ (4 * q) % 16 = yv p R d / 2 ^ (4 * q) % 16
  have e : ysm p R d * 2 ^ (4 * (d + 1)) = (16 * (ysm p R d * 2 ^ (4 * (d - q)))) * 2 ^ (4 * q) := by
    rw [show 4 * (d + 1) = 4 + 4 * (d - q) + 4 * q by omega, Nat.pow_add, Nat.pow_add, ← Nat.mul_assoc, ← Nat.mul_assoc]
    congr 1
    rw [show (2 : Nat) ^ 4 = 16 from rfl, Nat.mul_comm (ysm p R d) 16, Nat.mul_assoc]
  rw [e, Nat.add_mul_div_right _ _ (Nat.two_pow_pos _), Nat.add_mul_mod_self_left]
theorem yv_st {p : Nat} (R : Nat → Nat) {d : Nat} : ∀ m q, q ≤ d → nib (yv p R (d + m)) q = nib (yv p R d) q
  | 0, _, _ => rfl
  | m + 1, q, hq => (yv_low R (d := d + m) (by omega)).trans (yv_st R m q hq)
theorem yv_0 {p : Nat} (R : Nat → Nat) (m : Nat) : nib (yv p R m) 0 = 1 := by
  have := yv_st (p := p) R (d := 0) m 0 (Nat.le_refl 0)
  rw [Nat.zero_add] at this
  rw [this]
  show nib 1 0 = 1
  decide
theorem yv_d {p : Nat} (h : gP p) (R : Nat → Nat) {d m : Nat} (hd : d < m) : nib (yv p R m) (d + 1) = ysm p R d := by
  have := yv_st (p := p) R (d := d + 1) (m - (d + 1)) (d + 1) (Nat.le_refl _)
  rw [show d + 1 + (m - (d + 1)) = m by omega] at this
  rw [this, yv_top h]
/-- a row that leads at d + 1 with a 1 -/
theorem lead_sum {p : Nat} (h : gP p) {r y d : Nat} (hd : d < 5) (h1 : nib r (d + 1) = 1) (hz : ∀ j, d + 1 < j → j < 6 → nib r j = 0) : dsum p r y 6 = dsum p r y (d + 1) ^^^ nib y (d + 1) := by
  have e := dsum_hi h (v := r) (y := y) (n := d + 2) (6 - (d + 2)) (fun q a b => hz q (by omega) (by omega))
  rw [show d + 2 + (6 - (d + 2)) = 6 by omega] at e
  rw [e]
  show dsum p r y (d + 1) ^^^ gmul p (nib r (d + 1)) (nib y (d + 1)) = _
  rw [h1, gmul_comm h _ (by decide) _ (nib_lt _ _), gmul_one h _ (nib_lt _ _)]
theorem yv_rows {p : Nat} (h : gP p) {R : Nat → Nat} {W : List Nat} (hI : SpI p R W) (h0 : R 0 = 0) : ∀ q, q < 6 → dsum p (R q) (yv p R 5) 6 = 0 := by
  intro q hq
  cases q with
  | zero =>
    rw [h0]
    exact dsum_0 h _ 6
  | succ d =>
    by_cases hr : R (d + 1) = 0
    · rw [hr]
      exact dsum_0 h _ 6
    · obtain ⟨e1, e2⟩ := (hI.2.1 (d + 1) hq).2 hr
      rw [lead_sum h (by omega) e1 e2, yv_d h R (show d < 5 by omega)]
      have e3 : dsum p (R (d + 1)) (yv p R 5) (d + 1) = ysm p R d := by
        refine dsum_cg (fun q hq' => ?_)
        have := yv_st (p := p) R (d := d) (5 - d) q (by omega)
        rw [show d + (5 - d) = 5 by omega] at this
        exact this
      rw [e3, Nat.xor_self]
theorem lf_sum {p : Nat} (h : gP p) {R : Nat → Nat} {y : Nat} (hr : ∀ q, q < 6 → dsum p (R q) y 6 = 0) : ∀ k v, k ≤ 6 → dsum p (lf p R k v) y 6 = dsum p v y 6
  | 0, _, _ => rfl
  | k + 1, v, hk => by
    show dsum p (lf p R k _) y 6 = _
    rw [lf_sum h hr k _ (by omega)]
    split
    · rw [dsum_xor h, dsum_gsc h _ _ (nib_lt _ _) 6 (Nat.le_refl 6), hr k (by omega), gmul_comm h _ (by decide) _ (nib_lt _ _), gmul_zero h _ (nib_lt _ _), Nat.xor_zero]
    · rfl
theorem yv_sol {p : Nat} (h : gP p) {R : Nat → Nat} {W : List Nat} (hI : SpI p R W) (hc : Cons p W) : Sol p W (yv p R 5) := by
  have h0 := (R0_cons hI).mpr hc
  refine ⟨yv_0 R 5, fun w hw => ?_⟩
  have hw24 := hI.1 w hw
  have e := lf_sum h (yv_rows h hI h0) 6 w (Nat.le_refl 6)
  rw [(lf_iff h hI hw24).mpr (sp_mem h hI.1 hw), dsum_0 h] at e
  exact e.symm
theorem cons_ex {p : Nat} (h : gP p) {W : List Nat} (hV : Vs W) (hc : Cons p W) : ∃ y, Sol p W y := by
  obtain ⟨R, hI⟩ := SpI_ex h hV
  exact ⟨_, yv_sol h hI hc⟩
/-- a solution that is as the told way up to d isn't less there -/
theorem yv_least {p : Nat} (h : gP p) {R : Nat → Nat} {W : List Nat} (hI : SpI p R W) {y d : Nat} (hd : d < 5) (hs : Sol p W y) (he : ∀ e, e < d → nib y (e + 1) = nib (yv p R 5) (e + 1)) : nib (yv p R 5) (d + 1) ≤ nib y (d + 1) := by
  rw [yv_d h R hd]
  by_cases hr : R (d + 1) = 0
  · unfold ysm ysy
    rw [hr, dsum_0 h]
    exact Nat.zero_le _
  · obtain ⟨e1, e2⟩ := (hI.2.1 (d + 1) (by omega)).2 hr
    have h1 := dsum_sp h hs.2 (hI.2.2.1 (d + 1) (by omega) hr)
    rw [lead_sum h hd e1 e2] at h1
    have e3 : dsum p (R (d + 1)) y (d + 1) = ysm p R d := by
      refine dsum_cg (fun q hq => ?_)
      have h9 := yv_st (p := p) R (d := d) (5 - d) q (by omega)
      rw [show d + (5 - d) = 5 by omega] at h9
      rw [← h9]
      cases q with
      | zero => rw [hs.1, yv_0]
      | succ e => exact he e (by omega)
    rw [e3] at h1
    have h2 := xx (nib y (d + 1)) (ysm p R d)
    rw [Nat.xor_comm (nib y (d + 1)), h1, Nat.zero_xor] at h2
    omega
/-- told ways of the same rows are the same -/
theorem yv_uniq {p : Nat} (h : gP p) {R R' : Nat → Nat} {W : List Nat} (hI : SpI p R W) (hI' : SpI p R' W) (hc : Cons p W) : ∀ d, d ≤ 5 → ∀ e, e < d → ysm p R e = ysm p R' e := by
  intro d
  induction d with
  | zero => intro _ e he; exact absurd he (Nat.not_lt_zero e)
  | succ d ih =>
    intro hd e he
    by_cases q : e = d
    · subst q
      have i1 := yv_least h hI (d := e) (by omega) (yv_sol h hI' hc) (fun e' he' => by rw [yv_d h R' (by omega), yv_d h R (by omega)]; exact (ih (by omega) e' he').symm)
      have i2 := yv_least h hI' (d := e) (by omega) (yv_sol h hI hc) (fun e' he' => by rw [yv_d h R' (by omega), yv_d h R (by omega)]; exact ih (by omega) e' he')
      rw [yv_d h R (by omega), yv_d h R' (by omega)] at i1
      rw [yv_d h R (by omega), yv_d h R' (by omega)] at i2
      omega
    · exact ih (by omega) e (by omega)
theorem ylv_uniq {p : Nat} (h : gP p) {R R' : Nat → Nat} {W : List Nat} (hI : SpI p R W) (hI' : SpI p R' W) (hc : Cons p W) : ∀ d, d ≤ 5 → ylv p R d = ylv p R' d
  | 0, _ => rfl
  | d + 1, hd => by
    show 16 * ylv p R d + _ = 16 * ylv p R' d + _
    rw [ylv_uniq h hI hI' hc d (by omega), yv_uniq h hI hI' hc 5 (Nat.le_refl 5) d (by omega)]
theorem ylv_lt {p : Nat} (h : gP p) (R : Nat → Nat) : ∀ d, ylv p R d < 2 ^ (4 * d)
  | 0 => (by decide : 0 < 1)
  | d + 1 => by
    have h1 := ylv_lt h R d
    have h2 := ysm_lt h R d
    show 16 * ylv p R d + ysm p R d < _
    rw [show 4 * (d + 1) = 4 + 4 * d by omega, Nat.pow_add]
    omega
theorem ylv_dig {p : Nat} (h : gP p) (R : Nat → Nat) : ∀ d e, e < d → ylv p R d / 2 ^ (4 * (d - 1 - e)) % 16 = ysm p R e
  | 0, e, he => absurd he (Nat.not_lt_zero e)
  | d + 1, e, he => by
    have h2 := ysm_lt h R d
    show (16 * ylv p R d + ysm p R d) / 2 ^ (4 * (d + 1 - 1 - e)) % 16 = _
    by_cases q : e = d
    · rw [q, show d + 1 - 1 - d = 0 by omega]
      show (16 * ylv p R d + ysm p R d) / 1 % 16 = _
      omega
    · rw [show 4 * (d + 1 - 1 - e) = 4 + 4 * (d - 1 - e) by omega, Nat.pow_add, ← Nat.div_div_eq_div_mul, show (16 * ylv p R d + ysm p R d) / 2 ^ 4 = ylv p R d by omega]
      exact ylv_dig h R d e (by omega)
/-- a row of a form and a symbol -/
def cw (f s D : Nat) : Nat := f % 2 ^ (4 * D) * 16 + s
theorem cw_lt {f s D : Nat} (hD : D ≤ 5) (hs : s < 16) : cw f s D < 2 ^ 24 := by
  have h1 : f % 2 ^ (4 * D) < 2 ^ (4 * D) := Nat.mod_lt _ (Nat.two_pow_pos _)
  have h2 : 2 ^ (4 * D) ≤ 2 ^ 20 := Nat.pow_le_pow_right (by decide) (by omega)
  unfold cw
  omega
theorem cw_0 {f s D : Nat} (hs : s < 16) : nib (cw f s D) 0 = s := by
  unfold cw nib
  rw [Nat.mul_zero, Nat.pow_zero, Nat.div_one]
  omega
theorem nib_md {f D c : Nat} : nib (f % 2 ^ (4 * D)) c = if c < D then nib f c else 0 := by
  unfold nib
  by_cases e : c < D
  · rw [if_pos e]
    have h1 : 2 ^ (4 * D) = 2 ^ (4 * c) * (16 * 2 ^ (4 * (D - c - 1))) := by
      rw [show (16 : Nat) = 2 ^ 4 from rfl, ← Nat.pow_add, ← Nat.pow_add]
      congr 1
      omega
    rw [h1, Nat.mod_mul_right_div_self, Nat.mod_mul_right_mod]
  · rw [if_neg e]
    have h1 : f % 2 ^ (4 * D) < 2 ^ (4 * c) := Nat.lt_of_lt_of_le (Nat.mod_lt _ (Nat.two_pow_pos _)) (Nat.pow_le_pow_right (by decide) (by omega))
    rw [Nat.div_eq_of_lt h1]
theorem cw_s {f s D c : Nat} (hs : s < 16) : nib (cw f s D) (c + 1) = if c < D then nib f c else 0 := by
  rw [← nib_md]
  unfold cw nib
  rw [show 4 * (c + 1) = 4 + 4 * c by omega, Nat.pow_add, ← Nat.div_div_eq_div_mul, show (f % 2 ^ (4 * D) * 16 + s) / 2 ^ 4 = f % 2 ^ (4 * D) by omega]
def srw (S : ns_T) (i : Nat) : Nat := cw (S 5 (S 11 i)) (S 12 i) (S 0 1)
def Wl (S : ns_T) : List Nat := lu (srw S) (S 10 0) 0
theorem Wl_V {S : ns_T} (hV : VS S) (hU : PSV S) : Vs (Wl S) := Vs_lu (L := S 10 0) (fun j hj => cw_lt hV.2.1 (hU.2.2.2.1 j hj).2) (by omega)
/-- a unit's row -/
theorem unit_sum {p : Nat} (h : gP p) {e a D y : Nat} (he : e < D) (hD : D ≤ 5) (ha : a < 16) (hy : nib y 0 = 1) : dsum p (cw (2 ^ (4 * e)) a D) y 6 = a ^^^ nib y (e + 1) := by
  have hu : ∀ c, c < 5 → nib (2 ^ (4 * e)) c = if c = e then 1 else 0 := fun c hc => by
    have := nib_sh (t := 1) (d := e) (by decide) c hc (by omega)
    rw [Nat.one_mul] at this
    exact this
  have hd : ∀ n, n ≤ 5 → dsum p (cw (2 ^ (4 * e)) a D) y (n + 1) = a ^^^ (if e < n then nib y (e + 1) else 0) := by
    intro n
    induction n with
    | zero =>
      intro _
      show 0 ^^^ gmul p (nib _ 0) (nib y 0) = _
      rw [cw_0 ha, hy, gmul_one h _ ha, if_neg (Nat.not_lt_zero e), Nat.zero_xor, Nat.xor_zero]
    | succ n ih =>
      intro hn
      show dsum p _ y (n + 1) ^^^ gmul p (nib _ (n + 1)) (nib y (n + 1)) = _
      rw [ih (by omega), cw_s ha, hu n (by omega)]
      by_cases q : n = e
      · subst q
        rw [if_pos he, if_pos rfl, if_neg (Nat.lt_irrefl n), if_pos (Nat.lt_succ_self n), gmul_comm h _ (by decide) _ (nib_lt _ _), gmul_one h _ (nib_lt _ _), Nat.xor_zero]
      · have e0 : (if n < D then (if n = e then 1 else 0) else 0) = 0 := by
          rw [if_neg q]
          split <;> rfl
        rw [e0, gmul_comm h _ (by decide) _ (nib_lt _ _), gmul_zero h _ (nib_lt _ _), Nat.xor_zero]
        by_cases q2 : e < n
        · rw [if_pos q2, if_pos (by omega)]
        · rw [if_neg q2, if_neg (by omega)]
  rw [hd 5 (Nat.le_refl 5), if_pos (by omega)]
/-- what is SEEN, DATA below d written so, DATA d tried with n -/
def Wd (S : ns_T) (y n d j : Nat) : Nat := if j < S 10 0 then srw S j else if j < S 10 0 + d then cw (2 ^ (4 * (j - S 10 0))) (nib y (j - S 10 0 + 1)) (S 0 1) else cw (2 ^ (4 * d)) n (S 0 1)
theorem Wd_V {S : ns_T} (hV : VS S) (hU : PSV S) {y n d : Nat} (hn : n < 16) (j : Nat) : Wd S y n d j < 2 ^ 24 := by
  unfold Wd
  split
  · exact cw_lt hV.2.1 (hU.2.2.2.1 j (by assumption)).2
  · split
    · exact cw_lt hV.2.1 (nib_lt _ _)
    · exact cw_lt hV.2.1 hn
theorem Wd_cons {p : Nat} (h : gP p) {S : ns_T} (hV : VS S) (hU : PSV S) {R : Nat → Nat} (hI : SpI p R (Wl S)) (hc : Cons p (Wl S)) {d : Nat} (hd : d < S 0 1) : Cons p (lu (Wd S (yv p R 5) (nib (yv p R 5) (d + 1)) d) (S 10 0 + d + 1) 0) := by
  have hD := hV.2.1
  have hs := yv_sol h hI hc
  refine Sol.cons h (y := yv p R 5) ⟨hs.1, fun w hw => ?_⟩
  obtain ⟨j, -, hj, rfl⟩ := lu_mem.mp hw
  unfold Wd
  split
  · exact hs.2 _ (lu_mem.mpr ⟨j, by omega, by omega, rfl⟩)
  · split
    · rw [unit_sum h (by omega) hD (nib_lt _ _) hs.1, Nat.xor_self]
    · rw [unit_sum h hd hD (nib_lt _ _) hs.1, Nat.xor_self]
theorem Wd_least {p : Nat} (h : gP p) {S : ns_T} (hV : VS S) (hU : PSV S) {R : Nat → Nat} (hI : SpI p R (Wl S)) {d n : Nat} (hd : d < S 0 1) (hn : n < 16) (hc : Cons p (lu (Wd S (yv p R 5) n d) (S 10 0 + d + 1) 0)) : nib (yv p R 5) (d + 1) ≤ n := by
  have hD := hV.2.1
  obtain ⟨y, hs⟩ := cons_ex h (Vs_lu (L := S 10 0 + d + 1) (fun j _ => Wd_V hV hU hn j) (by omega)) hc
  have hmem : ∀ j, j < S 10 0 + d + 1 → dsum p (Wd S (yv p R 5) n d j) y 6 = 0 := fun j hj => hs.2 _ (lu_mem.mpr ⟨j, by omega, by omega, rfl⟩)
  have hsol : Sol p (Wl S) y := ⟨hs.1, fun w hw => by
    obtain ⟨j, -, hj, rfl⟩ := lu_mem.mp hw
    have := hmem j (by omega)
    unfold Wd at this
    rw [if_pos (by omega)] at this
    exact this⟩
  have hx : ∀ a b : Nat, a ^^^ b = 0 → a = b := fun a b q => by
    have := xx a b
    rw [q, Nat.zero_xor] at this
    exact this.symm
  have he : ∀ e, e < d → nib y (e + 1) = nib (yv p R 5) (e + 1) := fun e he => by
    have := hmem (S 10 0 + e) (by omega)
    unfold Wd at this
    rw [if_neg (by omega), if_pos (by omega), show S 10 0 + e - S 10 0 = e by omega, unit_sum h (by omega) hD (nib_lt _ _) hs.1] at this
    exact (hx _ _ this).symm
  have hdn : nib y (d + 1) = n := by
    have := hmem (S 10 0 + d) (by omega)
    unfold Wd at this
    rw [if_neg (by omega), if_neg (by omega), unit_sum h hd hD hn hs.1] at this
    exact (hx _ _ this).symm
  rw [← hdn]
  exact yv_least h hI (by omega) hsol he
noncomputable def nR (p : Nat) (S : ns_T) : Nat → Nat := @dite _ (∃ R, SpI p R (Wl S)) (Classical.propDecidable _) (fun h => h.choose) (fun _ _ => 0)
theorem nR_I {p : Nat} (h : gP p) {S : ns_T} (hV : VS S) (hU : PSV S) : SpI p (nR p S) (Wl S) := by
  have he := SpI_ex h (Wl_V hV hU)
  unfold nR
  rw [dif_pos he]
  exact he.choose_spec
noncomputable def nways (p : Nat) (S : ns_T) (w : Int32) : Int64 := if w = 0 then cif (Cons p (Wl S)) ((1 : Int64) <<< (((4 : Int32) * (nI (S 0 1) - nI (grk p (Wl S)))).toInt64 &&& 63)) 0 else if w = 1 then cif (Cons p (Wl S)) (lN (ylv p (nR p S) (S 0 1))) (-9223372036854775808) else -9223372036854775808
noncomputable def ncan2 (p : Nat) (S : ns_T) (x : Int32) : Int32 := cif (0 ≤ x ∧ x < nI (S 0 0)) (nI (nset (fun n => Cons p (cw (S 5 x.toNatClampNeg) n (S 0 1) :: Wl S)) 16)) (-1)
theorem nset_cg {P Q : Nat → Prop} : ∀ {n : Nat}, (∀ i, i < n → (P i ↔ Q i)) → nset P n = nset Q n
  | 0, _ => rfl
  | n + 1, h => by
    have ih := nset_cg (n := n) (fun i hi => h i (by omega))
    by_cases e : P n
    · rw [nset_t e, nset_t ((h n (by omega)).mp e), ih]
    · rw [nset_f e, nset_f (fun q => e ((h n (by omega)).mpr q)), ih]
theorem nset_no : ∀ n, nset (fun _ => False) n = 0
  | 0 => rfl
  | n + 1 => (nset_f (P := fun _ => False) (fun q => q)).trans (nset_no n)
theorem nset_all : ∀ n, nset (fun _ => True) n = 2 ^ n - 1
  | 0 => rfl
  | n + 1 => by
    have h1 := Nat.two_pow_pos n
    rw [nset_t (P := fun _ => True) trivial, nset_all n, Nat.or_comm]
    have := Nat.two_pow_add_eq_or_of_lt (i := n) (b := 2 ^ n - 1) (by omega) 1
    rw [Nat.mul_one] at this
    rw [← this, Nat.pow_succ]
    omega
theorem nset_one {c : Nat} : ∀ n, nset (fun i => i = c) n = if c < n then 2 ^ c else 0
  | 0 => by rw [if_neg (Nat.not_lt_zero c)]; rfl
  | n + 1 => by
    by_cases e : n = c
    · rw [nset_t (P := fun i => i = c) e, nset_one n, if_neg (by omega), if_pos (by omega), Nat.zero_or, e]
    · rw [nset_f (P := fun i => i = c) e, nset_one n]
      by_cases q : c < n
      · rw [if_pos q, if_pos (by omega)]
      · rw [if_neg q, if_neg (by omega)]
theorem cw_x {f n D : Nat} (hn : n < 16) (hD : D ≤ 5) : cw f n D = cw f 0 D ^^^ n := by
  refine nib_ext6 (cw_lt hD hn) (xor_lt24 (cw_lt hD (by decide)) (by omega)) (fun q hq => ?_)
  have hnn : ∀ n, n < 16 → ∀ q, q < 6 → nib n q = if q = 0 then n else 0 := by decide +kernel
  rw [nib_xor, hnn n hn q hq]
  cases q with
  | zero => rw [cw_0 hn, cw_0 (by decide), if_pos rfl, Nat.zero_xor]
  | succ c => rw [cw_s hn, cw_s (by decide), if_neg (show ¬ c + 1 = 0 by omega), Nat.xor_zero]
theorem cons_lp {p : Nat} (h : gP p) {W : List Nat} (hV : Vs W) : Cons p W ↔ ¬ Lp p W 0 := by
  obtain ⟨R, hI⟩ := SpI_ex h hV
  rw [← R0_cons hI]
  constructor
  · intro h0 hl
    exact hI.2.2.2 0 (by decide) hl h0
  · intro hl
    cases Nat.eq_zero_or_pos (R 0) with
    | inl z => exact z
    | inr z =>
      have hne : R 0 ≠ 0 := by omega
      obtain ⟨e1, e2⟩ := (hI.2.1 0 (by decide)).2 hne
      exact absurd ⟨R 0, (hI.2.1 0 (by decide)).1, hI.2.2.1 0 (by decide) hne, by rw [e1]; decide, e2⟩ hl
/-- what is left of a node's row: 0 but for the symbol, or it hangs on free DATA -/
theorem can_hang {p : Nat} (h : gP p) {R : Nat → Nat} {W : List Nat} (hI : SpI p R W) (hc : Cons p W) {f D n : Nat} (hD : D ≤ 5) (hn : n < 16) (hl : lf p R 6 (cw f 0 D) / 16 ≠ 0) : Cons p (cw f n D :: W) := by
  have hu := cw_lt (f := f) hD (show 0 < 16 by decide)
  have hlt := lf_lt h (R := R) 6 _ hu
  have hsp := lf_sp h hI.2.2.1 6 (cw f 0 D) (Nat.le_refl 6)
  generalize he : lf p R 6 (cw f 0 D) = l at hl hlt hsp
  have hl2 : l / 16 < 2 ^ 24 := by omega
  obtain ⟨q, hq, hld⟩ := ld_ex hl2 hl
  have hdig : ∀ k, nib (l / 16) k = nib l (k + 1) := fun k => by
    unfold nib
    rw [Nat.div_div_eq_div_mul, show 16 * 2 ^ (4 * k) = 2 ^ (4 * (k + 1)) by rw [show 4 * (k + 1) = 4 + 4 * k by omega, Nat.pow_add]]
  have hq5 : q < 5 := by
    cases Nat.lt_or_ge q 5 with
    | inl z => exact z
    | inr z =>
      have := hld.1
      rw [hdig, nib_big (n := 6) hlt (by omega)] at this
      exact absurd rfl this
  have hnn : ∀ n, n < 16 → ∀ q, q < 6 → nib n q = if q = 0 then n else 0 := by decide +kernel
  have hx : ∀ k, k + 1 < 6 → nib (l ^^^ n) (k + 1) = nib l (k + 1) := fun k hk => by rw [nib_xor, hnn n hn _ hk, if_neg (by omega), Nat.xor_zero]
  have hl24 : l ^^^ n < 2 ^ 24 := xor_lt24 hlt (by omega)
  have hLD : LD (l ^^^ n) (q + 1) := ⟨by rw [hx q (by omega), ← hdig]; exact hld.1, fun j h1 h2 => by
    cases j with
    | zero => omega
    | succ k => rw [hx k h2, ← hdig]; exact hld.2 k (by omega) (by omega)⟩
  have hno : ¬ Lp p W (q + 1) := fun z => by
    have h9 := lf_0 h hI.2.1 6 (cw f 0 D) (q + 1) (by omega) (Nat.le_refl 6) (hI.2.2.2 (q + 1) (by omega) z)
    rw [he, ← hdig] at h9
    exact hld.1 h9
  have hw := cw_lt (f := f) hD hn
  have hg2 : Sp p W (cw f n D ^^^ (l ^^^ n)) := by
    rw [cw_x hn hD, x4]
    exact hsp
  have hcons : Vs (cw f n D :: W) := hI.1.cons hw
  rw [cons_lp h hcons, Lp_cons h hg2 hw hl24 (by omega) hLD hno 0 (by decide)]
  rintro (z | z)
  · exact (cons_lp h hI.1).mp hc z
  · omega
theorem can_one {p : Nat} (h : gP p) {R : Nat → Nat} {W : List Nat} (hI : SpI p R W) (hc : Cons p W) {f D n : Nat} (hD : D ≤ 5) (hn : n < 16) (hl : lf p R 6 (cw f 0 D) / 16 = 0) : Cons p (cw f n D :: W) ↔ n = lf p R 6 (cw f 0 D) := by
  have hsp := lf_sp h hI.2.2.1 6 (cw f 0 D) (Nat.le_refl 6)
  generalize he : lf p R 6 (cw f 0 D) = l at hl hsp
  have hl16 : l < 16 := by omega
  have hg : Sp p W (cw f n D ^^^ (l ^^^ n)) := by
    rw [cw_x hn hD, x4]
    exact hsp
  constructor
  · intro hcc
    cases Nat.eq_zero_or_pos (l ^^^ n) with
    | inl z =>
      have := xx l n
      rw [z, Nat.zero_xor] at this
      omega
    | inr z =>
      exfalso
      have hx16 : l ^^^ n < 16 := Nat.xor_lt_two_pow (n := 4) hl16 hn
      have h1 : Sp p (cw f n D :: W) (l ^^^ n) := by
        refine ⟨1, by decide, ?_⟩
        rw [gsc_1 h (cw_lt hD hn), Nat.xor_comm]
        exact hg
      have hi := ginv_ok h (l ^^^ n) hx16
      have h2 := sp_smul h hi.1 h1
      rw [gsc_small h hx16 hi.1, hi.2.1 (by omega)] at h2
      exact hcc h2
  · rintro rfl
    rw [Nat.xor_self, Nat.xor_zero] at hg
    rintro ⟨c, hc16, h1⟩
    refine hc ?_
    exact (sp_xor_iff h (sp_smul h hc16 hg)).mp h1
