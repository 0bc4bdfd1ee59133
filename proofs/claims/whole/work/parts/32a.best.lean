/-! BEST: a digit of a form tried with every number -/
def sdig (f d n : Nat) : Nat := (f &&& (f ^^^ (f &&& 15 * 2 ^ (4 * d)))) ||| n * 2 ^ (4 * d)
theorem nib_or (a b q : Nat) : nib (a ||| b) q = nib a q ||| nib b q := by
  unfold nib
  rw [Nat.or_div_two_pow, show 16 = 2 ^ 4 from rfl, Nat.or_mod_two_pow]
theorem sdig_lt {f d n : Nat} (hf : f < 2 ^ 20) (hd : d < 5) (hn : n < 16) : sdig f d n < 2 ^ 20 := by
  unfold sdig
  exact Nat.or_lt_two_pow (Nat.lt_of_le_of_lt Nat.and_le_left hf) (lt_21 hn (by omega))
theorem dg_k : ∀ a, a < 16 → ∀ n, n < 16 → ((a &&& (a ^^^ (a &&& 0))) ||| 0 = a) ∧ ((a &&& (a ^^^ (a &&& 15))) ||| n = n) := by decide +kernel
theorem sdig_nib {f d n c : Nat} (hd : d < 5) (hn : n < 16) (hc : c < 5) : nib (sdig f d n) c = if c = d then n else nib f c := by
  unfold sdig
  rw [nib_or, nib_and, nib_xor, nib_and, nib_sh (t := 15) (by decide) c hc hd, nib_sh hn c hc hd]
  by_cases e : c = d
  · rw [if_pos e, if_pos e, if_pos e]
    exact (dg_k _ (nib_lt f c) n hn).2
  · rw [if_neg e, if_neg e, if_neg e]
    exact (dg_k _ (nib_lt f c) n hn).1
def Sf (S : ns_T) (j d n : Nat) : ns_T := nup S 5 j (sdig (S 5 j) d n)
theorem Sf_e {S : ns_T} {j d n t i : Nat} (h : t ≠ 5 ∨ i ≠ j) : Sf S j d n t i = S t i := nup_ne (by omega)
theorem Sf_j {S : ns_T} {j d n : Nat} : Sf S j d n 5 j = sdig (S 5 j) d n := nup_same
theorem VS.sf {S : ns_T} (hV : VS S) {j d n : Nat} (hj : j < S 0 0) (h9 : S 3 j = 9) (hd : d < 5) (hn : n < 16) : VS (Sf S j d n) := by
  obtain ⟨v1, v2, v3, v4, v5, v6, v7, v8⟩ := hV
  unfold VS
  rw [Sf_e (Or.inl (by decide)), Sf_e (Or.inl (by decide)), Sf_e (Or.inl (by decide)), Sf_e (Or.inl (by decide))]
  refine ⟨v1, v2, v3, v4, v5, v6, fun i hi => ?_, fun e he => ?_⟩
  · obtain ⟨u1, u2, u3, u4, u5, u6, u7, u8⟩ := v7 i hi
    rw [Sf_e (t := 1) (Or.inl (by decide)), Sf_e (t := 2) (Or.inl (by decide)), Sf_e (t := 3) (Or.inl (by decide)), Sf_e (t := 4) (Or.inl (by decide))]
    refine ⟨u1, u2, u3, ?_, fun q hq => by rw [Sf_e (Or.inl (by omega))]; exact u5 q hq, u6, u7, fun z => by rw [Sf_e (Or.inl (by decide))]; exact u8 z⟩
    by_cases e : i = j
    · rw [e, Sf_j]
      exact sdig_lt (v7 j hj).2.2.2.1 hd hn
    · rw [Sf_e (Or.inr e)]
      exact u4
  · obtain ⟨u1, u2, u3, u4⟩ := v8 e he
    have hne : S 8 e ≠ j := fun q => by rw [q, h9] at u2; omega
    rw [Sf_e (t := 8) (Or.inl (by decide)), Sf_e (t := 3) (Or.inl (by decide)), Sf_e (t := 7) (Or.inl (by decide)), Sf_e (Or.inr hne)]
    exact ⟨u1, u2, u3, u4⟩
theorem NR.sf {σ σ' : ex_S} {S : ns_T} (hR : NR σ S) {j d n : Nat} (hj : j < S 0 0) (hd : d < 5) (hn : n < 16) (e1 : ∀ i, 131 ≤ i → i ≤ 139 → i ≠ 136 → σ' i = σ i) (e2 : ∀ k, 5 ≤ k → k ≤ 7 → σ' 127 k = σ 127 k) (e3 : Up1 σ σ' 136 (5 * j + d) (nI n)) : NR σ' (Sf S j d n) := by
  obtain ⟨n1, n2, n3, n4, n5⟩ := hR
  unfold NR
  rw [Sf_e (Or.inl (by decide)), Sf_e (Or.inl (by decide)), Sf_e (Or.inl (by decide)), e2 5 (by decide) (by decide), e2 6 (by decide) (by decide), e2 7 (by decide) (by decide), e1 131 (by decide) (by decide) (by decide), e1 132 (by decide) (by decide) (by decide), e1 133 (by decide) (by decide) (by decide), e1 134 (by decide) (by decide) (by decide), e1 135 (by decide) (by decide) (by decide), e1 137 (by decide) (by decide) (by decide), e1 138 (by decide) (by decide) (by decide), e1 139 (by decide) (by decide) (by decide)]
  refine ⟨n1, n2, n3, fun i hi => ?_, fun e he => ?_⟩
  · obtain ⟨a1, a2, a3, a4, a5, a6, a7⟩ := n4 i hi
    rw [Sf_e (t := 1) (Or.inl (by decide)), Sf_e (t := 2) (Or.inl (by decide)), Sf_e (t := 3) (Or.inl (by decide)), Sf_e (t := 4) (Or.inl (by decide))]
    refine ⟨a1, a2, a3, a4, a5, fun c hc => ?_, fun q hq => by rw [Sf_e (Or.inl (by omega))]; exact a7 q hq⟩
    by_cases e : i = j
    · subst e
      rw [Sf_j, sdig_nib hd hn hc]
      by_cases ec : c = d
      · rw [ec, if_pos rfl]
        exact e3.1
      · rw [if_neg ec, e3.2 _ (by omega)]
        exact a6 c hc
    · rw [Sf_e (Or.inr e), e3.2 _ (by omega)]
      exact a6 c hc
  · rw [Sf_e (Or.inl (by decide)), Sf_e (Or.inl (by decide))]
    exact n5 e he
/-- a set's forms, one digit changed, when the node isn't in it; when it is -/
theorem fl_sf {S : ns_T} {j d n t : Nat} (h : t.testBit j = false) : ∀ m, fl (Sf S j d n) t m = fl S t m
  | 0 => rfl
  | m + 1 => by
    unfold fl
    rw [fl_sf h m]
    split
    · rename_i hb
      rw [Sf_e (Or.inr (fun q => by rw [q, h] at hb; cases hb))]
    · rfl
theorem fl_sfm {S : ns_T} {j d n t v : Nat} (hj : j < S 0 0) (h : t.testBit j = false) : v ∈ fl (Sf S j d n) (t ||| 2 ^ j) (S 0 0) ↔ v ∈ sdig (S 5 j) d n :: fl S t (S 0 0) := by
  rw [List.mem_cons, fl_mem, fl_mem]
  constructor
  · rintro ⟨i, g1, g2, g3⟩
    by_cases e : i = j
    · rw [e, Sf_j] at g3
      exact Or.inl g3
    · rw [Sf_e (Or.inr e)] at g3
      rw [Nat.testBit_or, Nat.testBit_two_pow, decide_eq_false (fun q => e q.symm), Bool.or_false] at g2
      exact Or.inr ⟨i, g1, g2, g3⟩
  · rintro (rfl | ⟨i, g1, g2, g3⟩)
    · exact ⟨j, hj, by rw [Nat.testBit_or, Nat.testBit_two_pow, decide_eq_true rfl, Bool.or_true], Sf_j.symm⟩
    · exact ⟨i, g1, by rw [Nat.testBit_or, g2]; rfl, by rw [Sf_e (Or.inr (fun q => by rw [q, h] at g2; cases g2))]; exact g3⟩
def TryE (p : Nat) (S : ns_T) (j d t n : Nat) : Prop := grk p (sdig (S 5 j) d n :: (fl S t (S 0 0) ++ [])) = grk p (sdig (S 5 j) d n :: (fl S (S 0 2) (S 0 0) ++ (fl S t (S 0 0) ++ [])))
/-- those left but the node -/
def nlft (S : ns_T) (j t : Nat) : Nat := naoth S j &&& (naoth S j ^^^ (naoth S j &&& t))
theorem nlft_bit {S : ns_T} {j t i : Nat} : (nlft S j t).testBit i = ((decide (i < S 0 0) && decide (i ≠ j)) && !t.testBit i) := by
  unfold nlft
  rw [Nat.testBit_and, Nat.testBit_xor, Nat.testBit_and, naoth_bit]
  cases (decide (i < S 0 0) && decide (i ≠ j)) <;> cases t.testBit i <;> rfl
theorem nleft_bit {S : ns_T} {t i : Nat} : (nleft S t).testBit i = (decide (i < S 0 0) && !t.testBit i) := by
  unfold nleft
  rw [Nat.testBit_and, Nat.testBit_xor, Nat.testBit_and, nall_bit]
  cases decide (i < S 0 0) <;> cases t.testBit i <;> rfl
theorem nlft_or {S : ns_T} {j t : Nat} (hj : j < S 0 0) (h : t.testBit j = false) : nleft S t = nlft S j t ||| 2 ^ j := by
  apply Nat.eq_of_testBit_eq
  intro i
  rw [Nat.testBit_or, nlft_bit, nleft_bit, Nat.testBit_two_pow]
  by_cases e : i = j
  · rw [e, h, decide_eq_true hj, decide_eq_true rfl, Bool.or_true]
    rfl
  · rw [decide_eq_true (show i ≠ j from e), decide_eq_false (show ¬ j = i from fun q => e q.symm), Bool.or_false, Bool.and_true]
theorem nlft_j {S : ns_T} {j t : Nat} : (nlft S j t).testBit j = false := by
  rw [nlft_bit, decide_eq_false (show ¬ j ≠ j from fun q => q rfl), Bool.and_false]
  rfl
theorem nleft_sf {S : ns_T} {j d n t : Nat} : nleft (Sf S j d n) t = nleft S t := by
  unfold nleft nall
  rw [Sf_e (Or.inl (by decide))]
theorem npar_no {S : ns_T} (hV : VS S) {j : Nat} (hj : j < S 0 0) (h9 : S 3 j = 9) : (S 0 2).testBit j = false := by
  rw [(hV.2.2.2.2.2.2.1 j hj).2.2.2.2.2.2.1]
  exact decide_eq_false (fun q => q h9)
theorem Vs.app {us ws : List Nat} (h : Vs us) (h2 : Vs ws) : Vs (us ++ ws) := fun v hv => by
  rcases List.mem_append.mp hv with q | q
  · exact h v q
  · exact h2 v q
theorem Vs.cons {u : Nat} {ws : List Nat} (hu : u < 2 ^ 24) (h2 : Vs ws) : Vs (u :: ws) := fun v hv => by
  rcases List.mem_cons.mp hv with q | q
  · rw [q]; exact hu
  · exact h2 v q
theorem Vs_nil : Vs [] := fun v hv => absurd hv List.not_mem_nil
/-- SAFE with a number tried, the node not lost -/
theorem safe_try {p : Nat} (hp : gP p) {S : ns_T} (hV : VS S) {j d n t e : Nat} (hj : j < S 0 0) (h9 : S 3 j = 9) (hd : d < 5) (hn : n < 16) (ht : t.testBit j = false) : SafeP p (Sf S j d n) e t ↔ (npop t = e ∧ TryE p S j d (nlft S j t) n) := by
  have hV2 := hV.sf hj h9 hd hn (n := n)
  have h02 := npar_no hV hj h9
  have hx : sdig (S 5 j) d n < 2 ^ 24 := Nat.lt_trans (sdig_lt (hV.2.2.2.2.2.2.1 j hj).2.2.2.1 hd hn) (by decide)
  have e00 : Sf S j d n 0 0 = S 0 0 := Sf_e (Or.inl (by decide))
  have g1 : nrk p (Sf S j d n) (nlft S j t ||| 2 ^ j) = grk p (sdig (S 5 j) d n :: (fl S (nlft S j t) (S 0 0) ++ [])) := by
    unfold nrk
    rw [e00]
    have hl := fl_lt hV2 (nlft S j t ||| 2 ^ j) (n := S 0 0) (by rw [e00]; exact Nat.le_refl _)
    exact grk_perm hp hl ((fl_lt hV _ (Nat.le_refl _)).app Vs_nil |>.cons hx) (fun v => by rw [List.append_nil]; exact fl_sfm hj nlft_j)
  have hb : (nlft S j t ||| S 0 2).testBit j = false := by rw [Nat.testBit_or, nlft_j, h02]; rfl
  have g2 : nrk p (Sf S j d n) ((nlft S j t ||| S 0 2) ||| 2 ^ j) = grk p (sdig (S 5 j) d n :: (fl S (S 0 2) (S 0 0) ++ (fl S (nlft S j t) (S 0 0) ++ []))) := by
    unfold nrk
    rw [e00]
    have hl := fl_lt hV2 ((nlft S j t ||| S 0 2) ||| 2 ^ j) (n := S 0 0) (by rw [e00]; exact Nat.le_refl _)
    refine grk_perm hp hl ((((fl_lt hV _ (Nat.le_refl _)).app ((fl_lt hV _ (Nat.le_refl _)).app Vs_nil))).cons hx) (fun v => ?_)
    rw [fl_sfm hj hb, List.mem_cons, List.mem_cons, List.append_nil, List.mem_append, fl_mem, fl_mem, fl_mem]
    constructor
    · rintro (q | ⟨i, q1, q2, q3⟩)
      · exact Or.inl q
      · rw [Nat.testBit_or] at q2
        rcases Bool.or_eq_true_iff.mp q2 with q2 | q2
        · exact Or.inr (Or.inr ⟨i, q1, q2, q3⟩)
        · exact Or.inr (Or.inl ⟨i, q1, q2, q3⟩)
    · rintro (q | ⟨i, q1, q2, q3⟩ | ⟨i, q1, q2, q3⟩)
      · exact Or.inl q
      · exact Or.inr ⟨i, q1, by rw [Nat.testBit_or, q2, Bool.or_true], q3⟩
      · exact Or.inr ⟨i, q1, by rw [Nat.testBit_or, q2]; rfl, q3⟩
  unfold SafeP TryE
  rw [nleft_sf, nlft_or hj ht, show Sf S j d n 0 2 = S 0 2 from Sf_e (Or.inl (by decide)), show nlft S j t ||| 2 ^ j ||| S 0 2 = nlft S j t ||| S 0 2 ||| 2 ^ j from by rw [Nat.or_assoc, Nat.or_comm (2 ^ j), ← Nat.or_assoc], g1, g2]
  exact ⟨fun q => ⟨q.1, q.2.symm⟩, fun q => ⟨q.1, q.2.symm⟩⟩
/-- SAFE, the node lost: the number doesn't matter -/
theorem safe_lost {p : Nat} {S : ns_T} (hV : VS S) {j d n t e : Nat} (hj : j < S 0 0) (h9 : S 3 j = 9) (ht : t.testBit j = true) : SafeP p (Sf S j d n) e t ↔ SafeP p S e t := by
  have h02 := npar_no hV hj h9
  have h1 : (nleft S t).testBit j = false := by rw [nleft_bit, ht, Bool.not_true, Bool.and_false]
  have h2 : (nleft S t ||| S 0 2).testBit j = false := by rw [Nat.testBit_or, h1, h02]; rfl
  unfold SafeP nrk
  rw [nleft_sf, show Sf S j d n 0 2 = S 0 2 from Sf_e (Or.inl (by decide)), show Sf S j d n 0 0 = S 0 0 from Sf_e (Or.inl (by decide)), fl_sf h1, fl_sf h2]
theorem ncnt_split (P Q : Nat → Prop) : ∀ m, ncnt P m = ncnt (fun t => P t ∧ Q t) m + ncnt (fun t => P t ∧ ¬ Q t) m
  | 0 => rfl
  | m + 1 => by
    have ih := ncnt_split P Q m
    by_cases hp : P m
    · by_cases hq : Q m
      · rw [ncnt_t hp, ncnt_t (P := fun t => P t ∧ Q t) ⟨hp, hq⟩, ncnt_f (P := fun t => P t ∧ ¬ Q t) (fun z => z.2 hq)]
        omega
      · rw [ncnt_t hp, ncnt_f (P := fun t => P t ∧ Q t) (fun z => hq z.2), ncnt_t (P := fun t => P t ∧ ¬ Q t) ⟨hp, hq⟩]
        omega
    · rw [ncnt_f hp, ncnt_f (P := fun t => P t ∧ Q t) (fun z => hp z.1), ncnt_f (P := fun t => P t ∧ ¬ Q t) (fun z => hp z.1)]
      omega
theorem ncnt_up {P : Nat → Prop} {s : Nat} : ∀ m, (∀ t, s ≤ t → t < s + m → ¬ P t) → ncnt P (s + m) = ncnt P s
  | 0, _ => rfl
  | m + 1, h => (ncnt_f (P := P) (m := s + m) (h (s + m) (by omega) (by omega))).trans (ncnt_up m (fun t h1 h2 => h t h1 (by omega)))
def TryP (p : Nat) (S : ns_T) (j d e n t : Nat) : Prop := t.testBit j = false ∧ npop t = e ∧ TryE p S j d (nlft S j t) n
noncomputable def ntry (p : Nat) (S : ns_T) (j d e n : Nat) : Nat := ncnt (TryP p S j d e n) (2 ^ S 0 0)
theorem try_safe {p : Nat} (hp : gP p) {S : ns_T} (hV : VS S) {j d e : Nat} (hj : j < S 0 0) (h9 : S 3 j = 9) (hd : d < 5) : ∃ K, ∀ n, n < 16 → nsafe p (Sf S j d n) e = ntry p S j d e n + K := by
  refine ⟨ncnt (fun t => SafeP p S e t ∧ ¬ t.testBit j = false) (2 ^ S 0 0), fun n hn => ?_⟩
  unfold nsafe
  rw [show Sf S j d n 0 0 = S 0 0 from Sf_e (Or.inl (by decide)), ncnt_split _ (fun t => t.testBit j = false)]
  have e1 : ncnt (fun t => SafeP p (Sf S j d n) e t ∧ t.testBit j = false) (2 ^ S 0 0) = ntry p S j d e n := ncnt_congr fun t _ =>
    ⟨fun q => ⟨q.2, (safe_try hp hV hj h9 hd hn q.2).mp q.1⟩, fun q => ⟨(safe_try hp hV hj h9 hd hn q.1).mpr q.2, q.1⟩⟩
  have e2 : ncnt (fun t => SafeP p (Sf S j d n) e t ∧ ¬ t.testBit j = false) (2 ^ S 0 0) = ncnt (fun t => SafeP p S e t ∧ ¬ t.testBit j = false) (2 ^ S 0 0) := ncnt_congr fun t _ =>
    ⟨fun q => ⟨(safe_lost hV hj h9 (eq_true_of_ne_false q.2)).mp q.1, q.2⟩, fun q => ⟨(safe_lost hV hj h9 (eq_true_of_ne_false q.2)).mpr q.1, q.2⟩⟩
  rw [e1, e2]
def bsF (g : Nat → Nat) : Nat → Nat
  | 0 => 0
  | n + 1 => if g (bsF g n) < g n then n else bsF g n
theorem bsF_lt (g : Nat → Nat) : ∀ n, 0 < n → bsF g n < n
  | 0, h => absurd h (by decide)
  | n + 1, _ => by
    unfold bsF
    split
    · omega
    · by_cases e : n = 0
      · rw [e]
        exact Nat.one_pos
      · have := bsF_lt g n (by omega)
        omega
theorem bsF_shift {g g' : Nat → Nat} {K : Nat} : ∀ n, (∀ i, i < n → g' i = g i + K) → bsF g' n = bsF g n
  | 0, _ => rfl
  | n + 1, h => by
    have ih := bsF_shift n (fun i hi => h i (by omega))
    unfold bsF
    rw [ih]
    by_cases e : n = 0
    · subst e
      show (if g' 0 < g' 0 then 0 else 0) = (if g 0 < g 0 then 0 else 0)
      rw [if_neg (Nat.lt_irrefl _), if_neg (Nat.lt_irrefl _)]
    · have hb := bsF_lt g n (by omega)
      rw [h n (by omega), h (bsF g n) (by omega)]
      by_cases q : g (bsF g n) < g n
      · rw [if_pos q, if_pos (by omega)]
      · rw [if_neg q, if_neg (by omega)]
theorem bsF_1 (g : Nat → Nat) : bsF g 1 = 0 := by
  show (if g 0 < g 0 then 0 else 0) = 0
  split <;> rfl
noncomputable def nbest (p : Nat) (S : ns_T) (x y e : Int32) : Int32 := cif ((0 ≤ x ∧ x < nI (S 0 0)) ∧ S 3 x.toNatClampNeg = 9 ∧ 0 ≤ y ∧ y ≤ 4) (cif (0 ≤ e ∧ e ≤ 10) (nI (bsF (fun n => nsafe p (Sf S x.toNatClampNeg y.toNatClampNeg n) e.toNatClampNeg) 16)) (-2)) (-1)
