/-! SAFE, DISTANCE, who has HELP -/
theorem nbin_succ (n : Nat) : ∀ (m i b : Nat), nbin n (m + 1) i b = nbin n m i b * (n - (i + m)) / (i + m + 1)
  | 0, _, _ => rfl
  | m + 1, i, b => by
    show nbin n (m + 1) (i + 1) (b * (n - i) / (i + 1)) = nbin n m (i + 1) (b * (n - i) / (i + 1)) * (n - (i + (m + 1))) / (i + (m + 1) + 1)
    rw [nbin_succ n m (i + 1) _, show i + 1 + m = i + (m + 1) by omega]
theorem nbin_le : ∀ n, n < 11 → ∀ e, e < 11 → nbin n e 0 1 ≤ 252 := by decide +kernel
theorem pop_all : ∀ n, n < 11 → ∀ t, t < 2 ^ n → npop t = n → t = 2 ^ n - 1 := by decide +kernel
theorem nbin_nn : ∀ n, n < 11 → nbin n n 0 1 = 1 := by decide +kernel
theorem grk_zero {p : Nat} : ∀ {ws : List Nat}, grk p ws = 0 → ∀ w ∈ ws, Sp p [] w → True := fun _ _ _ _ => trivial
theorem grk_pos {p : Nat} (h : gP p) : ∀ {ws : List Nat}, (∃ w ∈ ws, w ≠ 0) → 1 ≤ grk p ws
  | [], ⟨w, hw, _⟩ => absurd hw List.not_mem_nil
  | x :: ws, ⟨w, hw, h0⟩ => by
    by_cases hs : Sp p ws x
    · rw [grk_told hs]
      by_cases hz : ∃ w ∈ ws, w ≠ 0
      · exact grk_pos h hz
      · have hall : ∀ u ∈ ws, u = 0 := fun u hu => by
          cases Nat.eq_zero_or_pos u with
          | inl q => exact q
          | inr q => exact absurd ⟨u, hu, by omega⟩ hz
        rcases List.mem_cons.mp hw with rfl | hw
        · have : Sp p [] w := sp_trans h (us := ws) (fun u hu => by rw [hall u hu]; exact sp_0 h []) hs
          exact absurd this h0
        · exact absurd (hall w hw) h0
    · rw [grk_new hs]
      omega
theorem nleft_all {S : ns_T} (h : VS S) : nleft S (nall S) = 0 := by
  unfold nleft
  rw [Nat.and_self, Nat.xor_self, Nat.and_zero]
theorem fl_0 (S : ns_T) : ∀ n, fl S 0 n = []
  | 0 => rfl
  | n + 1 => by rw [fl_no (Nat.zero_testBit n), fl_0 S n]
theorem safe_top {p : Nat} (hp : gP p) {S : ns_T} (h : VS S) (hd : S 0 1 ≠ 0) : nsafe p S (S 0 0) ≠ nany S (S 0 0) := by
  have hn := h.1
  have e1 : nany S (S 0 0) = 1 := by rw [nany_eq h hn, nbin_nn _ (by omega)]
  have e0 : nsafe p S (S 0 0) = ncnt (fun _ => False) (2 ^ S 0 0) := by
    refine ncnt_congr fun t ht => ⟨fun ⟨h1, h2⟩ => ?_, fun q => q.elim⟩
    have h3 := pop_all _ (by omega) t ht h1
    have h4 : t = nall S := h3
    rw [h4, nleft_all h, Nat.zero_or] at h2
    have h5 : nrk p S 0 = 0 := by
      unfold nrk
      rw [fl_0]
      rfl
    rw [h5] at h2
    obtain ⟨v1, v2, v3, v4⟩ := h.2.2.2.2.2.2.2 0 (by omega)
    have h6 : 1 ≤ nrk p S (S 0 2) := grk_pos hp ⟨S 5 (S 8 0), fl_mem.mpr ⟨S 8 0, v1, by
      rw [(h.2.2.2.2.2.2.1 _ v1).2.2.2.2.2.2.1, v2]
      rfl, rfl⟩, by rw [v4]; decide⟩
    omega
  have hz : ∀ m, ncnt (fun _ => False) m = 0 := fun m => by
    induction m with
    | zero => rfl
    | succ m ih => rw [ncnt_f (fun q => q), ih]
  rw [e0, hz, e1]
  decide
def IsDis (p : Nat) (S : ns_T) (k : Nat) : Prop := k ≤ S 0 0 ∧ nsafe p S k ≠ nany S k ∧ ∀ e, e < k → nsafe p S e = nany S e
theorem dis_uniq {p : Nat} {S : ns_T} {k k' : Nat} (h : IsDis p S k) (h' : IsDis p S k') : k = k' := by
  rcases Nat.lt_trichotomy k k' with q | q | q
  · exact absurd (h'.2.2 k q) h.2.1
  · exact q
  · exact absurd (h.2.2 k' q) h'.2.1
noncomputable def ndis (p : Nat) (S : ns_T) : Option Nat := @dite _ (S 0 1 ≠ 0 ∧ ∃ k, IsDis p S k) (Classical.propDecidable _) (fun h => some h.2.choose) (fun _ => none)
theorem ndis_some {p : Nat} {S : ns_T} {k : Nat} (hd : S 0 1 ≠ 0) (h : IsDis p S k) : ndis p S = some k := by
  have he : S 0 1 ≠ 0 ∧ ∃ k, IsDis p S k := ⟨hd, k, h⟩
  unfold ndis
  rw [dif_pos he]
  exact congrArg some (dis_uniq he.2.choose_spec h)
theorem ndis_none {p : Nat} {S : ns_T} (hd : S 0 1 = 0) : ndis p S = none := by
  unfold ndis
  rw [dif_neg (fun q => q.1 hd)]
/-- those below i that P holds of, as bits -/
noncomputable def nset (P : Nat → Prop) : Nat → Nat
  | 0 => 0
  | i + 1 => nset P i ||| @ite _ (P i) (Classical.propDecidable _) (2 ^ i) 0
theorem nset_t {P : Nat → Prop} {i : Nat} (h : P i) : nset P (i + 1) = nset P i ||| 2 ^ i := by
  show nset P i ||| _ = _
  rw [if_pos h]
theorem nset_f {P : Nat → Prop} {i : Nat} (h : ¬ P i) : nset P (i + 1) = nset P i := by
  show nset P i ||| _ = _
  rw [if_neg h, Nat.or_zero]
def HasHelp (p : Nat) (S : ns_T) (j : Nat) : Prop := (S 0 3).testBit j = true ∧ nrk p S (nthere S ||| 2 ^ j) = nrk p S (nthere S)
noncomputable def nhlpd (p : Nat) (S : ns_T) : Nat := nset (HasHelp p S) (S 0 0)
theorem i32_ne {x c : Int32} (h : ¬ x = c) : x.toInt ≠ c.toInt := fun q => h (Int32.toInt_inj.mp q)
theorem nsafe_le {p : Nat} {S : ns_T} (h : VS S) (e : Nat) : nsafe p S e ≤ 1024 := Nat.le_trans (ncnt_le _ _) (two_n h)
theorem miss_back {S : ns_T} (h : VS S) : nall S &&& (nall S ^^^ (nall S &&& nthere S)) = S 0 3 := by
  apply Nat.eq_of_testBit_eq
  intro j
  unfold nthere
  rw [Nat.testBit_and, Nat.testBit_xor, Nat.testBit_and, Nat.testBit_xor, nall_bit]
  by_cases hj : j < S 0 0
  · rw [decide_eq_true hj]
    cases (S 0 3).testBit j <;> rfl
  · rw [decide_eq_false hj, Nat.testBit_lt_two_pow (Nat.lt_of_lt_of_le h.2.2.2.2.2.1 (Nat.pow_le_pow_right (by decide) (by omega)))]
    rfl
/-- told -/
noncomputable def ntold (p : Nat) (S : ns_T) (w : Int32) : Int32 :=
  if w = 0 then nI p else if w = 1 then nI (ggen p) else if w = 2 then nI (S 0 3) else if w = 3 then nI (nhlpd p S) else if w = 4 then nI (nrk p S (nthere S)) else
  if w = 5 then bI (nrk p S (nthere S ||| S 0 2) = nrk p S (nthere S)) else if w = 6 then hI (ndis p S) else -1
