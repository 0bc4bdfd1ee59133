def Fr3 (σ σ' : ex_S) : Prop := (∀ k, k ≠ 2 → k ≠ 3 → σ' 3 k = σ 3 k) ∧ ∀ i, i ≠ 3 → σ' i = σ i
def PS (σ σ' : ex_S) (r : ps_T) : Prop := σ' 3 2 = nI r.2.2 ∧ σ' 3 3 = nI r.2.1 ∧ Fr3 σ σ'
theorem Fr3.rf {σ : ex_S} : Fr3 σ σ := ⟨fun _ _ _ => rfl, fun _ _ => rfl⟩
theorem Fr3.tr {σ σ' σ2 : ex_S} (h : Fr3 σ σ') (h2 : Fr3 σ' σ2) : Fr3 σ σ2 := ⟨fun k a b => (h2.1 k a b).trans (h.1 k a b), fun i a => (h2.2 i a).trans (h.2 i a)⟩
theorem Fr3.s3 {σ σ' : ex_S} (h : Fr3 σ σ') {k : Nat} {v : Int32} (hk : k = 2 ∨ k = 3) : Fr3 σ (sup σ' 3 k v) := ⟨fun j a b => by rw [sup_idx (by omega)]; exact h.1 j a b, fun i a => by rw [sup_obj a]; exact h.2 i a⟩
theorem TXC.f3 {σ σ' : ex_S} {z : Nat} {X : Nat → Nat} (h : TXC σ z X) (f : Fr3 σ σ') : TXC σ' z X := ⟨by rw [f.1 1 (by decide) (by decide)]; exact h.1, fun i hi => by rw [f.2 4 (by decide)]; exact h.2 i hi⟩
theorem FC.f3 {σ σ' : ex_S} {p : Nat} (h : FC σ p) (f : Fr3 σ σ') : FC σ' p := h.to (f.2 1 (by decide)) (f.2 2 (by decide))
theorem PS.pre {σ σ1 σ' : ex_S} {r : ps_T} (f : Fr3 σ σ1) (h : PS σ1 σ' r) : PS σ σ' r := ⟨h.1, h.2.1, f.tr h.2.2⟩
theorem s201 {X : Nat → Nat} {z : Nat} (hX : ∀ i, i < z → X i < 128) (a : Nat) : sgn X z a < 201 := by
  have := sgn_lt hX a
  omega
theorem bN_t : bN true = 1 := rfl
theorem bN_f : bN false = 0 := rfl
theorem lt_21 {t d : Nat} (ht : t < 16) (hd : d ≤ 4) : t * 2 ^ (4 * d) < 2 ^ 20 := by
  have h2 : 2 ^ (4 * d) ≤ 2 ^ 16 := Nat.pow_le_pow_right (by decide) (by omega)
  have h3 := Nat.mul_le_mul (show t ≤ 15 by omega) h2
  omega

set_option maxRecDepth 100000 in
set_option maxHeartbeats 1000000 in
theorem c1_next {z a : Nat} {X : Nat → Nat} (hX : ∀ i, i < z → X i < 128) (hz : z ≤ 100) (ha : a ≤ z) {σ : ex_S} {μ : ex_L}(hT : TXC σ z X) (h3 : σ 3 3 = nI a) : Ci 1 yX1_next cX1_next 1 (some .int) [.ref 3] TT σ μ (fun z' σ' μ' => z' = sI (sgn X z a) ∧ σ' = σ ∧ μ' = μ) := by
  refine Cl_of (by decide +kernel) (Nat.le_of_ble_eq_true rfl) ?_
  show Ev RX1 cX1_next 1 1 0 0 "next" (some .int) ev_ext _ _ 0 0 0 [(0, .ref 3)] [] TT σ μ
  refine e_aload_n dX1_next_0 rfl 0 rfl ?_
  refine e_getI dX1_next_1 lkX1_22 tt_3 rfl ?_
  rw [h3]
  refine e_if_lt (t := 42) dX1_next_4 (by decide) (fun h4 => ?_) (fun h4 => ?_)
  · skip
    exact absurd (i_nn (show a < 2 ^ 31 by omega)) (nlt_0 h4)
  · skip
    refine e_aload_n dX1_next_7 rfl 0 rfl ?_
    refine e_getI dX1_next_8 lkX1_22 tt_3 rfl ?_
    refine e_aload_n dX1_next_11 rfl 0 rfl ?_
    refine e_getI dX1_next_12 lkX1_15 tt_3 rfl ?_
    rw [h3, hT.1]
    refine e_icmp_ge (t := 42) dX1_next_15 (by decide) (fun h15 => ?_) (fun h15 => ?_)
    · skip
      skip
      refine e_iconst (v := (-1)) dX1_next_42 rfl ?_
      refine e_reti dX1_next_43 ev_nwi (Nat.le_refl _) (Nat.le_refl _) ?_
      rw [sgn_out ((i_le (by omega) (by omega)).mp h15)]
      exact ⟨rfl, rfl, rfl⟩
    · skip
      have haz : a < z := by
        have : ¬ z ≤ a := fun q => h15 ((i_le (by omega) (by omega)).mpr q)
        omega
      refine e_aload_n dX1_next_18 rfl 0 rfl ?_
      refine e_getI dX1_next_19 lkX1_22 tt_3 rfl ?_
      refine e_aload_n dX1_next_22 rfl 0 rfl ?_
      refine e_getR dX1_next_23 lkX1_11 tt_3 rfl ?_
      refine e_alen dX1_next_26 tt_4 (Nat.le_of_ble_eq_true rfl) ?_
      rw [h3, show Int32.ofNat 100 = nI 100 from rfl]
      refine e_icmp_ge (t := 42) dX1_next_27 (by decide) (fun h27 => ?_) (fun h27 => ?_)
      · skip
        exact absurd ((i_le (by omega) (by omega)).mp (show nI 100 ≤ nI a from h27)) (by omega)
      · skip
        refine e_aload_n dX1_next_30 rfl 0 rfl ?_
        refine e_getR dX1_next_31 lkX1_11 tt_3 rfl ?_
        refine e_aload_n dX1_next_34 rfl 0 rfl ?_
        refine e_getI dX1_next_35 lkX1_22 tt_3 rfl ?_
        rw [h3]
        refine e_cald dX1_next_38 tt_4 (vp_in_nI (by omega) (by decide)) ?_
        rw [i_cl (by omega), hT.2 a haz]
        refine e_goto (t := 43) dX1_next_39 (by decide) ?_
        refine e_reti dX1_next_43 ev_nwi (Nat.le_refl _) (Nat.le_refl _) ?_
        unfold sgn
        rw [if_pos haz]
        exact ⟨(if_neg (show ¬ X a = 200 from fun q => by have := hX a haz; omega)).symm, rfl, rfl⟩

set_option maxRecDepth 100000 in
theorem c1_skip {z a : Nat} {X : Nat → Nat} (hX : ∀ i, i < z → X i < 128) (hz : z ≤ 100) (ha : a ≤ z) {c : Nat} (hc : c < 128) {σ : ex_S} {μ : ex_L}(hT : TXC σ z X) (h3 : σ 3 3 = nI a) : Ci 2 yX1_skip cX1_skip 2 (some .boolean) [.ref 3, .int (nI c)] TT σ μ (fun z' σ' μ' => ((z' = 1 ∧ sgn X z a = c ∧ σ' = sup σ 3 3 (nI (a + 1))) ∨ (z' = 0 ∧ ¬ sgn X z a = c ∧ σ' = σ)) ∧ μ' = μ) := by
  refine Cl_of (by decide +kernel) (Nat.le_of_ble_eq_true rfl) ?_
  show Ev RX1 cX1_skip 2 2 0 0 "skip" (some .boolean) ev_ext _ _ 0 0 0 [(0, .ref 3), (1, .int (nI c))] [] TT σ μ
  refine e_aload_n dX1_skip_0 rfl 0 rfl ?_
  refine e_callVi dX1_skip_1 cvX1_36 rfl tt_3 rfl (c1_next hX hz ha hT h3) (Nat.le_of_ble_eq_true rfl) (Nat.le_refl _) (Nat.le_refl _) rfl (Nat.le_of_ble_eq_true rfl) (fun r1 s1 m1 q1 => ?_)
  obtain ⟨q1, e1, g1⟩ := q1
  rw [e1, g1]
  clear e1 g1 s1 m1
  refine e_iload_n dX1_skip_4 rfl 1 rfl ?_
  rw [q1]
  refine e_icmp_eq (t := 10) dX1_skip_5 (by decide) (fun h5 => ?_) (fun h5 => ?_)
  · skip
    refine e_aload_n dX1_skip_10 rfl 0 rfl ?_
    refine e_dup dX1_skip_11 rfl ?_
    refine e_getI dX1_skip_12 lkX1_22 tt_3 rfl ?_
    rw [h3]
    refine e_iconst (v := 1) dX1_skip_15 rfl ?_
    refine e_iadd dX1_skip_16 ?_
    rw [nI_1 a]
    refine e_putI dX1_skip_17 lkX1_22' tt_3 rfl rfl rfl ?_
    refine e_iconst (v := 1) dX1_skip_20 rfl ?_
    refine e_reti dX1_skip_21 ev_nw1 (Nat.le_refl _) (Nat.le_refl _) ?_
    exact ⟨Or.inl ⟨rfl, (sI_c (sgn_lt hX a) hc).mp h5, rfl⟩, rfl⟩
  · skip
    refine e_iconst (v := 0) dX1_skip_8 rfl ?_
    refine e_reti dX1_skip_9 ev_nw0 (Nat.le_refl _) (Nat.le_refl _) ?_
    exact ⟨Or.inr ⟨rfl, fun q => h5 ((sI_c (sgn_lt hX a) hc).mpr q), rfl⟩, rfl⟩

set_option maxRecDepth 100000 in
theorem c1_hex {s : Nat} (hs : s < 201) {σ : ex_S} {μ : ex_L} : Ci 1 yX1_hexadecimal cX1_hexadecimal 1 (some .int) [.int (sI s)] TT σ μ (fun z' σ' μ' => z' = hxI s ∧ σ' = σ ∧ μ' = μ) := by
  refine Cl_of (by decide +kernel) (Nat.le_of_ble_eq_true rfl) ?_
  show Ev RX1 cX1_hexadecimal 1 1 0 0 "hexadecimal" (some .int) ev_ext _ _ 0 0 0 [(0, .int (sI s))] [] TT σ μ
  refine e_iload_n dX1_hexadecimal_0 rfl 0 rfl ?_
  refine e_bipush (v := 48) dX1_hexadecimal_1 rfl ?_
  refine e_icmp_lt (t := 17) dX1_hexadecimal_3 (by decide) (fun h3 => ?_) (fun h3 => ?_)
  · skip
    skip
    refine e_iload_n dX1_hexadecimal_17 rfl 0 rfl ?_
    refine e_bipush (v := 97) dX1_hexadecimal_18 rfl ?_
    refine e_icmp_lt (t := 39) dX1_hexadecimal_20 (by decide) (fun h20 => ?_) (fun h20 => ?_)
    · skip
      skip
      refine e_iconst (v := (-1)) dX1_hexadecimal_39 rfl ?_
      refine e_reti dX1_hexadecimal_40 ev_nwi (Nat.le_refl _) (Nat.le_refl _) ?_
      exact ⟨hx_3 s hs (Or.inl h3) (Or.inl h20), rfl, rfl⟩
    · skip
      refine e_iload_n dX1_hexadecimal_23 rfl 0 rfl ?_
      refine e_bipush (v := 102) dX1_hexadecimal_24 rfl ?_
      refine e_icmp_gt (t := 39) dX1_hexadecimal_26 (by decide) (fun h26 => ?_) (fun h26 => ?_)
      · skip
        skip
        refine e_iconst (v := (-1)) dX1_hexadecimal_39 rfl ?_
        refine e_reti dX1_hexadecimal_40 ev_nwi (Nat.le_refl _) (Nat.le_refl _) ?_
        exact ⟨hx_3 s hs (Or.inl h3) (Or.inr h26), rfl, rfl⟩
      · skip
        refine e_iload_n dX1_hexadecimal_29 rfl 0 rfl ?_
        refine e_bipush (v := 97) dX1_hexadecimal_30 rfl ?_
        refine e_isub dX1_hexadecimal_32 ?_
        refine e_bipush (v := 10) dX1_hexadecimal_33 rfl ?_
        refine e_iadd dX1_hexadecimal_35 ?_
        refine e_goto (t := 40) dX1_hexadecimal_36 (by decide) ?_
        refine e_reti dX1_hexadecimal_40 ev_nwi (Nat.le_refl _) (Nat.le_refl _) ?_
        exact ⟨hx_2 s hs (Or.inl h3) h20 h26, rfl, rfl⟩
  · skip
    refine e_iload_n dX1_hexadecimal_6 rfl 0 rfl ?_
    refine e_bipush (v := 57) dX1_hexadecimal_7 rfl ?_
    refine e_icmp_gt (t := 17) dX1_hexadecimal_9 (by decide) (fun h9 => ?_) (fun h9 => ?_)
    · skip
      skip
      refine e_iload_n dX1_hexadecimal_17 rfl 0 rfl ?_
      refine e_bipush (v := 97) dX1_hexadecimal_18 rfl ?_
      refine e_icmp_lt (t := 39) dX1_hexadecimal_20 (by decide) (fun h20 => ?_) (fun h20 => ?_)
      · skip
        skip
        refine e_iconst (v := (-1)) dX1_hexadecimal_39 rfl ?_
        refine e_reti dX1_hexadecimal_40 ev_nwi (Nat.le_refl _) (Nat.le_refl _) ?_
        exact ⟨hx_3 s hs (Or.inr h9) (Or.inl h20), rfl, rfl⟩
      · skip
        refine e_iload_n dX1_hexadecimal_23 rfl 0 rfl ?_
        refine e_bipush (v := 102) dX1_hexadecimal_24 rfl ?_
        refine e_icmp_gt (t := 39) dX1_hexadecimal_26 (by decide) (fun h26 => ?_) (fun h26 => ?_)
        · skip
          skip
          refine e_iconst (v := (-1)) dX1_hexadecimal_39 rfl ?_
          refine e_reti dX1_hexadecimal_40 ev_nwi (Nat.le_refl _) (Nat.le_refl _) ?_
          exact ⟨hx_3 s hs (Or.inr h9) (Or.inr h26), rfl, rfl⟩
        · skip
          refine e_iload_n dX1_hexadecimal_29 rfl 0 rfl ?_
          refine e_bipush (v := 97) dX1_hexadecimal_30 rfl ?_
          refine e_isub dX1_hexadecimal_32 ?_
          refine e_bipush (v := 10) dX1_hexadecimal_33 rfl ?_
          refine e_iadd dX1_hexadecimal_35 ?_
          refine e_goto (t := 40) dX1_hexadecimal_36 (by decide) ?_
          refine e_reti dX1_hexadecimal_40 ev_nwi (Nat.le_refl _) (Nat.le_refl _) ?_
          exact ⟨hx_2 s hs (Or.inr h9) h20 h26, rfl, rfl⟩
    · skip
      refine e_iload_n dX1_hexadecimal_12 rfl 0 rfl ?_
      refine e_bipush (v := 48) dX1_hexadecimal_13 rfl ?_
      refine e_isub dX1_hexadecimal_15 ?_
      refine e_reti dX1_hexadecimal_16 ev_nwi (Nat.le_refl _) (Nat.le_refl _) ?_
      exact ⟨hx_1 s hs h3 h9, rfl, rfl⟩

set_option maxRecDepth 100000 in
theorem c1_parseData {z a : Nat} {X : Nat → Nat} (hX : ∀ i, i < z → X i < 128) (hz : z ≤ 100) (ha : a ≤ z) {t f : Nat} (ht : t < 16) (hf : f < 2 ^ 20) {σ : ex_S} {μ : ex_L}(hT : TXC σ z X) (h2 : σ 3 2 = nI f) (h3 : σ 3 3 = nI a) : Ci 2 yX1_parseData cX1_parseData 3 (some .boolean) [.ref 3, .int (nI t)] TT σ μ (fun z' σ' μ' => z' = bN (dat X z a t f).1 ∧ PS σ σ' (dat X z a t f) ∧ μ' = μ) := by
  refine Cl_of (by decide +kernel) (Nat.le_of_ble_eq_true rfl) ?_
  show Ev RX1 cX1_parseData 3 2 0 0 "parseData" (some .boolean) ev_ext _ _ 0 0 0 [(0, .ref 3), (1, .int (nI t))] [] TT σ μ
  refine e_aload_n dX1_parseData_0 rfl 0 rfl ?_
  refine e_callVi dX1_parseData_1 cvX1_36 rfl tt_3 rfl (c1_next hX hz ha hT h3) (Nat.le_of_ble_eq_true rfl) (Nat.le_refl _) (Nat.le_refl _) rfl (Nat.le_of_ble_eq_true rfl) (fun r1 s1 m1 q1 => ?_)
  obtain ⟨q1, e1, g1⟩ := q1
  rw [e1, g1]
  clear e1 g1 s1 m1
  refine e_bipush (v := 48) dX1_parseData_4 rfl ?_
  rw [q1]
  refine e_isub dX1_parseData_6 ?_
  refine e_istore_n [(0, .ref 3), (1, .int (nI t)), (2, .int (sI (sgn X z a) - 48))] dX1_parseData_7 rfl (by decide) rfl ?_
  refine e_iload_n dX1_parseData_8 rfl 2 rfl ?_
  refine e_if_lt (t := 17) dX1_parseData_9 (by decide) (fun h9 => ?_) (fun h9 => ?_)
  · skip
    skip
    refine e_iconst (v := 0) dX1_parseData_17 rfl ?_
    refine e_reti dX1_parseData_18 ev_nw0 (Nat.le_refl _) (Nat.le_refl _) ?_
    rw [dat_n (dt_1 _ (s201 hX a) h9)]
    exact ⟨rfl, ⟨h2, h3, Fr3.rf⟩, rfl⟩
  · skip
    refine e_iload_n dX1_parseData_12 rfl 2 rfl ?_
    refine e_iconst (v := 5) dX1_parseData_13 rfl ?_
    refine e_icmp_lt (t := 19) dX1_parseData_14 (by decide) (fun h14 => ?_) (fun h14 => ?_)
    · skip
      obtain ⟨hs1, hs2⟩ := dt_3 _ (s201 hX a) h9 h14
      refine e_aload_n dX1_parseData_19 rfl 0 rfl ?_
      refine e_dup dX1_parseData_20 rfl ?_
      
      refine e_getI dX1_parseData_21 lkX1_19 tt_3 rfl ?_
      rw [h2]
      refine e_iload_n dX1_parseData_24 rfl 1 rfl ?_
      refine e_iconst (v := 4) dX1_parseData_25 rfl ?_
      refine e_iload_n dX1_parseData_26 rfl 2 rfl ?_
      refine e_imul dX1_parseData_27 ?_
      refine e_ishl dX1_parseData_28 ?_
      refine e_ixor dX1_parseData_29 ?_
      rw [hs2, show (4 : Int32) = nI 4 from rfl, i_mul, i_shl (Nat.lt_trans (lt_21 ht (by omega)) (by decide)) (by omega), nx_xor]
      refine e_putI dX1_parseData_30 lkX1_19' tt_3 rfl rfl rfl ?_
      refine e_aload_n dX1_parseData_33 rfl 0 rfl ?_
      refine e_dup dX1_parseData_34 rfl ?_
      refine e_getI dX1_parseData_35 lkX1_22 tt_3 rfl ?_
      rw [sup_idx (by decide), h3]
      refine e_iconst (v := 1) dX1_parseData_38 rfl ?_
      refine e_iadd dX1_parseData_39 ?_
      rw [nI_1 a]
      refine e_putI dX1_parseData_40 lkX1_22' tt_3 rfl rfl rfl ?_
      refine e_iconst (v := 1) dX1_parseData_43 rfl ?_
      refine e_reti dX1_parseData_44 ev_nw1 (Nat.le_refl _) (Nat.le_refl _) ?_
      rw [dat_y hs1]
      exact ⟨rfl, ⟨by rw [sup_idx (by decide), sup_same], sup_same, (Fr3.rf.s3 (Or.inl rfl)).s3 (Or.inr rfl)⟩, rfl⟩
    · skip
      skip
      refine e_iconst (v := 0) dX1_parseData_17 rfl ?_
      refine e_reti dX1_parseData_18 ev_nw0 (Nat.le_refl _) (Nat.le_refl _) ?_
      rw [dat_n (dt_2 _ (s201 hX a) h14)]
      exact ⟨rfl, ⟨h2, h3, Fr3.rf⟩, rfl⟩

def SmC (p z : Nat) (X : Nat → Nat) (j : Nat) : Prop := ∀ (a t f : Nat) (σ : ex_S) (μ : ex_L), TXC σ z X → FC σ p → σ 3 2 = nI f → σ 3 3 = nI a → a ≤ z → t < 16 → f < 2 ^ 20 →  Ci (5 + 2 * j) yX1_parseSum cX1_parseSum 5 (some .boolean) [.ref 3, .ref 1, .int (nI t), .int (nI (4 - j))] TT σ μ (fun z' σ' μ' => z' = bN (smP p X z j a t f).1 ∧ PS σ σ' (smP p X z j a t f) ∧ μ' = μ)
def TmC (p z : Nat) (X : Nat → Nat) (j : Nat) : Prop := ∀ (a t f : Nat) (σ : ex_S) (μ : ex_L), TXC σ z X → FC σ p → σ 3 2 = nI f → σ 3 3 = nI a → a ≤ z → t < 16 → f < 2 ^ 20 →  Ci (4 + 2 * j) yX1_parseTerm cX1_parseTerm 6 (some .boolean) [.ref 3, .ref 1, .int (nI t), .int (nI (4 - j))] TT σ μ (fun z' σ' μ' => z' = bN (tmP p X z j a t f).1 ∧ PS σ σ' (tmP p X z j a t f) ∧ μ' = μ)

def LC (p z : Nat) (X : Nat → Nat) (j : Nat) : Prop := ∀ (d a t f : Nat) (fa de : Int32) (σ : ex_S) (μ : ex_L) (Qr : Int32 → ex_S → ex_L → Prop), 4 + 2 * j ≤ d → TXC σ z X → FC σ p → σ 3 2 = nI f → σ 3 3 = nI a → a ≤ z → t < 16 → f < 2 ^ 20 →  (∀ σ', PS σ σ' (tmP p X z j a t f) → Qr (bN (tmP p X z j a t f).1) σ' μ) → Ev RX1 cX1_parseTerm 6 d 0 0 "parseTerm" (some .boolean) ev_ext TT.length (fun v9 T9 σ9 μ9 => T9 = TT ∧ ∃ z9, v9 = some (.int z9) ∧ (Qr) z9 σ9 μ9) 0 0 6 [(0, .ref 3), (1, .ref 1), (2, .int fa), (3, .int de), (4, .int (nI t)), (5, .int (nI (4 - j)))] [] TT σ μ

set_option maxRecDepth 100000 in
theorem c1_L0 {p z : Nat} {X : Nat → Nat} (hX : ∀ i, i < z → X i < 128) (hz : z ≤ 100) : LC p z X 0 := by
  intro d a t f fa de σ μ Qr hd hT hF hf2 h3 ha ht hf hQ
  refine e_iload dX1_parseTerm_6 5 rfl ?_
  refine e_iconst (v := 4) dX1_parseTerm_8 rfl ?_
  refine e_icmp_ge (t := 64) dX1_parseTerm_9 (by decide) (fun h9 => ?_) (fun h9 => ?_)
  · skip
    refine e_aload_n dX1_parseTerm_64 rfl 0 rfl ?_
    refine e_bipush (v := 120) dX1_parseTerm_65 rfl ?_
    refine e_callVi dX1_parseTerm_67 cvX1_32 rfl tt_3 rfl (c1_skip hX hz (a := a) (c := 120) ha (by decide) hT h3) (by omega) (Nat.le_refl _) (Nat.le_refl _) rfl (Nat.le_of_ble_eq_true rfl) (fun r67 s67 m67 q67 => ?_)
    obtain ⟨q67, g67⟩ := q67
    rw [g67]
    refine e_if_eq (t := 80) dX1_parseTerm_70 (by decide) (fun h70 => ?_) (fun h70 => ?_)
    · skip
      have k67 : ¬ sgn X z a = 120 ∧ s67 = σ := by
        rcases q67 with q | q
        · exact absurd (q.1.symm.trans h70) (by decide)
        · exact ⟨q.2.1, q.2.2⟩
      rw [k67.2]
      refine e_iload dX1_parseTerm_80 5 rfl ?_
      refine e_iconst (v := 4) dX1_parseTerm_82 rfl ?_
      refine e_icmp_ge (t := 95) dX1_parseTerm_83 (by decide) (fun h83 => ?_) (fun h83 => ?_)
      · skip
        refine e_iconst (v := 0) dX1_parseTerm_95 rfl ?_
        refine e_reti dX1_parseTerm_96 ev_nw0 (Nat.le_refl _) (Nat.le_refl _) ?_
        have h9 := hQ σ (by rw [tm_0 k67.1]; exact ⟨hf2, h3, Fr3.rf⟩)
        rw [tm_0 k67.1] at h9
        exact h9
      · skip
        exact absurd (show (4 : Int32) ≤ nI (4 - 0) by decide) h83
    · skip
      have k67 : sgn X z a = 120 ∧ s67 = sup σ 3 3 (nI (a + 1)) := by
        rcases q67 with q | q
        · exact ⟨q.2.1, q.2.2⟩
        · exact absurd q.1 h70
      rw [k67.2]
      refine e_aload_n dX1_parseTerm_73 rfl 0 rfl ?_
      refine e_iload dX1_parseTerm_74 4 rfl ?_
      refine e_callVi dX1_parseTerm_76 cvX1_50 rfl tt_3 rfl (c1_parseData hX hz (a := a + 1) (by have := sgn_in k67.1 (by decide); omega) ht hf (hT.f3 (Fr3.rf.s3 (Or.inr rfl))) (by rw [sup_idx (by decide)]; exact hf2) sup_same) (by omega) (Nat.le_refl _) (Nat.le_refl _) rfl (Nat.le_of_ble_eq_true rfl) (fun r76 s76 m76 q76 => ?_)
      obtain ⟨q76, p76, g76⟩ := q76
      rw [g76]
      refine e_reti dX1_parseTerm_79 (ev_nwb (by rw [q76]; exact (bN_01 _).symm.elim Or.inr Or.inl)) (Nat.le_refl _) (Nat.le_refl _) ?_
      rw [q76]
      have h9 := hQ s76 (by rw [tm_x k67.1]; exact p76.pre (Fr3.rf.s3 (Or.inr rfl)))
      rw [tm_x k67.1] at h9
      exact h9
  · skip
    exact absurd (show (4 : Int32) ≤ nI (4 - 0) by decide) h9

set_option maxRecDepth 100000 in
set_option maxHeartbeats 1000000 in
theorem c1_LS {p : Nat} (hp : gP p) {z : Nat} {X : Nat → Nat} (hX : ∀ i, i < z → X i < 128) (hz : z ≤ 100) {j : Nat} (hj : j < 4) (hL : LC p z X j) (hS : SmC p z X j) : LC p z X (j + 1) := by
  intro d a t f fa de σ μ Qr hd hT hF hf2 h3 ha ht hf hQ
  have hs := s201 hX a
  refine e_iload dX1_parseTerm_6 5 rfl ?_
  refine e_iconst (v := 4) dX1_parseTerm_8 rfl ?_
  refine e_icmp_ge (t := 64) dX1_parseTerm_9 (by decide) (fun h9 => ?_) (fun h9 => ?_)
  · skip
    exact absurd ((i_le (by omega) (by omega)).mp (show nI 4 ≤ nI (4 - (j + 1)) from h9)) (by omega)
  · skip
    refine e_aload_n dX1_parseTerm_12 rfl 0 rfl ?_
    refine e_callVi dX1_parseTerm_13 cvX1_36 rfl tt_3 rfl (c1_next hX hz ha hT h3) (by omega) (Nat.le_refl _) (Nat.le_refl _) rfl (Nat.le_of_ble_eq_true rfl) (fun r13 s13 m13 q13 => ?_)
    obtain ⟨q13, e13, g13⟩ := q13
    rw [e13, g13]
    clear e13 g13 s13 m13
    rw [q13]
    refine e_callSi dX1_parseTerm_16 cvX1_40 rfl (c1_hex hs) (by omega) (Nat.le_refl _) (Nat.le_refl _) rfl (Nat.le_of_ble_eq_true rfl) (fun r16 s16 m16 q16 => ?_)
    obtain ⟨q16, e16, g16⟩ := q16
    rw [e16, g16]
    clear e16 g16 s16 m16
    rw [q16]
    refine e_if_lt (t := 64) dX1_parseTerm_19 (by decide) (fun h19 => ?_) (fun h19 => ?_)
    · skip
      have hx : ¬ hxN (sgn X z a) < 16 := (hx_neg _ hs).mp h19
      refine e_aload_n dX1_parseTerm_64 rfl 0 rfl ?_
      refine e_bipush (v := 120) dX1_parseTerm_65 rfl ?_
      refine e_callVi dX1_parseTerm_67 cvX1_32 rfl tt_3 rfl (c1_skip hX hz (a := a) (c := 120) ha (by decide) hT h3) (by omega) (Nat.le_refl _) (Nat.le_refl _) rfl (Nat.le_of_ble_eq_true rfl) (fun r67 s67 m67 q67 => ?_)
      obtain ⟨q67, g67⟩ := q67
      rw [g67]
      refine e_if_eq (t := 80) dX1_parseTerm_70 (by decide) (fun h70 => ?_) (fun h70 => ?_)
      · skip
        have k67 : ¬ sgn X z a = 120 ∧ s67 = σ := by
          rcases q67 with q | q
          · exact absurd (q.1.symm.trans h70) (by decide)
          · exact ⟨q.2.1, q.2.2⟩
        rw [k67.2]
        refine e_iload dX1_parseTerm_80 5 rfl ?_
        refine e_iconst (v := 4) dX1_parseTerm_82 rfl ?_
        refine e_icmp_ge (t := 95) dX1_parseTerm_83 (by decide) (fun h83 => ?_) (fun h83 => ?_)
        · skip
          exact absurd ((i_le (by omega) (by omega)).mp (show nI 4 ≤ nI (4 - (j + 1)) from h83)) (by omega)
        · skip
          refine e_aload_n dX1_parseTerm_86 rfl 0 rfl ?_
          refine e_bipush (v := 40) dX1_parseTerm_87 rfl ?_
          refine e_callVi dX1_parseTerm_89 cvX1_32 rfl tt_3 rfl (c1_skip hX hz (a := a) (c := 40) ha (by decide) hT h3) (by omega) (Nat.le_refl _) (Nat.le_refl _) rfl (Nat.le_of_ble_eq_true rfl) (fun r89 s89 m89 q89 => ?_)
          obtain ⟨q89, g89⟩ := q89
          rw [g89]
          refine e_if_ne (t := 97) dX1_parseTerm_92 (by decide) (fun h92 => ?_) (fun h92 => ?_)
          · skip
            have k89 : sgn X z a = 40 ∧ s89 = sup σ 3 3 (nI (a + 1)) := by
              rcases q89 with q | q
              · exact ⟨q.2.1, q.2.2⟩
              · exact absurd q.1 h92
            rw [k89.2]
            have hao : a + 1 ≤ z := sgn_in k89.1 (by decide)
            have hb : PB z (a + 1) (smP p X z j (a + 1) t f) := sm_b (k := j) hp hao ht hf 100 (X := X)
            refine e_aload_n dX1_parseTerm_97 rfl 0 rfl ?_
            refine e_aload_n dX1_parseTerm_98 rfl 1 rfl ?_
            refine e_iload dX1_parseTerm_99 4 rfl ?_
            refine e_iload dX1_parseTerm_101 5 rfl ?_
            refine e_iconst (v := 1) dX1_parseTerm_103 rfl ?_
            refine e_iadd dX1_parseTerm_104 ?_
            rw [nI_1 (4 - (j + 1)), show 4 - (j + 1) + 1 = 4 - j by omega]
            refine e_callVi dX1_parseTerm_105 cvX1_25 rfl tt_3 rfl (hS (a + 1) t f _ μ (hT.f3 (Fr3.rf.s3 (Or.inr rfl))) (hF.f3 (Fr3.rf.s3 (Or.inr rfl))) (by rw [sup_idx (by decide)]; exact hf2) sup_same hao ht hf) (by omega) (Nat.le_refl _) (Nat.le_refl _) rfl (Nat.le_of_ble_eq_true rfl) (fun r105 s105 m105 q105 => ?_)
            obtain ⟨q105, p105, g105⟩ := q105
            rw [g105]
            refine e_if_eq (t := 124) dX1_parseTerm_108 (by decide) (fun h108 => ?_) (fun h108 => ?_)
            · skip
              have hr1 : ¬ (smP p X z j (a + 1) t f).1 = true := fun q => by
                rw [q105, q] at h108
                exact absurd h108 (by decide)
              refine e_iconst (v := 0) dX1_parseTerm_124 rfl ?_
              refine e_reti dX1_parseTerm_125 ev_nw0 (Nat.le_refl _) (Nat.le_refl _) ?_
              have h9 := hQ s105 (by rw [tm_o k89.1, clo_n (fun q => hr1 q.1)]; exact ⟨p105.1, p105.2.1, (Fr3.rf.s3 (Or.inr rfl)).tr p105.2.2⟩)
              rw [tm_o k89.1, clo_n (fun q => hr1 q.1)] at h9
              exact h9
            · skip
              have hr1 : (smP p X z j (a + 1) t f).1 = true := by
                cases h9 : (smP p X z j (a + 1) t f).1 with
                | true => rfl
                | false => rw [q105, h9] at h108; exact absurd rfl h108
              refine e_aload_n dX1_parseTerm_111 rfl 0 rfl ?_
              refine e_bipush (v := 41) dX1_parseTerm_112 rfl ?_
              refine e_callVi dX1_parseTerm_114 cvX1_32 rfl tt_3 rfl (c1_skip hX hz (a := (smP p X z j (a + 1) t f).2.1) (c := 41) hb.2.1 (by decide) (hT.f3 ((Fr3.rf.s3 (Or.inr rfl)).tr p105.2.2)) p105.2.1) (by omega) (Nat.le_refl _) (Nat.le_refl _) rfl (Nat.le_of_ble_eq_true rfl) (fun r114 s114 m114 q114 => ?_)
              obtain ⟨q114, g114⟩ := q114
              rw [g114]
              refine e_if_eq (t := 124) dX1_parseTerm_117 (by decide) (fun h117 => ?_) (fun h117 => ?_)
              · skip
                have k114 : ¬ sgn X z (smP p X z j (a + 1) t f).2.1 = 41 ∧ s114 = s105 := by
                  rcases q114 with q | q
                  · exact absurd (q.1.symm.trans h117) (by decide)
                  · exact ⟨q.2.1, q.2.2⟩
                rw [k114.2]
                refine e_iconst (v := 0) dX1_parseTerm_124 rfl ?_
                refine e_reti dX1_parseTerm_125 ev_nw0 (Nat.le_refl _) (Nat.le_refl _) ?_
                have h9 := hQ s105 (by rw [tm_o k89.1, clo_n (fun q => k114.1 q.2)]; exact ⟨p105.1, p105.2.1, (Fr3.rf.s3 (Or.inr rfl)).tr p105.2.2⟩)
                rw [tm_o k89.1, clo_n (fun q => k114.1 q.2)] at h9
                exact h9
              · skip
                have k114 : sgn X z (smP p X z j (a + 1) t f).2.1 = 41 ∧ s114 = sup s105 3 3 (nI ((smP p X z j (a + 1) t f).2.1 + 1)) := by
                  rcases q114 with q | q
                  · exact ⟨q.2.1, q.2.2⟩
                  · exact absurd q.1 h117
                rw [k114.2]
                refine e_iconst (v := 1) dX1_parseTerm_120 rfl ?_
                refine e_goto (t := 125) dX1_parseTerm_121 (by decide) ?_
                refine e_reti dX1_parseTerm_125 ev_nw1 (Nat.le_refl _) (Nat.le_refl _) ?_
                have h9 := hQ _ (by rw [tm_o k89.1, clo_y hr1 k114.1]; exact ⟨by rw [sup_idx (by decide)]; exact p105.1, sup_same, ((Fr3.rf.s3 (Or.inr rfl)).tr p105.2.2).s3 (Or.inr rfl)⟩)
                rw [tm_o k89.1, clo_y hr1 k114.1] at h9
                exact h9
          · skip
            have k89 : ¬ sgn X z a = 40 ∧ s89 = σ := by
              rcases q89 with q | q
              · exact absurd (q.1.symm.trans h92) (by decide)
              · exact ⟨q.2.1, q.2.2⟩
            rw [k89.2]
            refine e_iconst (v := 0) dX1_parseTerm_95 rfl ?_
            refine e_reti dX1_parseTerm_96 ev_nw0 (Nat.le_refl _) (Nat.le_refl _) ?_
            have h9 := hQ σ (by rw [tm_n k67.1 hx k89.1]; exact ⟨hf2, h3, Fr3.rf⟩)
            rw [tm_n k67.1 hx k89.1] at h9
            exact h9
      · skip
        have k67 : sgn X z a = 120 ∧ s67 = sup σ 3 3 (nI (a + 1)) := by
          rcases q67 with q | q
          · exact ⟨q.2.1, q.2.2⟩
          · exact absurd q.1 h70
        rw [k67.2]
        refine e_aload_n dX1_parseTerm_73 rfl 0 rfl ?_
        refine e_iload dX1_parseTerm_74 4 rfl ?_
        refine e_callVi dX1_parseTerm_76 cvX1_50 rfl tt_3 rfl (c1_parseData hX hz (a := a + 1) (by have := sgn_in k67.1 (by decide); omega) ht hf (hT.f3 (Fr3.rf.s3 (Or.inr rfl))) (by rw [sup_idx (by decide)]; exact hf2) sup_same) (by omega) (Nat.le_refl _) (Nat.le_refl _) rfl (Nat.le_of_ble_eq_true rfl) (fun r76 s76 m76 q76 => ?_)
        obtain ⟨q76, p76, g76⟩ := q76
        rw [g76]
        refine e_reti dX1_parseTerm_79 (ev_nwb (by rw [q76]; exact (bN_01 _).symm.elim Or.inr Or.inl)) (Nat.le_refl _) (Nat.le_refl _) ?_
        rw [q76]
        have h9 := hQ s76 (by rw [tm_x k67.1]; exact p76.pre (Fr3.rf.s3 (Or.inr rfl)))
        rw [tm_x k67.1] at h9
        exact h9
    · skip
      have hx : hxN (sgn X z a) < 16 := Classical.not_not.mp (fun q => h19 ((hx_neg _ hs).mpr q))
      have haz := hx_in hx
      refine e_aload_n dX1_parseTerm_22 rfl 1 rfl ?_
      refine e_iload dX1_parseTerm_23 4 rfl ?_
      refine e_aload_n dX1_parseTerm_25 rfl 0 rfl ?_
      refine e_callVi dX1_parseTerm_26 cvX1_36 rfl tt_3 rfl (c1_next hX hz ha hT h3) (by omega) (Nat.le_refl _) (Nat.le_refl _) rfl (Nat.le_of_ble_eq_true rfl) (fun r26 s26 m26 q26 => ?_)
      obtain ⟨q26, e26, g26⟩ := q26
      rw [e26, g26]
      clear e26 g26 s26 m26
      rw [q26]
      refine e_callSi dX1_parseTerm_29 cvX1_40 rfl (c1_hex hs) (by omega) (Nat.le_refl _) (Nat.le_refl _) rfl (Nat.le_of_ble_eq_true rfl) (fun r29 s29 m29 q29 => ?_)
      obtain ⟨q29, e29, g29⟩ := q29
      rw [e29, g29]
      clear e29 g29 s29 m29
      rw [q29, show hxI (sgn X z a) = nI (hxN (sgn X z a)) from if_pos hx]
      refine e_callVi dX1_parseTerm_32 cvX1_44 rfl tt_1 rfl (c4_productS hp ht hx hF) (by omega) (Nat.le_refl _) (Nat.le_refl _) rfl (Nat.le_of_ble_eq_true rfl) (fun r32 s32 m32 q32 => ?_)
      obtain ⟨q32, e32, g32⟩ := q32
      rw [e32, g32]
      clear e32 g32 s32 m32
      rw [q32]
      refine e_istore [(0, .ref 3), (1, .ref 1), (2, .int fa), (3, .int de), (4, .int (nI (gmul p t (hxN (sgn X z a))))), (5, .int (nI (4 - (j + 1))))] dX1_parseTerm_35 (by decide) rfl ?_
      refine e_aload_n dX1_parseTerm_37 rfl 0 rfl ?_
      refine e_dup dX1_parseTerm_38 rfl ?_
      refine e_getI dX1_parseTerm_39 lkX1_22 tt_3 rfl ?_
      rw [h3]
      refine e_iconst (v := 1) dX1_parseTerm_42 rfl ?_
      refine e_iadd dX1_parseTerm_43 ?_
      rw [nI_1 a]
      refine e_putI dX1_parseTerm_44 lkX1_22' tt_3 rfl rfl rfl ?_
      refine e_aload_n dX1_parseTerm_47 rfl 0 rfl ?_
      refine e_bipush (v := 42) dX1_parseTerm_48 rfl ?_
      refine e_callVi dX1_parseTerm_50 cvX1_32 rfl tt_3 rfl (c1_skip hX hz (a := (a + 1)) (c := 42) haz (by decide) (hT.f3 (Fr3.rf.s3 (Or.inr rfl))) sup_same) (by omega) (Nat.le_refl _) (Nat.le_refl _) rfl (Nat.le_of_ble_eq_true rfl) (fun r50 s50 m50 q50 => ?_)
      obtain ⟨q50, g50⟩ := q50
      rw [g50]
      refine e_if_ne (t := 58) dX1_parseTerm_53 (by decide) (fun h53 => ?_) (fun h53 => ?_)
      · skip
        have k50 : sgn X z (a + 1) = 42 ∧ s50 = sup (sup σ 3 3 (nI (a + 1))) 3 3 (nI (a + 1 + 1)) := by
          rcases q50 with q | q
          · exact ⟨q.2.1, q.2.2⟩
          · exact absurd q.1 h53
        rw [k50.2]
        refine e_iinc (nI (4 - j)) [(0, .ref 3), (1, .ref 1), (2, .int fa), (3, .int de), (4, .int (nI (gmul p t (hxN (sgn X z a))))), (5, .int (nI (4 - j)))] dX1_parseTerm_58 5 rfl ((nI_1 (4 - (j + 1))).trans (by rw [show 4 - (j + 1) + 1 = 4 - j by omega])) (by decide) rfl ?_
        refine e_goto (t := 6) dX1_parseTerm_61 (by decide) ?_
        exact hL d (a + 2) (gmul p t (hxN (sgn X z a))) f fa de _ μ Qr (by omega) (hT.f3 ((Fr3.rf.s3 (Or.inr rfl)).s3 (Or.inr rfl))) (hF.f3 ((Fr3.rf.s3 (Or.inr rfl)).s3 (Or.inr rfl))) (by rw [sup_idx (by decide), sup_idx (by decide)]; exact hf2) sup_same (by have := sgn_in k50.1 (by decide); omega) (gmul_lt hp _ ht _ hx) hf (fun σ' h => by
          have h9 := hQ σ' (by rw [tm_c hx k50.1]; exact h.pre ((Fr3.rf.s3 (Or.inr rfl)).s3 (Or.inr rfl)))
          rw [tm_c hx k50.1] at h9
          exact h9)
      · skip
        have k50 : ¬ sgn X z (a + 1) = 42 ∧ s50 = sup σ 3 3 (nI (a + 1)) := by
          rcases q50 with q | q
          · exact absurd (q.1.symm.trans h53) (by decide)
          · exact ⟨q.2.1, q.2.2⟩
        rw [k50.2]
        refine e_iconst (v := 0) dX1_parseTerm_56 rfl ?_
        refine e_reti dX1_parseTerm_57 ev_nw0 (Nat.le_refl _) (Nat.le_refl _) ?_
        have h9 := hQ _ (by rw [tm_cn hx k50.1]; exact ⟨by rw [sup_idx (by decide)]; exact hf2, sup_same, (Fr3.rf.s3 (Or.inr rfl))⟩)
        rw [tm_cn hx k50.1] at h9
        exact h9

set_option maxRecDepth 100000 in
theorem c1_T {p z : Nat} {X : Nat → Nat} {j : Nat} (hL : LC p z X j) : TmC p z X j := by
  intro a t f σ μ hT hF hf2 h3 ha ht hf
  refine Cl_of (by decide +kernel) (Nat.le_of_ble_eq_true rfl) ?_
  show Ev RX1 cX1_parseTerm 6 (4 + 2 * j) 0 0 "parseTerm" (some .boolean) ev_ext _ _ 0 0 0 [(0, .ref 3), (1, .ref 1), (2, .int (nI t)), (3, .int (nI (4 - j)))] [] TT σ μ
  refine e_iload_n dX1_parseTerm_0 rfl 2 rfl ?_
  refine e_istore [(0, .ref 3), (1, .ref 1), (2, .int (nI t)), (3, .int (nI (4 - j))), (4, .int (nI t))] dX1_parseTerm_1 (by decide) rfl ?_
  refine e_iload_n dX1_parseTerm_3 rfl 3 rfl ?_
  refine e_istore [(0, .ref 3), (1, .ref 1), (2, .int (nI t)), (3, .int (nI (4 - j))), (4, .int (nI t)), (5, .int (nI (4 - j)))] dX1_parseTerm_4 (by decide) rfl ?_
  exact hL (4 + 2 * j) a t f _ _ σ μ (fun z' σ' μ' => z' = bN (tmP p X z j a t f).1 ∧ PS σ σ' (tmP p X z j a t f) ∧ μ' = μ) (Nat.le_refl _) hT hF hf2 h3 ha ht hf (fun σ' h => ⟨rfl, h, rfl⟩)

set_option maxRecDepth 100000 in
theorem c1_S {p : Nat} (hp : gP p) {z : Nat} {X : Nat → Nat} (hX : ∀ i, i < z → X i < 128) (hz : z ≤ 100) {j : Nat} (hTm : TmC p z X j) : SmC p z X j := by
  intro a0 t f0 σ0 μ hT0 hF0 hf20 h30 ha0 ht hf0
  refine Cl_of (by decide +kernel) (Nat.le_of_ble_eq_true rfl) ?_
  show Ev RX1 cX1_parseSum 5 (5 + 2 * j) 0 0 "parseSum" (some .boolean) ev_ext _ _ 0 0 0 [(0, .ref 3), (1, .ref 1), (2, .int (nI t)), (3, .int (nI (4 - j)))] [] TT σ0 μ
  have loop : ∀ (n i a f : Nat) (σ : ex_S), i + n = 100 → Fr3 σ0 σ → σ 3 2 = nI f → σ 3 3 = nI a → a ≤ z → f < 2 ^ 20 → smF (fun a' f' => tmP p X z j a' t f') X z n a f = smP p X z j a0 t f0 → Ev RX1 cX1_parseSum 5 (5 + 2 * j) 0 0 "parseSum" (some .boolean) ev_ext TT.length (fun v9 T9 σ9 μ9 => T9 = TT ∧ ∃ z9, v9 = some (.int z9) ∧ (fun z' σ' μ' => z' = bN (smP p X z j a0 t f0).1 ∧ PS σ0 σ' (smP p X z j a0 t f0) ∧ μ' = μ) z9 σ9 μ9) 0 0 3 [(0, .ref 3), (1, .ref 1), (2, .int (nI t)), (3, .int (nI (4 - j))), (4, .int (nI i))] [] TT σ μ := by
    intro n
    induction n with
    | zero =>
      intro i a f σ hi fr hf2 h3 ha hf he
      obtain rfl : i = 100 := by omega
      refine e_iload dX1_parseSum_3 4 rfl ?_
      refine e_bipush (v := 100) dX1_parseSum_5 rfl ?_
      refine e_icmp_ge (t := 39) dX1_parseSum_7 (by decide) (fun h7 => ?_) (fun h7 => ?_)
      · skip
        refine e_iconst (v := 0) dX1_parseSum_39 rfl ?_
        refine e_reti dX1_parseSum_40 ev_nw0 (Nat.le_refl _) (Nat.le_refl _) ?_
        rw [← he]
        exact ⟨rfl, ⟨hf2, h3, fr⟩, rfl⟩
      · skip
        exact absurd (show nI 100 ≤ nI 100 from (i_le (by omega) (by omega)).mpr (by omega)) h7
    | succ n ih =>
      intro i a f σ hi fr hf2 h3 ha hf he
      have hb := tm_b (X := X) hp j a t f ha ht hf
      refine e_iload dX1_parseSum_3 4 rfl ?_
      refine e_bipush (v := 100) dX1_parseSum_5 rfl ?_
      refine e_icmp_ge (t := 39) dX1_parseSum_7 (by decide) (fun h7 => ?_) (fun h7 => ?_)
      · skip
        exact absurd ((i_le (by omega) (by omega)).mp (show nI 100 ≤ nI i from h7)) (by omega)
      · skip
        refine e_aload_n dX1_parseSum_10 rfl 0 rfl ?_
        refine e_aload_n dX1_parseSum_11 rfl 1 rfl ?_
        refine e_iload_n dX1_parseSum_12 rfl 2 rfl ?_
        refine e_iload_n dX1_parseSum_13 rfl 3 rfl ?_
        refine e_callVi dX1_parseSum_14 cvX1_29 rfl tt_3 rfl (hTm a t f σ μ (hT0.f3 fr) (hF0.f3 fr) hf2 h3 ha ht hf) (by omega) (Nat.le_refl _) (Nat.le_refl _) rfl (Nat.le_of_ble_eq_true rfl) (fun r14 s14 m14 q14 => ?_)
        obtain ⟨q14, p14, g14⟩ := q14
        rw [g14]
        refine e_if_ne (t := 22) dX1_parseSum_17 (by decide) (fun h17 => ?_) (fun h17 => ?_)
        · skip
          have hr1 : (tmP p X z j a t f).1 = true := by
            cases h9 : (tmP p X z j a t f).1 with
            | true => rfl
            | false => rw [q14, h9] at h17; exact absurd rfl h17
          refine e_aload_n dX1_parseSum_22 rfl 0 rfl ?_
          refine e_bipush (v := 43) dX1_parseSum_23 rfl ?_
          refine e_callVi dX1_parseSum_25 cvX1_32 rfl tt_3 rfl (c1_skip hX hz (a := (tmP p X z j a t f).2.1) (c := 43) hb.2.1 (by decide) ((hT0.f3 fr).f3 p14.2.2) p14.2.1) (by omega) (Nat.le_refl _) (Nat.le_refl _) rfl (Nat.le_of_ble_eq_true rfl) (fun r25 s25 m25 q25 => ?_)
          obtain ⟨q25, g25⟩ := q25
          rw [g25]
          refine e_if_ne (t := 33) dX1_parseSum_28 (by decide) (fun h28 => ?_) (fun h28 => ?_)
          · skip
            have k25 : sgn X z (tmP p X z j a t f).2.1 = 43 ∧ s25 = sup s14 3 3 (nI ((tmP p X z j a t f).2.1 + 1)) := by
              rcases q25 with q | q
              · exact ⟨q.2.1, q.2.2⟩
              · exact absurd q.1 h28
            rw [k25.2]
            refine e_iinc (nI (i + 1)) [(0, .ref 3), (1, .ref 1), (2, .int (nI t)), (3, .int (nI (4 - j))), (4, .int (nI (i + 1)))] dX1_parseSum_33 4 rfl (nI_1 i) (by decide) rfl ?_
            refine e_goto (t := 3) dX1_parseSum_36 (by decide) ?_
            rw [smF_s (tm := fun a' f' => tmP p X z j a' t f') hr1 k25.1] at he
            exact ih (i + 1) _ _ _ (by omega) ((fr.tr p14.2.2).s3 (Or.inr rfl)) (by rw [sup_idx (by decide)]; exact p14.1) sup_same (sgn_in k25.1 (by decide)) hb.2.2.1 he
          · skip
            have k25 : ¬ sgn X z (tmP p X z j a t f).2.1 = 43 ∧ s25 = s14 := by
              rcases q25 with q | q
              · exact absurd (q.1.symm.trans h28) (by decide)
              · exact ⟨q.2.1, q.2.2⟩
            rw [k25.2]
            refine e_iconst (v := 1) dX1_parseSum_31 rfl ?_
            refine e_reti dX1_parseSum_32 ev_nw1 (Nat.le_refl _) (Nat.le_refl _) ?_
            rw [smF_e (tm := fun a' f' => tmP p X z j a' t f') (fun q => k25.1 q.2)] at he
            rw [← he]
            exact ⟨by rw [show bN (tmP p X z j a t f).1 = 1 from by rw [hr1]; rfl], p14.pre fr, rfl⟩
        · skip
          have hr1 : ¬ (tmP p X z j a t f).1 = true := fun q => by
            rw [q14, q] at h17
            exact absurd h17 (by decide)
          refine e_iconst (v := 0) dX1_parseSum_20 rfl ?_
          refine e_reti dX1_parseSum_21 ev_nw0 (Nat.le_refl _) (Nat.le_refl _) ?_
          rw [smF_e (tm := fun a' f' => tmP p X z j a' t f') (fun q => hr1 q.1)] at he
          rw [← he]
          exact ⟨by rw [show bN (tmP p X z j a t f).1 = 0 from by rw [eq_false_of_ne_true hr1]; rfl], p14.pre fr, rfl⟩
  refine e_iconst (v := 0) dX1_parseSum_0 rfl ?_
  refine e_istore [(0, .ref 3), (1, .ref 1), (2, .int (nI t)), (3, .int (nI (4 - j))), (4, .int (nI 0))] dX1_parseSum_1 (by decide) rfl ?_
  exact loop 100 0 a0 f0 σ0 rfl Fr3.rf hf20 h30 ha0 hf0 rfl

theorem c1_all {p : Nat} (hp : gP p) {z : Nat} {X : Nat → Nat} (hX : ∀ i, i < z → X i < 128) (hz : z ≤ 100) : ∀ j, j ≤ 4 → LC p z X j ∧ SmC p z X j
  | 0, _ => ⟨c1_L0 hX hz, c1_S hp hX hz (c1_T (c1_L0 hX hz))⟩
  | j + 1, h => by
    obtain ⟨h1, h2⟩ := c1_all hp hX hz j (by omega)
    have h3 := c1_LS hp hX hz (show j < 4 by omega) h1 h2
    exact ⟨h3, c1_S hp hX hz (c1_T h3)⟩
/-- how a text is read: whether it is a FORM, where reading ended, the FORM -/
def npar (p z : Nat) (X : Nat → Nat) : ps_T := ((smP p X z 4 0 1 0).1 && decide ((smP p X z 4 0 1 0).2.1 = z), (smP p X z 4 0 1 0).2)

set_option maxRecDepth 100000 in
theorem c1_parse {p : Nat} (hp : gP p) {z : Nat} {X : Nat → Nat} (hX : ∀ i, i < z → X i < 128) (hz : z ≤ 100) {σ : ex_S} {μ : ex_L}(hT : TXC σ z X) (hF : FC σ p) : Ci 14 yX1_parse cX1_parse 2 (some .boolean) [.ref 3, .ref 1] TT σ μ (fun z' σ' μ' => z' = bN (npar p z X).1 ∧ PS σ σ' (npar p z X) ∧ μ' = μ) := by
  refine Cl_of (by decide +kernel) (Nat.le_of_ble_eq_true rfl) ?_
  show Ev RX1 cX1_parse 2 14 0 0 "parse" (some .boolean) ev_ext _ _ 0 0 0 [(0, .ref 3), (1, .ref 1)] [] TT σ μ
  refine e_aload_n dX1_parse_0 rfl 0 rfl ?_
  refine e_iconst (v := 0) dX1_parse_1 rfl ?_
  refine e_putI dX1_parse_2 lkX1_19' tt_3 rfl rfl rfl ?_
  refine e_aload_n dX1_parse_5 rfl 0 rfl ?_
  refine e_iconst (v := 0) dX1_parse_6 rfl ?_
  refine e_putI dX1_parse_7 lkX1_22' tt_3 rfl rfl rfl ?_
  refine e_aload_n dX1_parse_10 rfl 0 rfl ?_
  refine e_aload_n dX1_parse_11 rfl 1 rfl ?_
  refine e_iconst (v := 1) dX1_parse_12 rfl ?_
  refine e_iconst (v := 0) dX1_parse_13 rfl ?_
  refine e_callVi dX1_parse_14 cvX1_25 rfl tt_3 rfl ((c1_all hp hX hz 4 (by decide)).2 0 1 0 _ μ (hT.f3 ((Fr3.rf.s3 (Or.inl rfl)).s3 (Or.inr rfl))) (hF.f3 ((Fr3.rf.s3 (Or.inl rfl)).s3 (Or.inr rfl))) (by rw [sup_idx (by decide), sup_same]; rfl) (by rw [sup_same]; rfl) (Nat.zero_le _) (by decide) (by decide)) (Nat.le_of_ble_eq_true rfl) (Nat.le_refl _) (Nat.le_refl _) rfl (Nat.le_of_ble_eq_true rfl) (fun r14 s14 m14 q14 => ?_)
  obtain ⟨q14, p14, g14⟩ := q14
  rw [g14]
  have pp : PS σ s14 (npar p z X) := p14.pre ((Fr3.rf.s3 (Or.inl rfl)).s3 (Or.inr rfl))
  have hb : PB z 0 (smP p X z 4 0 1 0) := sm_b (X := X) (k := 4) (t := 1) (f := 0) hp (Nat.zero_le z) (by decide) (by decide) 100
  have hsz : s14 3 1 = nI z := by rw [pp.2.2.1 1 (by decide) (by decide)]; exact hT.1
  have hpl : s14 3 3 = nI (smP p X z 4 0 1 0).2.1 := p14.2.1
  refine e_if_eq (t := 35) dX1_parse_17 (by decide) (fun h17 => ?_) (fun h17 => ?_)
  · skip
    skip
    refine e_iconst (v := 0) dX1_parse_35 rfl ?_
    refine e_reti dX1_parse_36 ev_nw0 (Nat.le_refl _) (Nat.le_refl _) ?_
    have e1 : (smP p X z 4 0 1 0).1 = false := by
      cases h9 : (smP p X z 4 0 1 0).1 with
      | false => rfl
      | true => rw [q14, h9] at h17; exact absurd h17 (by decide)
    have hr : (npar p z X).1 = false := by
      show ((smP p X z 4 0 1 0).1 && _) = false
      rw [e1]
      rfl
    exact ⟨by rw [hr]; rfl, pp, rfl⟩
  · skip
    have e1 : (smP p X z 4 0 1 0).1 = true := by
      cases h9 : (smP p X z 4 0 1 0).1 with
      | true => rfl
      | false => rw [q14, h9] at h17; exact absurd rfl h17
    refine e_aload_n dX1_parse_20 rfl 0 rfl ?_
    refine e_getI dX1_parse_21 lkX1_22 tt_3 rfl ?_
    refine e_aload_n dX1_parse_24 rfl 0 rfl ?_
    refine e_getI dX1_parse_25 lkX1_15 tt_3 rfl ?_
    rw [hpl, hsz]
    refine e_icmp_ne (t := 35) dX1_parse_28 (by decide) (fun h28 => ?_) (fun h28 => ?_)
    · skip
      skip
      refine e_iconst (v := 0) dX1_parse_35 rfl ?_
      refine e_reti dX1_parse_36 ev_nw0 (Nat.le_refl _) (Nat.le_refl _) ?_
      have hr : (npar p z X).1 = false := by
        show ((smP p X z 4 0 1 0).1 && _) = false
        rw [e1, decide_eq_false (fun q => h28 (by rw [q]))]
        rfl
      exact ⟨by rw [hr]; rfl, pp, rfl⟩
    · skip
      skip
      refine e_iconst (v := 1) dX1_parse_31 rfl ?_
      refine e_goto (t := 36) dX1_parse_32 (by decide) ?_
      refine e_reti dX1_parse_36 ev_nw1 (Nat.le_refl _) (Nat.le_refl _) ?_
      have hr : (npar p z X).1 = true := by
        show ((smP p X z 4 0 1 0).1 && _) = true
        rw [e1, decide_eq_true ((i_eq (by have := hb.2.1; omega) (by omega)).mp h28)]
        rfl
      exact ⟨by rw [hr]; rfl, pp, rfl⟩
