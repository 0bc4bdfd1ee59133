set_option maxRecDepth 100000 in
theorem c11_by {p : Nat} (hp : gP p) {a b : Nat} (ha : a < 16) (hb : b < 16) (hb0 : b ≠ 0) {σ : ex_S} {μ : ex_L}(hF : FR σ p) : Ci 2 yX11_by cX11_by 3 (some .int) [.ref 127, .int (nI a), .int (nI b)] TT σ μ (fun z' σ' μ' => z' = nI (gdiv p a b) ∧ σ' = σ ∧ μ' = μ) := by
  refine Cl_of (by decide +kernel) (Nat.le_of_ble_eq_true rfl) ?_
  show Ev RX11 cX11_by 3 2 0 0 "by" (some .int) ev_ext _ _ 0 0 0 [(0, .ref 127), (1, .int (nI a)), (2, .int (nI b))] [] TT σ μ
  have la := glog_lt hp a ha
  have lb := glog_lt hp b hb
  have hd := gdiv_ok hp a ha b hb hb0
  refine e_iload_n dX11_by_0 rfl 1 rfl ?_
  refine e_if_ne (t := 8) dX11_by_1 (by decide) (fun h1 => ?_) (fun h1 => ?_)
  · skip
    have ha0 : a ≠ 0 := fun q => h1 (by rw [q]; rfl)
    refine e_aload_n dX11_by_8 rfl 0 rfl ?_
    refine e_getR dX11_by_9 lkX11_15 tt_127 rfl ?_
    refine e_aload_n dX11_by_12 rfl 0 rfl ?_
    refine e_getR dX11_by_13 lkX11_18 tt_127 rfl ?_
    refine e_iload_n dX11_by_16 rfl 1 rfl ?_
    refine e_iald dX11_by_17 tt_130 (vp_in_nI (by omega) (by decide)) ?_
    rw [i_cl (by omega), hF.2.2.2.2 a ha ha0]
    refine e_bipush (v := 15) dX11_by_18 rfl ?_
    refine e_iadd dX11_by_20 ?_
    rw [show (15 : Int32) = nI 15 from rfl, i_add]
    refine e_aload_n dX11_by_21 rfl 0 rfl ?_
    refine e_getR dX11_by_22 lkX11_18 tt_127 rfl ?_
    refine e_iload_n dX11_by_25 rfl 2 rfl ?_
    refine e_iald dX11_by_26 tt_130 (vp_in_nI (by omega) (by decide)) ?_
    rw [i_cl (by omega), hF.2.2.2.2 b hb hb0]
    refine e_isub dX11_by_27 ?_
    rw [i_sub (by omega)]
    refine e_bipush (v := 15) dX11_by_28 rfl ?_
    refine e_irem dX11_by_30 (by decide) ?_
    rw [show (15 : Int32) = nI 15 from rfl, i_rem (by omega) (by decide) (by decide)]
    refine e_iald dX11_by_31 tt_129 (vp_in_nI (Nat.mod_lt _ (by decide)) (by decide)) ?_
    refine e_reti dX11_by_32 ev_nwi (Nat.le_refl _) (Nat.le_refl _) ?_
    refine ⟨?_, rfl, rfl⟩
    have hm : (glog p a + 15 - glog p b) % 15 < 15 := Nat.mod_lt _ (by decide)
    rw [i_cl (by omega), hF.2.2.2.1 _ hm, hd, if_neg ha0]
  · skip
    have ha0 : a = 0 := (i_eq (by omega) (by decide)).mp (show nI a = nI 0 from h1)
    refine e_iconst (v := 0) dX11_by_4 rfl ?_
    refine e_goto (t := 32) dX11_by_5 (by decide) ?_
    refine e_reti dX11_by_32 ev_nwi (Nat.le_refl _) (Nat.le_refl _) ?_
    refine ⟨?_, rfl, rfl⟩
    rw [hd, if_pos ha0]
    rfl

set_option maxRecDepth 100000 in
theorem c11_takes {S : ns_T} (hV : VS S) {V : Nat → Nat} {L : Nat} (hL : L < 12) {σ : ex_S} {μ : ex_L}(hR : NR σ S) (hM : MV σ V L) {j : Nat} (hj : j < S 0 0) : Cv 2 yX11_takes cX11_takes 3 none [.ref 127, .int (nI j)] TT σ μ (fun σ' μ' => MV σ' (fun i => if i = L then S 5 j else V i) (L + 1) ∧ FrM σ σ' ∧ μ' = μ) := by
  refine Cl_of (by decide +kernel) (Nat.le_of_ble_eq_true rfl) ?_
  show Ev RX11 cX11_takes 3 2 0 0 "takes" none ev_ext _ _ 0 0 0 [(0, .ref 127), (1, .int (nI j))] [] TT σ μ
  have hn := hV.1
  have hfm := (hV.2.2.2.2.2.2.1 j hj).2.2.2.1
  have loop : ∀ (m i : Nat) (σ1 : ex_S), i + m = 5 → FrM σ σ1 → MV σ1 V L → (∀ c, c < i → σ1 150 (6 * L + c) = nI (nib (S 5 j) c)) → Ev RX11 cX11_takes 3 2 0 0 "takes" none ev_ext TT.length (fun v9 T9 σ9 μ9 => T9 = TT ∧ v9 = none ∧ (fun σ' μ' => MV σ' (fun i => if i = L then S 5 j else V i) (L + 1) ∧ FrM σ σ' ∧ μ' = μ) σ9 μ9) 0 0 2 [(0, .ref 127), (1, .int (nI j)), (2, .int (nI i))] [] TT σ1 μ := by
    intro m
    induction m with
    | zero =>
      intro i σ1 hi f1 f2 f3
      obtain rfl : i = 5 := by omega
      refine e_iload_n dX11_takes_2 rfl 2 rfl ?_
      refine e_iconst (v := 5) dX11_takes_3 rfl ?_
      refine e_icmp_ge (t := 37) dX11_takes_4 (by decide) (fun h4 => ?_) (fun h4 => ?_)
      · skip
        refine e_aload_n dX11_takes_37 rfl 0 rfl ?_
        refine e_getR dX11_takes_38 lkX11_78 tt_127 rfl ?_
        refine e_bipush (v := 6) dX11_takes_41 rfl ?_
        refine e_aload_n dX11_takes_43 rfl 0 rfl ?_
        refine e_getI dX11_takes_44 lkX11_202 tt_127 rfl ?_
        rw [f2.1]
        refine e_imul dX11_takes_47 ?_
        refine e_iconst (v := 5) dX11_takes_48 rfl ?_
        refine e_iadd dX11_takes_49 ?_
        rw [show (5 : Int32) = nI 5 from rfl, i_lin6]
        refine e_iconst (v := 0) dX11_takes_50 rfl ?_
        refine e_iast dX11_takes_51 tt_150 (vp_in_nI (by omega) (by decide)) ?_
        refine e_aload_n dX11_takes_52 rfl 0 rfl ?_
        refine e_dup dX11_takes_53 rfl ?_
        refine e_getI dX11_takes_54 lkX11_202 tt_127 rfl ?_
        rw [sup_obj (by decide), f2.1]
        refine e_iconst (v := 1) dX11_takes_57 rfl ?_
        refine e_iadd dX11_takes_58 ?_
        rw [show nI L + 1 = nI (L + 1) from nI_1 _, i_cl (by omega)]
        refine e_putI dX11_takes_59 lkX11_202' tt_127 rfl rfl rfl ?_
        refine e_retv dX11_takes_62 (Nat.le_refl _) (Nat.le_refl _) ?_
        refine ⟨⟨sup_same, fun k hk c hc => ?_⟩, ⟨fun k h1 h2 => by rw [sup_obj h1, sup_obj h2]; exact f1.1 k h1 h2, fun k hk => by rw [sup_idx hk, sup_obj (by decide)]; exact f1.2 k hk⟩, rfl⟩
        rw [sup_obj (by decide)]
        (try dsimp only)
        by_cases e : k = L
        · rw [if_pos e, e]
          by_cases ec : c = 5
          · rw [ec, sup_same, nib_big (n := 5) (by omega) (by omega)]
            rfl
          · rw [sup_idx (by omega)]
            exact f3 c (by omega)
        · rw [if_neg e, sup_idx (by omega)]
          exact f2.2 k (by omega) c hc
      · skip
        exact absurd (show nI 5 ≤ nI 5 from (i_le (by decide) (by decide)).mpr (Nat.le_refl 5)) h4
    | succ m ih =>
      intro i σ1 hi f1 f2 f3
      have hR1 := hR.to f1
      refine e_iload_n dX11_takes_2 rfl 2 rfl ?_
      refine e_iconst (v := 5) dX11_takes_3 rfl ?_
      refine e_icmp_ge (t := 37) dX11_takes_4 (by decide) (fun h4 => ?_) (fun h4 => ?_)
      · skip
        exact absurd ((i_le (by omega) (by omega)).mp (show nI 5 ≤ nI i from h4)) (by omega)
      · skip
        refine e_aload_n dX11_takes_7 rfl 0 rfl ?_
        refine e_getR dX11_takes_8 lkX11_78 tt_127 rfl ?_
        refine e_bipush (v := 6) dX11_takes_11 rfl ?_
        refine e_aload_n dX11_takes_13 rfl 0 rfl ?_
        refine e_getI dX11_takes_14 lkX11_202 tt_127 rfl ?_
        rw [f2.1]
        refine e_imul dX11_takes_17 ?_
        refine e_iload_n dX11_takes_18 rfl 2 rfl ?_
        refine e_iadd dX11_takes_19 ?_
        rw [i_lin6]
        refine e_aload_n dX11_takes_20 rfl 0 rfl ?_
        refine e_getR dX11_takes_21 lkX11_36 tt_127 rfl ?_
        refine e_iconst (v := 5) dX11_takes_24 rfl ?_
        refine e_iload_n dX11_takes_25 rfl 1 rfl ?_
        refine e_imul dX11_takes_26 ?_
        refine e_iload_n dX11_takes_27 rfl 2 rfl ?_
        refine e_iadd dX11_takes_28 ?_
        rw [i_lin5]
        refine e_iald dX11_takes_29 tt_136 (vp_in_nI (by omega) (by decide)) ?_
        rw [i_cl (by omega), (hR1.2.2.2.1 j hj).2.2.2.2.2.1 i (by omega)]
        refine e_iast dX11_takes_30 tt_150 (vp_in_nI (by omega) (by decide)) ?_
        refine e_iinc (nI (i + 1)) [(0, .ref 127), (1, .int (nI j)), (2, .int (nI (i + 1)))] dX11_takes_31 2 rfl (nI_1 i) (by decide) rfl ?_
        refine e_goto (t := 2) dX11_takes_34 (by decide) ?_
        rw [i_cl (by omega)]
        refine ih (i + 1) _ (by omega) (f1.tr ⟨fun k h1 h2 => by rw [sup_obj h2], fun k hk => by rw [sup_obj (by decide)]⟩) ⟨by rw [sup_obj (by decide)]; exact f2.1, fun k hk c hc => by rw [sup_idx (by omega)]; exact f2.2 k hk c hc⟩ (fun c hc => ?_)
        by_cases e : c = i
        · rw [e, sup_same]
        · rw [sup_idx (by omega)]
          exact f3 c (by omega)
  refine e_iconst (v := 0) dX11_takes_0 rfl ?_
  refine e_istore_n [(0, .ref 127), (1, .int (nI j)), (2, .int 0)] dX11_takes_1 rfl (by decide) rfl ?_
  exact loop 5 0 σ rfl FrM.rf hM (fun c hc => absurd hc (by omega))

set_option maxRecDepth 100000 in
theorem c11_adds {p : Nat} (hp : gP p) {V : Nat → Nat} {L a b x : Nat} (hL : L ≤ 12) (ha : a < L) (hb : b < L) (hab : a ≠ b) (hx : x < 16) {σ : ex_S} {μ : ex_L}(hF : FR σ p) (hM : MV σ V L) : Cv 3 yX11_adds cX11_adds 5 none [.ref 127, .int (nI a), .int (nI b), .int (nI x)] TT σ μ (fun σ' μ' => MV σ' (fun i => if i = b then V b ^^^ gsc p (V a) x else V i) L ∧ (∀ i, i ≠ 150 → σ' i = σ i) ∧ μ' = μ) := by
  refine Cl_of (by decide +kernel) (Nat.le_of_ble_eq_true rfl) ?_
  show Ev RX11 cX11_adds 5 3 0 0 "adds" none ev_ext _ _ 0 0 0 [(0, .ref 127), (1, .int (nI a)), (2, .int (nI b)), (3, .int (nI x))] [] TT σ μ
  have loop : ∀ (m i : Nat) (σ1 : ex_S), i + m = 6 → (∀ i, i ≠ 150 → σ1 i = σ i) → (∀ k, k < L → ∀ c, c < 6 → σ1 150 (6 * k + c) = if k = b ∧ c < i then nI (nib (V b ^^^ gsc p (V a) x) c) else nI (nib (V k) c)) → Ev RX11 cX11_adds 5 3 0 0 "adds" none ev_ext TT.length (fun v9 T9 σ9 μ9 => T9 = TT ∧ v9 = none ∧ (fun σ' μ' => MV σ' (fun i => if i = b then V b ^^^ gsc p (V a) x else V i) L ∧ (∀ i, i ≠ 150 → σ' i = σ i) ∧ μ' = μ) σ9 μ9) 0 0 3 [(0, .ref 127), (1, .int (nI a)), (2, .int (nI b)), (3, .int (nI x)), (4, .int (nI i))] [] TT σ1 μ := by
    intro m
    induction m with
    | zero =>
      intro i σ1 hi f1 f2
      obtain rfl : i = 6 := by omega
      refine e_iload dX11_adds_3 4 rfl ?_
      refine e_bipush (v := 6) dX11_adds_5 rfl ?_
      refine e_icmp_ge (t := 48) dX11_adds_7 (by decide) (fun h7 => ?_) (fun h7 => ?_)
      · skip
        refine e_retv dX11_adds_48 (Nat.le_refl _) (Nat.le_refl _) ?_
        refine ⟨⟨by rw [f1 127 (by decide)]; exact hM.1, fun k hk c hc => ?_⟩, f1, rfl⟩
        rw [f2 k hk c hc]
        (try dsimp only)
        by_cases e : k = b
        · rw [if_pos ⟨e, hc⟩, if_pos e]
        · rw [if_neg (fun z => e z.1), if_neg e]
      · skip
        exact absurd (show nI 6 ≤ nI 6 from (i_le (by decide) (by decide)).mpr (Nat.le_refl 6)) h7
    | succ m ih =>
      intro i σ1 hi f1 f2
      have hF1 := hF.to (σ' := σ1) ⟨fun k h1 h2 => f1 k h2, fun k hk => by rw [f1 127 (by decide)]⟩
      have ga := f2 a ha i (by omega)
      rw [if_neg (fun z => hab z.1)] at ga
      have gb := f2 b hb i (by omega)
      rw [if_neg (fun z => absurd z.2 (by omega))] at gb
      refine e_iload dX11_adds_3 4 rfl ?_
      refine e_bipush (v := 6) dX11_adds_5 rfl ?_
      refine e_icmp_ge (t := 48) dX11_adds_7 (by decide) (fun h7 => ?_) (fun h7 => ?_)
      · skip
        exact absurd ((i_le (by omega) (by omega)).mp (show nI 6 ≤ nI i from h7)) (by omega)
      · skip
        refine e_aload_n dX11_adds_10 rfl 0 rfl ?_
        refine e_getR dX11_adds_11 lkX11_78 tt_127 rfl ?_
        refine e_bipush (v := 6) dX11_adds_14 rfl ?_
        refine e_iload_n dX11_adds_16 rfl 2 rfl ?_
        refine e_imul dX11_adds_17 ?_
        refine e_iload dX11_adds_18 4 rfl ?_
        refine e_iadd dX11_adds_20 ?_
        rw [i_lin6]
        refine e_dup2 dX11_adds_21 rfl rfl ?_
        refine e_iald dX11_adds_22 tt_150 (vp_in_nI (by omega) (by decide)) ?_
        rw [i_cl (by omega), gb]
        refine e_aload_n dX11_adds_23 rfl 0 rfl ?_
        refine e_aload_n dX11_adds_24 rfl 0 rfl ?_
        refine e_getR dX11_adds_25 lkX11_78 tt_127 rfl ?_
        refine e_bipush (v := 6) dX11_adds_28 rfl ?_
        refine e_iload_n dX11_adds_30 rfl 1 rfl ?_
        refine e_imul dX11_adds_31 ?_
        refine e_iload dX11_adds_32 4 rfl ?_
        refine e_iadd dX11_adds_34 ?_
        rw [i_lin6]
        refine e_iald dX11_adds_35 tt_150 (vp_in_nI (by omega) (by decide)) ?_
        rw [i_cl (by omega), ga]
        refine e_iload_n dX11_adds_36 rfl 3 rfl ?_
        refine e_callVi dX11_adds_37 cvX11_128 rfl tt_127 rfl (c11_times hp (nib_lt (V a) i) hx hF1) (Nat.le_of_ble_eq_true rfl) (Nat.le_refl _) (Nat.le_refl _) rfl (Nat.le_of_ble_eq_true rfl) (fun r37 s37 m37 q37 => ?_)
        obtain ⟨q37, e37, g37⟩ := q37
        rw [e37, g37]
        clear e37 g37 s37 m37
        rw [q37, ← gsc_nib hp hx (by omega)]
        refine e_ixor dX11_adds_40 ?_
        rw [nx_xor, ← nib_xor]
        refine e_iast dX11_adds_41 tt_150 (vp_in_nI (by omega) (by decide)) ?_
        refine e_iinc (nI (i + 1)) [(0, .ref 127), (1, .int (nI a)), (2, .int (nI b)), (3, .int (nI x)), (4, .int (nI (i + 1)))] dX11_adds_42 4 rfl (nI_1 i) (by decide) rfl ?_
        refine e_goto (t := 3) dX11_adds_45 (by decide) ?_
        rw [i_cl (by omega)]
        refine ih (i + 1) _ (by omega) (fun k hk => by rw [sup_obj hk]; exact f1 k hk) (fun k hk c hc => ?_)
        by_cases e : k = b ∧ c = i
        · rw [e.1, e.2, sup_same, if_pos ⟨rfl, by omega⟩]
        · rw [sup_idx (by omega), f2 k hk c hc]
          by_cases e2 : k = b ∧ c < i
          · rw [if_pos e2, if_pos ⟨e2.1, by omega⟩]
          · rw [if_neg e2, if_neg (by omega)]
  refine e_iconst (v := 0) dX11_adds_0 rfl ?_
  refine e_istore [(0, .ref 127), (1, .int (nI a)), (2, .int (nI b)), (3, .int (nI x)), (4, .int 0)] dX11_adds_1 (by decide) rfl ?_
  exact loop 6 0 σ rfl (fun _ _ => rfl) (fun k hk c hc => by rw [if_neg (by omega)]; exact hM.2 k hk c hc)

set_option maxRecDepth 100000 in
theorem c11_ranks {p : Nat} (hp : gP p) {V : Nat → Nat} {L : Nat} (hL : L ≤ 12) (hV0 : ∀ j, j < L → V j < 2 ^ 24) {σ : ex_S} {μ : ex_L}(hF : FR σ p) (hM : MV σ V L) : Ci 5 yX11_ranks cX11_ranks 6 (some .int) [.ref 127] TT σ μ (fun z' σ' μ' => ∃ V' k, z' = nI k ∧ MV σ' V' L ∧ Eli p L V V' 5 k ∧ (∀ i, i ≠ 150 → σ' i = σ i) ∧ μ' = μ) := by
  refine Cl_of (by decide +kernel) (Nat.le_of_ble_eq_true rfl) ?_
  show Ev RX11 cX11_ranks 6 5 0 0 "ranks" (some .int) ev_ext _ _ 0 0 0 [(0, .ref 127)] [] TT σ μ
  have outer : ∀ (m c k : Nat) (σ1 : ex_S) (V1 : Nat → Nat), c + m = 5 → (∀ i, i ≠ 150 → σ1 i = σ i) → MV σ1 V1 L → Eli p L V V1 c k → Ev RX11 cX11_ranks 6 5 0 0 "ranks" (some .int) ev_ext TT.length (fun v9 T9 σ9 μ9 => T9 = TT ∧ ∃ z9, v9 = some (.int z9) ∧ (fun z' σ' μ' => ∃ V' k, z' = nI k ∧ MV σ' V' L ∧ Eli p L V V' 5 k ∧ (∀ i, i ≠ 150 → σ' i = σ i) ∧ μ' = μ) z9 σ9 μ9) 0 0 4 [(0, .ref 127), (1, .int (nI k)), (2, .int (nI c))] [] TT σ1 μ := by
    intro m
    induction m with
    | zero =>
      intro c k σ1 V1 hc f1 f2 f3
      obtain rfl : c = 5 := by omega
      refine e_iload_n dX11_ranks_4 rfl 2 rfl ?_
      refine e_iconst (v := 5) dX11_ranks_5 rfl ?_
      refine e_icmp_ge (t := 196) dX11_ranks_6 (by decide) (fun h6 => ?_) (fun h6 => ?_)
      · skip
        refine e_iload_n dX11_ranks_196 rfl 1 rfl ?_
        refine e_reti dX11_ranks_197 ev_nwi (Nat.le_refl _) (Nat.le_refl _) ?_
        exact ⟨V1, k, rfl, f2, f3, f1, rfl⟩
      · skip
        exact absurd (show nI 5 ≤ nI 5 from (i_le (by decide) (by decide)).mpr (Nat.le_refl 5)) h6
    | succ m ih =>
      intro c k σ1 V1 hc f1 f2 f3
      obtain ⟨e1, e2, e3, e4, e5, piv, e6⟩ := id f3
      have hF1 := hF.to (σ' := σ1) ⟨fun k h1 h2 => f1 k h2, fun k hk => by rw [f1 127 (by decide)]⟩
      have elim : ∀ (m2 r : Nat) (σ2 : ex_S) (V2 : Nat → Nat), r + m2 = L → k < r → (∀ i, i ≠ 150 → σ2 i = σ i) → MV σ2 V2 L → (∀ j, j < L → V2 j < 2 ^ 24) → SameSp p L V V2 → (∀ j, j < k → V2 j = V1 j) → nib (V2 k) c ≠ 0 → (∀ j, k ≤ j → j < L → ∀ c', c' < c → nib (V2 j) c' = 0) → (∀ j, k < j → j < r → nib (V2 j) c = 0) → (∀ i, i < k → ∀ j, i < j → j < L → nib (V2 j) (piv i) = 0) → Ev RX11 cX11_ranks 6 5 0 0 "ranks" (some .int) ev_ext TT.length (fun v9 T9 σ9 μ9 => T9 = TT ∧ ∃ z9, v9 = some (.int z9) ∧ (fun z' σ' μ' => ∃ V' k, z' = nI k ∧ MV σ' V' L ∧ Eli p L V V' 5 k ∧ (∀ i, i ≠ 150 → σ' i = σ i) ∧ μ' = μ) z9 σ9 μ9) 0 0 123 [(0, .ref 127), (1, .int (nI k)), (2, .int (nI c)), (4, .int (nI r))] [] TT σ2 μ := by
        intro m2
        induction m2 with
        | zero =>
          intro r σ2 V2 hr hkr g1 g2 g3 g4 g5 g6 g7 g8 g9
          obtain rfl : r = L := by omega
          refine e_iload dX11_ranks_123 3 rfl ?_
          refine e_aload_n dX11_ranks_125 rfl 0 rfl ?_
          refine e_getI dX11_ranks_126 lkX11_202 tt_127 rfl ?_
          rw [g2.1]
          refine e_icmp_ge (t := 187) dX11_ranks_129 (by decide) (fun h129 => ?_) (fun h129 => ?_)
          · skip
            refine e_iinc (nI (k + 1)) [(0, .ref 127), (1, .int (nI (k + 1))), (2, .int (nI c)), (4, .int (nI r))] dX11_ranks_187 1 rfl (nI_1 k) (by decide) rfl ?_
            refine e_iinc (nI (c + 1)) [(0, .ref 127), (1, .int (nI (k + 1))), (2, .int (nI (c + 1))), (4, .int (nI r))] dX11_ranks_190 2 rfl (nI_1 c) (by decide) rfl ?_
            refine e_goto (t := 4) dX11_ranks_193 (by decide) ?_
            refine e_lv [(0, .ref 127), (1, .int (nI (k + 1))), (2, .int (nI (c + 1)))] (List.forall_mem_cons.mpr ⟨List.mem_of_getElem? (i := 0) rfl, List.forall_mem_cons.mpr ⟨List.mem_of_getElem? (i := 1) rfl, List.forall_mem_cons.mpr ⟨List.mem_of_getElem? (i := 2) rfl, fun _ h => absurd h List.not_mem_nil⟩⟩⟩) ?_
            refine ih (c + 1) (k + 1) σ2 V2 (by omega) g1 g2 ⟨g3, by omega, by omega, g4, fun j h1 h2 c' hc' => ?_, fun i => if i = k then c else piv i, fun i hi => ?_⟩
            · by_cases e : c' = c
              · rw [e]; exact g8 j (by omega) h2
              · exact g7 j (by omega) h2 c' (by omega)
            · (try dsimp only)
              by_cases e : i = k
              · rw [if_pos e, e]
                exact ⟨by omega, g6, fun j h1 h2 => g8 j h1 h2⟩
              · rw [if_neg e, g5 i (by omega)]
                have h9 := e6 i (by omega)
                exact ⟨by omega, h9.2.1, fun j h1 h2 => g9 i (by omega) j h1 h2⟩
          · skip
            exact absurd (show nI r ≤ nI r from (i_le (by omega) (by omega)).mpr (by omega)) h129
        | succ m2 ih2 =>
          intro r σ2 V2 hr hkr g1 g2 g3 g4 g5 g6 g7 g8 g9
          have hF2 := hF.to (σ' := σ2) ⟨fun k h1 h2 => g1 k h2, fun k hk => by rw [g1 127 (by decide)]⟩
          have cr := g2.2 r (by omega) c (by omega)
          have ck := g2.2 k (by omega) c (by omega)
          have nk := nib_lt (V2 k) c
          have nr := nib_lt (V2 r) c
          refine e_iload dX11_ranks_123 3 rfl ?_
          refine e_aload_n dX11_ranks_125 rfl 0 rfl ?_
          refine e_getI dX11_ranks_126 lkX11_202 tt_127 rfl ?_
          rw [g2.1]
          refine e_icmp_ge (t := 187) dX11_ranks_129 (by decide) (fun h129 => ?_) (fun h129 => ?_)
          · skip
            exact absurd ((i_le (by omega) (by omega)).mp (show nI L ≤ nI r from h129)) (by omega)
          · skip
            refine e_aload_n dX11_ranks_132 rfl 0 rfl ?_
            refine e_getR dX11_ranks_133 lkX11_78 tt_127 rfl ?_
            refine e_bipush (v := 6) dX11_ranks_136 rfl ?_
            refine e_iload dX11_ranks_138 3 rfl ?_
            refine e_imul dX11_ranks_140 ?_
            refine e_iload_n dX11_ranks_141 rfl 2 rfl ?_
            refine e_iadd dX11_ranks_142 ?_
            rw [i_lin6]
            refine e_iald dX11_ranks_143 tt_150 (vp_in_nI (by omega) (by decide)) ?_
            rw [i_cl (by omega), cr]
            refine e_if_eq (t := 181) dX11_ranks_144 (by decide) (fun h144 => ?_) (fun h144 => ?_)
            · skip
              skip
              refine e_iinc (nI (r + 1)) [(0, .ref 127), (1, .int (nI k)), (2, .int (nI c)), (4, .int (nI (r + 1)))] dX11_ranks_181 3 rfl (nI_1 r) (by decide) rfl ?_
              refine e_goto (t := 123) dX11_ranks_184 (by decide) ?_
              exact ih2 (r + 1) σ2 V2 (by omega) (by omega) g1 g2 g3 g4 g5 g6 g7 (fun j h1 h2 => by
                by_cases e : j = r
                · rw [e]
                  exact (i_eq (by omega) (by decide)).mp (show nI (nib (V2 r) c) = nI 0 from h144)
                · exact g8 j h1 (by omega)) g9
            · skip
              skip
              refine e_aload_n dX11_ranks_147 rfl 0 rfl ?_
              refine e_iload_n dX11_ranks_148 rfl 1 rfl ?_
              refine e_iload dX11_ranks_149 3 rfl ?_
              refine e_aload_n dX11_ranks_151 rfl 0 rfl ?_
              refine e_aload_n dX11_ranks_152 rfl 0 rfl ?_
              refine e_getR dX11_ranks_153 lkX11_78 tt_127 rfl ?_
              refine e_bipush (v := 6) dX11_ranks_156 rfl ?_
              refine e_iload dX11_ranks_158 3 rfl ?_
              refine e_imul dX11_ranks_160 ?_
              refine e_iload_n dX11_ranks_161 rfl 2 rfl ?_
              refine e_iadd dX11_ranks_162 ?_
              rw [i_lin6]
              refine e_iald dX11_ranks_163 tt_150 (vp_in_nI (by omega) (by decide)) ?_
              rw [i_cl (by omega), cr]
              refine e_aload_n dX11_ranks_164 rfl 0 rfl ?_
              refine e_getR dX11_ranks_165 lkX11_78 tt_127 rfl ?_
              refine e_bipush (v := 6) dX11_ranks_168 rfl ?_
              refine e_iload_n dX11_ranks_170 rfl 1 rfl ?_
              refine e_imul dX11_ranks_171 ?_
              refine e_iload_n dX11_ranks_172 rfl 2 rfl ?_
              refine e_iadd dX11_ranks_173 ?_
              rw [i_lin6]
              refine e_iald dX11_ranks_174 tt_150 (vp_in_nI (by omega) (by decide)) ?_
              rw [i_cl (by omega), ck]
              refine e_callVi dX11_ranks_175 cvX11_131 rfl tt_127 rfl (c11_by hp nr nk g6 hF2) (Nat.le_of_ble_eq_true rfl) (Nat.le_refl _) (Nat.le_refl _) rfl (Nat.le_of_ble_eq_true rfl) (fun r175 s175 m175 q175 => ?_)
              obtain ⟨q175, e175, g175⟩ := q175
              rw [e175, g175]
              clear e175 g175 s175 m175
              rw [q175]
              refine e_callVv dX11_ranks_178 cvX11_205 rfl tt_127 rfl (c11_adds hp hL (a := k) (b := r) (by omega) (by omega) (by omega) (gdiv_lt hp nr nk) hF2 g2) (Nat.le_of_ble_eq_true rfl) (Nat.le_refl _) (Nat.le_refl _) rfl (Nat.le_of_ble_eq_true rfl) (fun s178 m178 q178 => ?_)
              obtain ⟨a1, a2, a3⟩ := q178
              rw [a3]
              refine e_iinc (nI (r + 1)) [(0, .ref 127), (1, .int (nI k)), (2, .int (nI c)), (4, .int (nI (r + 1)))] dX11_ranks_181 3 rfl (nI_1 r) (by decide) rfl ?_
              refine e_goto (t := 123) dX11_ranks_184 (by decide) ?_
              have hdl := gdiv_lt hp nr nk
              have hk16 : gmul p (nib (V2 k) c) (gdiv p (nib (V2 r) c) (nib (V2 k) c)) = nib (V2 r) c := by
                have hi := ginv_ok hp _ nk
                unfold gdiv
                rw [gmul_comm hp _ nr _ hi.1, ← gmul_assoc hp _ nk _ hi.1 _ nr, hi.2.1 g6, gmul_comm hp _ (by decide) _ nr, gmul_one hp _ nr]
              have hsa : SameSp p L V2 (fun i => if i = r then V2 r ^^^ gsc p (V2 k) (gdiv p (nib (V2 r) c) (nib (V2 k) c)) else V2 i) := same_add hp g3 (a := k) (b := r) (by omega) (by omega) (by omega) hdl (if_pos rfl) (fun j hj e => if_neg e)
              refine ih2 (r + 1) s178 (fun i => if i = r then V2 r ^^^ gsc p (V2 k) (gdiv p (nib (V2 r) c) (nib (V2 k) c)) else V2 i) (by omega) (by omega) (fun i hi => by rw [a2 i hi]; exact g1 i hi) a1 (fun j hj => ?_) (fun v => (g4 v).trans (hsa v)) (fun j hj => by (try dsimp only); rw [if_neg (by omega)]; exact g5 j hj) (by (try dsimp only); rw [if_neg (by omega)]; exact g6) (fun j h1 h2 c' hc' => ?_) (fun j h1 h2 => ?_) (fun i hi j h1 h2 => ?_)
              · (try dsimp only)
                split
                · exact xor_lt24 (g3 r (by omega)) (gsc_lt hp hdl)
                · exact g3 j hj
              · (try dsimp only)
                split
                · rw [nib_xor, g7 r (by omega) (by omega) c' hc', gsc_nib hp hdl (by omega), g7 k (by omega) (by omega) c' hc', gmul_comm hp _ (by decide) _ hdl, gmul_zero hp _ hdl]
                  rfl
                · exact g7 j h1 h2 c' hc'
              · (try dsimp only)
                split
                · rw [nib_xor, gsc_nib hp hdl (by omega), hk16, Nat.xor_self]
                · exact g8 j h1 (by omega)
              · (try dsimp only)
                have hpi := (e6 i hi).1
                split
                · rw [nib_xor, g9 i hi r (by omega) (by omega), gsc_nib hp hdl (by omega), g9 i hi k (by omega) (by omega), gmul_comm hp _ (by decide) _ hdl, gmul_zero hp _ hdl]
                  rfl
                · exact g9 i hi j h1 h2
      have swap : ∀ (f : Nat), k ≤ f → f < L → nib (V1 f) c ≠ 0 → ∀ (m2 i : Nat) (σ2 : ex_S), i + m2 = 6 → (∀ i, i ≠ 150 → σ2 i = σ i) → (∀ j, j < L → ∀ c', c' < 6 → σ2 150 (6 * j + c') = nI (nib (if c' < i then (if j = k then V1 f else if j = f then V1 k else V1 j) else V1 j) c')) → Ev RX11 cX11_ranks 6 5 0 0 "ranks" (some .int) ev_ext TT.length (fun v9 T9 σ9 μ9 => T9 = TT ∧ ∃ z9, v9 = some (.int z9) ∧ (fun z' σ' μ' => ∃ V' k, z' = nI k ∧ MV σ' V' L ∧ Eli p L V V' 5 k ∧ (∀ i, i ≠ 150 → σ' i = σ i) ∧ μ' = μ) z9 σ9 μ9) 0 0 53 [(0, .ref 127), (1, .int (nI k)), (2, .int (nI c)), (3, .int (nI f)), (4, .int (nI i))] [] TT σ2 μ := by
        intro f hf1 hf2 hf3 m2
        induction m2 with
        | zero =>
          intro i σ2 hi g1 g2
          obtain rfl : i = 6 := by omega
          refine e_iload dX11_ranks_53 4 rfl ?_
          refine e_bipush (v := 6) dX11_ranks_55 rfl ?_
          refine e_icmp_ge (t := 118) dX11_ranks_57 (by decide) (fun h57 => ?_) (fun h57 => ?_)
          · skip
            refine e_iload_n dX11_ranks_118 rfl 1 rfl ?_
            refine e_iconst (v := 1) dX11_ranks_119 rfl ?_
            refine e_iadd dX11_ranks_120 ?_
            rw [show nI k + 1 = nI (k + 1) from nI_1 k]
            refine e_istore [(0, .ref 127), (1, .int (nI k)), (2, .int (nI c)), (3, .int (nI f)), (4, .int (nI (k + 1)))] dX11_ranks_121 (by decide) rfl ?_
            refine e_lv [(0, .ref 127), (1, .int (nI k)), (2, .int (nI c)), (4, .int (nI (k + 1)))] (List.forall_mem_cons.mpr ⟨List.mem_of_getElem? (i := 0) rfl, List.forall_mem_cons.mpr ⟨List.mem_of_getElem? (i := 1) rfl, List.forall_mem_cons.mpr ⟨List.mem_of_getElem? (i := 2) rfl, List.forall_mem_cons.mpr ⟨List.mem_of_getElem? (i := 4) rfl, fun _ h => absurd h List.not_mem_nil⟩⟩⟩⟩) ?_
            have hsw : SameSp p L V1 (fun j => if j = k then V1 f else if j = f then V1 k else V1 j) := by
              refine same_swap hp e1 (a := k) (b := f) (by omega) hf2 (if_pos rfl) ?_ (fun j hj ha hb => by (try dsimp only); rw [if_neg ha, if_neg hb])
              (try dsimp only)
              split
              · rename_i e; rw [e]
              · rw [if_pos rfl]
            refine elim (L - (k + 1)) (k + 1) σ2 (fun j => if j = k then V1 f else if j = f then V1 k else V1 j) (by omega) (by omega) g1 ⟨by rw [g1 127 (by decide), ← f1 127 (by decide)]; exact f2.1, fun j hj c' hc' => by rw [g2 j hj c' hc', if_pos hc']⟩ (fun j hj => ?_) (fun v => (e4 v).trans (hsw v)) (fun j hj => by (try dsimp only); rw [if_neg (by omega), if_neg (by omega)]) (by (try dsimp only); rw [if_pos rfl]; exact hf3) (fun j h1 h2 c' hc' => ?_) (fun j h1 h2 => absurd h2 (by omega)) (fun i hi j h1 h2 => ?_)
            · (try dsimp only)
              split
              · exact e1 f hf2
              · split
                · exact e1 k (by omega)
                · exact e1 j hj
            · (try dsimp only)
              split
              · exact e5 f hf1 hf2 c' hc'
              · split
                · exact e5 k (by omega) (by omega) c' hc'
                · exact e5 j h1 h2 c' hc'
            · (try dsimp only)
              have h9 := (e6 i hi).2.2
              split
              · exact h9 f (by omega) hf2
              · split
                · exact h9 k (by omega) (by omega)
                · exact h9 j h1 h2
          · skip
            exact absurd (show nI 6 ≤ nI 6 from (i_le (by decide) (by decide)).mpr (Nat.le_refl 6)) h57
        | succ m2 ih2 =>
          intro i σ2 hi g1 g2
          have ck := g2 k (by omega) i (by omega)
          rw [if_neg (by omega)] at ck
          have cf := g2 f hf2 i (by omega)
          rw [if_neg (by omega)] at cf
          refine e_iload dX11_ranks_53 4 rfl ?_
          refine e_bipush (v := 6) dX11_ranks_55 rfl ?_
          refine e_icmp_ge (t := 118) dX11_ranks_57 (by decide) (fun h57 => ?_) (fun h57 => ?_)
          · skip
            exact absurd ((i_le (by omega) (by omega)).mp (show nI 6 ≤ nI i from h57)) (by omega)
          · skip
            refine e_aload_n dX11_ranks_60 rfl 0 rfl ?_
            refine e_getR dX11_ranks_61 lkX11_78 tt_127 rfl ?_
            refine e_bipush (v := 6) dX11_ranks_64 rfl ?_
            refine e_iload_n dX11_ranks_66 rfl 1 rfl ?_
            refine e_imul dX11_ranks_67 ?_
            refine e_iload dX11_ranks_68 4 rfl ?_
            refine e_iadd dX11_ranks_70 ?_
            rw [i_lin6]
            refine e_iald dX11_ranks_71 tt_150 (vp_in_nI (by omega) (by decide)) ?_
            rw [i_cl (by omega), ck]
            refine e_istore [(0, .ref 127), (1, .int (nI k)), (2, .int (nI c)), (3, .int (nI f)), (4, .int (nI i)), (5, .int (nI (nib (V1 k) i)))] dX11_ranks_72 (by decide) rfl ?_
            refine e_aload_n dX11_ranks_74 rfl 0 rfl ?_
            refine e_getR dX11_ranks_75 lkX11_78 tt_127 rfl ?_
            refine e_bipush (v := 6) dX11_ranks_78 rfl ?_
            refine e_iload_n dX11_ranks_80 rfl 1 rfl ?_
            refine e_imul dX11_ranks_81 ?_
            refine e_iload dX11_ranks_82 4 rfl ?_
            refine e_iadd dX11_ranks_84 ?_
            rw [i_lin6]
            refine e_aload_n dX11_ranks_85 rfl 0 rfl ?_
            refine e_getR dX11_ranks_86 lkX11_78 tt_127 rfl ?_
            refine e_bipush (v := 6) dX11_ranks_89 rfl ?_
            refine e_iload_n dX11_ranks_91 rfl 3 rfl ?_
            refine e_imul dX11_ranks_92 ?_
            refine e_iload dX11_ranks_93 4 rfl ?_
            refine e_iadd dX11_ranks_95 ?_
            rw [i_lin6]
            refine e_iald dX11_ranks_96 tt_150 (vp_in_nI (by omega) (by decide)) ?_
            rw [i_cl (by omega), cf]
            refine e_iast dX11_ranks_97 tt_150 (vp_in_nI (by omega) (by decide)) ?_
            refine e_aload_n dX11_ranks_98 rfl 0 rfl ?_
            refine e_getR dX11_ranks_99 lkX11_78 tt_127 rfl ?_
            refine e_bipush (v := 6) dX11_ranks_102 rfl ?_
            refine e_iload_n dX11_ranks_104 rfl 3 rfl ?_
            refine e_imul dX11_ranks_105 ?_
            refine e_iload dX11_ranks_106 4 rfl ?_
            refine e_iadd dX11_ranks_108 ?_
            rw [i_lin6]
            refine e_iload dX11_ranks_109 5 rfl ?_
            refine e_iast dX11_ranks_111 tt_150 (vp_in_nI (by omega) (by decide)) ?_
            refine e_iinc (nI (i + 1)) [(0, .ref 127), (1, .int (nI k)), (2, .int (nI c)), (3, .int (nI f)), (4, .int (nI (i + 1))), (5, .int (nI (nib (V1 k) i)))] dX11_ranks_112 4 rfl (nI_1 i) (by decide) rfl ?_
            refine e_goto (t := 53) dX11_ranks_115 (by decide) ?_
            refine e_lv [(0, .ref 127), (1, .int (nI k)), (2, .int (nI c)), (3, .int (nI f)), (4, .int (nI (i + 1)))] (List.forall_mem_cons.mpr ⟨List.mem_of_getElem? (i := 0) rfl, List.forall_mem_cons.mpr ⟨List.mem_of_getElem? (i := 1) rfl, List.forall_mem_cons.mpr ⟨List.mem_of_getElem? (i := 2) rfl, List.forall_mem_cons.mpr ⟨List.mem_of_getElem? (i := 3) rfl, List.forall_mem_cons.mpr ⟨List.mem_of_getElem? (i := 4) rfl, fun _ h => absurd h List.not_mem_nil⟩⟩⟩⟩⟩) ?_
            rw [i_cl (by omega), i_cl (by omega)]
            refine ih2 (i + 1) _ (by omega) (fun j hj => by rw [sup_obj hj, sup_obj hj]; exact g1 j hj) (fun j hj c' hc' => ?_)
            by_cases e1' : j = f ∧ c' = i
            · rw [e1'.1, e1'.2, sup_same, if_pos (by omega)]
              split
              · rename_i e; rw [e]
              · rw [if_pos rfl]
            · rw [sup_idx (by omega)]
              by_cases e2' : j = k ∧ c' = i
              · rw [e2'.1, e2'.2, sup_same, if_pos (by omega), if_pos rfl]
              · rw [sup_idx (by omega), g2 j hj c' hc']
                by_cases e3' : c' < i
                · rw [if_pos e3', if_pos (show c' < i + 1 by omega)]
                · rw [if_neg e3']
                  by_cases e4' : c' = i
                  · rw [if_pos (show c' < i + 1 by omega), if_neg (show ¬ j = k by omega), if_neg (show ¬ j = f by omega)]
                  · rw [if_neg (show ¬ c' < i + 1 by omega)]
      have search : ∀ (m2 f : Nat), f + m2 = L → k ≤ f → (∀ j, k ≤ j → j < f → nib (V1 j) c = 0) → Ev RX11 cX11_ranks 6 5 0 0 "ranks" (some .int) ev_ext TT.length (fun v9 T9 σ9 μ9 => T9 = TT ∧ ∃ z9, v9 = some (.int z9) ∧ (fun z' σ' μ' => ∃ V' k, z' = nI k ∧ MV σ' V' L ∧ Eli p L V V' 5 k ∧ (∀ i, i ≠ 150 → σ' i = σ i) ∧ μ' = μ) z9 σ9 μ9) 0 0 11 [(0, .ref 127), (1, .int (nI k)), (2, .int (nI c)), (3, .int (nI f))] [] TT σ1 μ := by
        intro m2
        induction m2 with
        | zero =>
          intro f hf hkf hz
          obtain rfl : f = L := by omega
          refine e_iload_n dX11_ranks_11 rfl 3 rfl ?_
          refine e_aload_n dX11_ranks_12 rfl 0 rfl ?_
          refine e_getI dX11_ranks_13 lkX11_202 tt_127 rfl ?_
          rw [f2.1]
          refine e_icmp_ge (t := 39) dX11_ranks_16 (by decide) (fun h16 => ?_) (fun h16 => ?_)
          · skip
            refine e_iload_n dX11_ranks_39 rfl 3 rfl ?_
            refine e_aload_n dX11_ranks_40 rfl 0 rfl ?_
            refine e_getI dX11_ranks_41 lkX11_202 tt_127 rfl ?_
            rw [f2.1]
            refine e_icmp_ne (t := 50) dX11_ranks_44 (by decide) (fun h44 => ?_) (fun h44 => ?_)
            · skip
              exact absurd rfl h44
            · skip
              refine e_goto (t := 190) dX11_ranks_47 (by decide) ?_
              refine e_iinc (nI (c + 1)) [(0, .ref 127), (1, .int (nI k)), (2, .int (nI (c + 1))), (3, .int (nI f))] dX11_ranks_190 2 rfl (nI_1 c) (by decide) rfl ?_
              refine e_goto (t := 4) dX11_ranks_193 (by decide) ?_
              refine e_lv [(0, .ref 127), (1, .int (nI k)), (2, .int (nI (c + 1)))] (List.forall_mem_cons.mpr ⟨List.mem_of_getElem? (i := 0) rfl, List.forall_mem_cons.mpr ⟨List.mem_of_getElem? (i := 1) rfl, List.forall_mem_cons.mpr ⟨List.mem_of_getElem? (i := 2) rfl, fun _ h => absurd h List.not_mem_nil⟩⟩⟩) ?_
              exact ih (c + 1) k σ1 V1 (by omega) f1 f2 (Eli_none f3 (fun j h1 h2 => hz j h1 h2))
          · skip
            exact absurd (show nI f ≤ nI f from (i_le (by omega) (by omega)).mpr (by omega)) h16
        | succ m2 ih2 =>
          intro f hf hkf hz
          have cf := f2.2 f (by omega) c (by omega)
          refine e_iload_n dX11_ranks_11 rfl 3 rfl ?_
          refine e_aload_n dX11_ranks_12 rfl 0 rfl ?_
          refine e_getI dX11_ranks_13 lkX11_202 tt_127 rfl ?_
          rw [f2.1]
          refine e_icmp_ge (t := 39) dX11_ranks_16 (by decide) (fun h16 => ?_) (fun h16 => ?_)
          · skip
            exact absurd ((i_le (by omega) (by omega)).mp (show nI L ≤ nI f from h16)) (by omega)
          · skip
            refine e_aload_n dX11_ranks_19 rfl 0 rfl ?_
            refine e_getR dX11_ranks_20 lkX11_78 tt_127 rfl ?_
            refine e_bipush (v := 6) dX11_ranks_23 rfl ?_
            refine e_iload_n dX11_ranks_25 rfl 3 rfl ?_
            refine e_imul dX11_ranks_26 ?_
            refine e_iload_n dX11_ranks_27 rfl 2 rfl ?_
            refine e_iadd dX11_ranks_28 ?_
            rw [i_lin6]
            refine e_iald dX11_ranks_29 tt_150 (vp_in_nI (by omega) (by decide)) ?_
            rw [i_cl (by omega), cf]
            refine e_if_ne (t := 39) dX11_ranks_30 (by decide) (fun h30 => ?_) (fun h30 => ?_)
            · skip
              refine e_iload_n dX11_ranks_39 rfl 3 rfl ?_
              refine e_aload_n dX11_ranks_40 rfl 0 rfl ?_
              refine e_getI dX11_ranks_41 lkX11_202 tt_127 rfl ?_
              rw [f2.1]
              refine e_icmp_ne (t := 50) dX11_ranks_44 (by decide) (fun h44 => ?_) (fun h44 => ?_)
              · skip
                refine e_iconst (v := 0) dX11_ranks_50 rfl ?_
                refine e_istore [(0, .ref 127), (1, .int (nI k)), (2, .int (nI c)), (3, .int (nI f)), (4, .int 0)] dX11_ranks_51 (by decide) rfl ?_
                exact swap f hkf (by omega) (fun q => h30 (by rw [q]; rfl)) 6 0 σ1 rfl f1 (fun j hj c' hc' => by rw [if_neg (by omega)]; exact f2.2 j hj c' hc')
              · skip
                exact absurd ((i_eq (by omega) (by omega)).mp h44) (by omega)
            · skip
              refine e_iinc (nI (f + 1)) [(0, .ref 127), (1, .int (nI k)), (2, .int (nI c)), (3, .int (nI (f + 1)))] dX11_ranks_33 3 rfl (nI_1 f) (by decide) rfl ?_
              refine e_goto (t := 11) dX11_ranks_36 (by decide) ?_
              have nn := nib_lt (V1 f) c
              exact ih2 (f + 1) (by omega) (by omega) (fun j h1 h2 => by
                by_cases e : j = f
                · rw [e]
                  exact (i_eq (by omega) (by decide)).mp (show nI (nib (V1 f) c) = nI 0 from h30)
                · exact hz j h1 (by omega))
      refine e_iload_n dX11_ranks_4 rfl 2 rfl ?_
      refine e_iconst (v := 5) dX11_ranks_5 rfl ?_
      refine e_icmp_ge (t := 196) dX11_ranks_6 (by decide) (fun h6 => ?_) (fun h6 => ?_)
      · skip
        exact absurd ((i_le (by omega) (by omega)).mp (show nI 5 ≤ nI c from h6)) (by omega)
      · skip
        refine e_iload_n dX11_ranks_9 rfl 1 rfl ?_
        refine e_istore_n [(0, .ref 127), (1, .int (nI k)), (2, .int (nI c)), (3, .int (nI k))] dX11_ranks_10 rfl (by decide) rfl ?_
        exact search (L - k) k (by omega) (Nat.le_refl k) (fun j h1 h2 => absurd h2 (by omega))
  refine e_iconst (v := 0) dX11_ranks_0 rfl ?_
  refine e_istore_n [(0, .ref 127), (1, .int 0)] dX11_ranks_1 rfl (by decide) rfl ?_
  refine e_iconst (v := 0) dX11_ranks_2 rfl ?_
  refine e_istore_n [(0, .ref 127), (1, .int 0), (2, .int 0)] dX11_ranks_3 rfl (by decide) rfl ?_
  exact outer 5 0 0 σ V rfl (fun _ _ => rfl) hM (Eli_0 hV0)
